theorem dX2_init_0 : decode cX2_init 0 = .ok (.aload_n 0, 1) := by decide +kernel
theorem dX2_init_1 : decode cX2_init 1 = .ok (.invokespecial 1, 3) := by decide +kernel
theorem dX2_init_4 : decode cX2_init 4 = .ok (.aload_n 0, 1) := by decide +kernel
theorem dX2_init_5 : decode cX2_init 5 = .ok (.bipush 16, 2) := by decide +kernel
theorem dX2_init_7 : decode cX2_init 7 = .ok (.newarray .int, 2) := by decide +kernel
theorem dX2_init_9 : decode cX2_init 9 = .ok (.putfield 7, 3) := by decide +kernel
theorem dX2_init_12 : decode cX2_init 12 = .ok (.aload_n 0, 1) := by decide +kernel
theorem dX2_init_13 : decode cX2_init 13 = .ok (.bipush 16, 2) := by decide +kernel
theorem dX2_init_15 : decode cX2_init 15 = .ok (.newarray .boolean, 2) := by decide +kernel
theorem dX2_init_17 : decode cX2_init 17 = .ok (.putfield 13, 3) := by decide +kernel
theorem dX2_init_20 : decode cX2_init 20 = .ok (.aload_n 0, 1) := by decide +kernel
theorem dX2_init_21 : decode cX2_init 21 = .ok (.sipush 1024, 3) := by decide +kernel
theorem dX2_init_24 : decode cX2_init 24 = .ok (.newarray .int, 2) := by decide +kernel
theorem dX2_init_26 : decode cX2_init 26 = .ok (.putfield 17, 3) := by decide +kernel
theorem dX2_init_29 : decode cX2_init 29 = .ok (.aload_n 0, 1) := by decide +kernel
theorem dX2_init_30 : decode cX2_init 30 = .ok (.sipush 1024, 3) := by decide +kernel
theorem dX2_init_33 : decode cX2_init 33 = .ok (.newarray .int, 2) := by decide +kernel
theorem dX2_init_35 : decode cX2_init 35 = .ok (.putfield 20, 3) := by decide +kernel
theorem dX2_init_38 : decode cX2_init 38 = .ok (.aload_n 0, 1) := by decide +kernel
theorem dX2_init_39 : decode cX2_init 39 = .ok (.sipush 200, 3) := by decide +kernel
theorem dX2_init_42 : decode cX2_init 42 = .ok (.newarray .int, 2) := by decide +kernel
theorem dX2_init_44 : decode cX2_init 44 = .ok (.putfield 23, 3) := by decide +kernel
theorem dX2_init_47 : decode cX2_init 47 = .ok (.aload_n 0, 1) := by decide +kernel
theorem dX2_init_48 : decode cX2_init 48 = .ok (.sipush 200, 3) := by decide +kernel
theorem dX2_init_51 : decode cX2_init 51 = .ok (.newarray .boolean, 2) := by decide +kernel
theorem dX2_init_53 : decode cX2_init 53 = .ok (.putfield 26, 3) := by decide +kernel
theorem dX2_init_56 : decode cX2_init 56 = .ok (.aload_n 0, 1) := by decide +kernel
theorem dX2_init_57 : decode cX2_init 57 = .ok (.sipush 200, 3) := by decide +kernel
theorem dX2_init_60 : decode cX2_init 60 = .ok (.newarray .int, 2) := by decide +kernel
theorem dX2_init_62 : decode cX2_init 62 = .ok (.putfield 29, 3) := by decide +kernel
theorem dX2_init_65 : decode cX2_init 65 = .ok (.aload_n 0, 1) := by decide +kernel
theorem dX2_init_66 : decode cX2_init 66 = .ok (.sipush 200, 3) := by decide +kernel
theorem dX2_init_69 : decode cX2_init 69 = .ok (.newarray .int, 2) := by decide +kernel
theorem dX2_init_71 : decode cX2_init 71 = .ok (.putfield 32, 3) := by decide +kernel
theorem dX2_init_74 : decode cX2_init 74 = .ok (.aload_n 0, 1) := by decide +kernel
theorem dX2_init_75 : decode cX2_init 75 = .ok (.sipush 4800, 3) := by decide +kernel
theorem dX2_init_78 : decode cX2_init 78 = .ok (.newarray .int, 2) := by decide +kernel
theorem dX2_init_80 : decode cX2_init 80 = .ok (.putfield 35, 3) := by decide +kernel
theorem dX2_init_83 : decode cX2_init 83 = .ok (.aload_n 0, 1) := by decide +kernel
theorem dX2_init_84 : decode cX2_init 84 = .ok (.sipush 4800, 3) := by decide +kernel
theorem dX2_init_87 : decode cX2_init 87 = .ok (.newarray .boolean, 2) := by decide +kernel
theorem dX2_init_89 : decode cX2_init 89 = .ok (.putfield 38, 3) := by decide +kernel
theorem dX2_init_92 : decode cX2_init 92 = .ok (.aload_n 0, 1) := by decide +kernel
theorem dX2_init_93 : decode cX2_init 93 = .ok (.bipush 96, 2) := by decide +kernel
theorem dX2_init_95 : decode cX2_init 95 = .ok (.newarray .int, 2) := by decide +kernel
theorem dX2_init_97 : decode cX2_init 97 = .ok (.putfield 41, 3) := by decide +kernel
theorem dX2_init_100 : decode cX2_init 100 = .ok (.aload_n 0, 1) := by decide +kernel
theorem dX2_init_101 : decode cX2_init 101 = .ok (.sipush 3200, 3) := by decide +kernel
theorem dX2_init_104 : decode cX2_init 104 = .ok (.newarray .int, 2) := by decide +kernel
theorem dX2_init_106 : decode cX2_init 106 = .ok (.putfield 44, 3) := by decide +kernel
theorem dX2_init_109 : decode cX2_init 109 = .ok (.aload_n 0, 1) := by decide +kernel
theorem dX2_init_110 : decode cX2_init 110 = .ok (.bipush 16, 2) := by decide +kernel
theorem dX2_init_112 : decode cX2_init 112 = .ok (.newarray .int, 2) := by decide +kernel
theorem dX2_init_114 : decode cX2_init 114 = .ok (.putfield 47, 3) := by decide +kernel
theorem dX2_init_117 : decode cX2_init 117 = .ok (.iconst 0, 1) := by decide +kernel
theorem dX2_init_118 : decode cX2_init 118 = .ok (.istore_n 1, 1) := by decide +kernel
theorem dX2_init_119 : decode cX2_init 119 = .ok (.iload_n 1, 1) := by decide +kernel
theorem dX2_init_120 : decode cX2_init 120 = .ok (.sipush 1024, 3) := by decide +kernel
theorem dX2_init_123 : decode cX2_init 123 = .ok (.if_icmp .ge 17, 3) := by decide +kernel
theorem dX2_init_126 : decode cX2_init 126 = .ok (.aload_n 0, 1) := by decide +kernel
theorem dX2_init_127 : decode cX2_init 127 = .ok (.getfield 17, 3) := by decide +kernel
theorem dX2_init_130 : decode cX2_init 130 = .ok (.iload_n 1, 1) := by decide +kernel
theorem dX2_init_131 : decode cX2_init 131 = .ok (.bipush 40, 2) := by decide +kernel
theorem dX2_init_133 : decode cX2_init 133 = .ok (.iastore, 1) := by decide +kernel
theorem dX2_init_134 : decode cX2_init 134 = .ok (.iinc 1 1, 3) := by decide +kernel
theorem dX2_init_137 : decode cX2_init 137 = .ok (.goto (-18), 3) := by decide +kernel
theorem dX2_init_140 : decode cX2_init 140 = .ok (.return_, 1) := by decide +kernel
theorem dX2_thrown_0 : decode cX2_thrown 0 = .ok (.aload_n 0, 1) := by decide +kernel
theorem dX2_thrown_1 : decode cX2_thrown 1 = .ok (.getfield 50, 3) := by decide +kernel
theorem dX2_thrown_4 : decode cX2_thrown 4 = .ok (.ireturn, 1) := by decide +kernel
theorem dX2_fails_0 : decode cX2_fails 0 = .ok (.aload_n 0, 1) := by decide +kernel
theorem dX2_fails_1 : decode cX2_fails 1 = .ok (.iload_n 1, 1) := by decide +kernel
theorem dX2_fails_2 : decode cX2_fails 2 = .ok (.ifCond .eq 7, 3) := by decide +kernel
theorem dX2_fails_5 : decode cX2_fails 5 = .ok (.iload_n 2, 1) := by decide +kernel
theorem dX2_fails_6 : decode cX2_fails 6 = .ok (.goto 4, 3) := by decide +kernel
theorem dX2_fails_9 : decode cX2_fails 9 = .ok (.iconst 0, 1) := by decide +kernel
theorem dX2_fails_10 : decode cX2_fails 10 = .ok (.putfield 50, 3) := by decide +kernel
theorem dX2_fails_13 : decode cX2_fails 13 = .ok (.iload_n 1, 1) := by decide +kernel
theorem dX2_fails_14 : decode cX2_fails 14 = .ok (.ireturn, 1) := by decide +kernel
theorem dX2_within_0 : decode cX2_within 0 = .ok (.iload_n 0, 1) := by decide +kernel
theorem dX2_within_1 : decode cX2_within 1 = .ok (.ifCond .lt 12, 3) := by decide +kernel
theorem dX2_within_4 : decode cX2_within 4 = .ok (.iload_n 0, 1) := by decide +kernel
theorem dX2_within_5 : decode cX2_within 5 = .ok (.iload_n 1, 1) := by decide +kernel
theorem dX2_within_6 : decode cX2_within 6 = .ok (.if_icmp .ge 7, 3) := by decide +kernel
theorem dX2_within_9 : decode cX2_within 9 = .ok (.iconst 1, 1) := by decide +kernel
theorem dX2_within_10 : decode cX2_within 10 = .ok (.goto 4, 3) := by decide +kernel
theorem dX2_within_13 : decode cX2_within 13 = .ok (.iconst 0, 1) := by decide +kernel
theorem dX2_within_14 : decode cX2_within 14 = .ok (.ireturn, 1) := by decide +kernel
set_option maxRecDepth 20000 in
theorem ggX2_isSubject_X2_within : GoodIn wsX2_isSubject wsX2_within := goodIn_r _ [4] (by decide +kernel) (by decide +kernel)
set_option maxRecDepth 20000 in
theorem gX2_isSubject_X2_within : GoodIn wsX2_isSubject (va_wsS RX2 54 yX2_within wsX2_within) := goodIn_app (goodIn_of _ (by decide +kernel)) ggX2_isSubject_X2_within
theorem dX2_isSubject_0 : decode cX2_isSubject 0 = .ok (.iload_n 0, 1) := by decide +kernel
theorem dX2_isSubject_1 : decode cX2_isSubject 1 = .ok (.bipush 16, 2) := by decide +kernel
theorem dX2_isSubject_3 : decode cX2_isSubject 3 = .ok (.invokestatic 54, 3) := by decide +kernel
theorem dX2_isSubject_6 : decode cX2_isSubject 6 = .ok (.ireturn, 1) := by decide +kernel
set_option maxRecDepth 20000 in
theorem ggX2_isLabel_X2_within : GoodIn wsX2_isLabel wsX2_within := goodIn_r _ [4] (by decide +kernel) (by decide +kernel)
set_option maxRecDepth 20000 in
theorem gX2_isLabel_X2_within : GoodIn wsX2_isLabel (va_wsS RX2 54 yX2_within wsX2_within) := goodIn_app (goodIn_of _ (by decide +kernel)) ggX2_isLabel_X2_within
theorem dX2_isLabel_0 : decode cX2_isLabel 0 = .ok (.iload_n 0, 1) := by decide +kernel
theorem dX2_isLabel_1 : decode cX2_isLabel 1 = .ok (.sipush 1024, 3) := by decide +kernel
theorem dX2_isLabel_4 : decode cX2_isLabel 4 = .ok (.invokestatic 54, 3) := by decide +kernel
theorem dX2_isLabel_7 : decode cX2_isLabel 7 = .ok (.ireturn, 1) := by decide +kernel
set_option maxRecDepth 20000 in
theorem ggX2_isNumber_X2_within : GoodIn wsX2_isNumber wsX2_within := goodIn_r _ [4] (by decide +kernel) (by decide +kernel)
set_option maxRecDepth 20000 in
theorem gX2_isNumber_X2_within : GoodIn wsX2_isNumber (va_wsS RX2 54 yX2_within wsX2_within) := goodIn_app (goodIn_of _ (by decide +kernel)) ggX2_isNumber_X2_within
theorem dX2_isNumber_0 : decode cX2_isNumber 0 = .ok (.iload_n 0, 1) := by decide +kernel
theorem dX2_isNumber_1 : decode cX2_isNumber 1 = .ok (.bipush 16, 2) := by decide +kernel
theorem dX2_isNumber_3 : decode cX2_isNumber 3 = .ok (.invokestatic 54, 3) := by decide +kernel
theorem dX2_isNumber_6 : decode cX2_isNumber 6 = .ok (.ireturn, 1) := by decide +kernel
theorem dX2_may_0 : decode cX2_may 0 = .ok (.iload_n 0, 1) := by decide +kernel
theorem dX2_may_1 : decode cX2_may 1 = .ok (.iconst 4, 1) := by decide +kernel
theorem dX2_may_2 : decode cX2_may 2 = .ok (.irem, 1) := by decide +kernel
theorem dX2_may_3 : decode cX2_may 3 = .ok (.iload_n 1, 1) := by decide +kernel
theorem dX2_may_4 : decode cX2_may 4 = .ok (.iconst 4, 1) := by decide +kernel
theorem dX2_may_5 : decode cX2_may 5 = .ok (.irem, 1) := by decide +kernel
theorem dX2_may_6 : decode cX2_may 6 = .ok (.if_icmp .le 5, 3) := by decide +kernel
theorem dX2_may_9 : decode cX2_may 9 = .ok (.iconst 0, 1) := by decide +kernel
theorem dX2_may_10 : decode cX2_may 10 = .ok (.ireturn, 1) := by decide +kernel
theorem dX2_may_11 : decode cX2_may 11 = .ok (.iconst 2, 1) := by decide +kernel
theorem dX2_may_12 : decode cX2_may 12 = .ok (.istore_n 2, 1) := by decide +kernel
theorem dX2_may_13 : decode cX2_may 13 = .ok (.iload_n 2, 1) := by decide +kernel
theorem dX2_may_14 : decode cX2_may 14 = .ok (.bipush 6, 2) := by decide +kernel
theorem dX2_may_16 : decode cX2_may 16 = .ok (.if_icmp .ge 24, 3) := by decide +kernel
theorem dX2_may_19 : decode cX2_may 19 = .ok (.iload_n 0, 1) := by decide +kernel
theorem dX2_may_20 : decode cX2_may 20 = .ok (.iload_n 2, 1) := by decide +kernel
theorem dX2_may_21 : decode cX2_may 21 = .ok (.ishr, 1) := by decide +kernel
theorem dX2_may_22 : decode cX2_may 22 = .ok (.iconst 1, 1) := by decide +kernel
theorem dX2_may_23 : decode cX2_may 23 = .ok (.iand, 1) := by decide +kernel
theorem dX2_may_24 : decode cX2_may 24 = .ok (.iload_n 1, 1) := by decide +kernel
theorem dX2_may_25 : decode cX2_may 25 = .ok (.iload_n 2, 1) := by decide +kernel
theorem dX2_may_26 : decode cX2_may 26 = .ok (.ishr, 1) := by decide +kernel
theorem dX2_may_27 : decode cX2_may 27 = .ok (.iconst 1, 1) := by decide +kernel
theorem dX2_may_28 : decode cX2_may 28 = .ok (.iand, 1) := by decide +kernel
theorem dX2_may_29 : decode cX2_may 29 = .ok (.if_icmp .le 5, 3) := by decide +kernel
theorem dX2_may_32 : decode cX2_may 32 = .ok (.iconst 0, 1) := by decide +kernel
theorem dX2_may_33 : decode cX2_may 33 = .ok (.ireturn, 1) := by decide +kernel
theorem dX2_may_34 : decode cX2_may 34 = .ok (.iinc 2 1, 3) := by decide +kernel
theorem dX2_may_37 : decode cX2_may 37 = .ok (.goto (-24), 3) := by decide +kernel
theorem dX2_may_40 : decode cX2_may 40 = .ok (.iload_n 0, 1) := by decide +kernel
theorem dX2_may_41 : decode cX2_may 41 = .ok (.bipush 64, 2) := by decide +kernel
theorem dX2_may_43 : decode cX2_may 43 = .ok (.idiv, 1) := by decide +kernel
theorem dX2_may_44 : decode cX2_may 44 = .ok (.iconst 4, 1) := by decide +kernel
theorem dX2_may_45 : decode cX2_may 45 = .ok (.irem, 1) := by decide +kernel
theorem dX2_may_46 : decode cX2_may 46 = .ok (.iload_n 1, 1) := by decide +kernel
theorem dX2_may_47 : decode cX2_may 47 = .ok (.bipush 64, 2) := by decide +kernel
theorem dX2_may_49 : decode cX2_may 49 = .ok (.idiv, 1) := by decide +kernel
theorem dX2_may_50 : decode cX2_may 50 = .ok (.iconst 4, 1) := by decide +kernel
theorem dX2_may_51 : decode cX2_may 51 = .ok (.irem, 1) := by decide +kernel
theorem dX2_may_52 : decode cX2_may 52 = .ok (.if_icmp .ge 5, 3) := by decide +kernel
theorem dX2_may_55 : decode cX2_may 55 = .ok (.iconst 0, 1) := by decide +kernel
theorem dX2_may_56 : decode cX2_may 56 = .ok (.ireturn, 1) := by decide +kernel
theorem dX2_may_57 : decode cX2_may 57 = .ok (.bipush 8, 2) := by decide +kernel
theorem dX2_may_59 : decode cX2_may 59 = .ok (.istore_n 2, 1) := by decide +kernel
theorem dX2_may_60 : decode cX2_may 60 = .ok (.iload_n 2, 1) := by decide +kernel
theorem dX2_may_61 : decode cX2_may 61 = .ok (.bipush 10, 2) := by decide +kernel
theorem dX2_may_63 : decode cX2_may 63 = .ok (.if_icmp .ge 24, 3) := by decide +kernel
theorem dX2_may_66 : decode cX2_may 66 = .ok (.iload_n 1, 1) := by decide +kernel
theorem dX2_may_67 : decode cX2_may 67 = .ok (.iload_n 2, 1) := by decide +kernel
theorem dX2_may_68 : decode cX2_may 68 = .ok (.ishr, 1) := by decide +kernel
theorem dX2_may_69 : decode cX2_may 69 = .ok (.iconst 1, 1) := by decide +kernel
theorem dX2_may_70 : decode cX2_may 70 = .ok (.iand, 1) := by decide +kernel
theorem dX2_may_71 : decode cX2_may 71 = .ok (.iload_n 0, 1) := by decide +kernel
theorem dX2_may_72 : decode cX2_may 72 = .ok (.iload_n 2, 1) := by decide +kernel
theorem dX2_may_73 : decode cX2_may 73 = .ok (.ishr, 1) := by decide +kernel
theorem dX2_may_74 : decode cX2_may 74 = .ok (.iconst 1, 1) := by decide +kernel
theorem dX2_may_75 : decode cX2_may 75 = .ok (.iand, 1) := by decide +kernel
theorem dX2_may_76 : decode cX2_may 76 = .ok (.if_icmp .le 5, 3) := by decide +kernel
theorem dX2_may_79 : decode cX2_may 79 = .ok (.iconst 0, 1) := by decide +kernel
theorem dX2_may_80 : decode cX2_may 80 = .ok (.ireturn, 1) := by decide +kernel
theorem dX2_may_81 : decode cX2_may 81 = .ok (.iinc 2 1, 3) := by decide +kernel
theorem dX2_may_84 : decode cX2_may 84 = .ok (.goto (-24), 3) := by decide +kernel
theorem dX2_may_87 : decode cX2_may 87 = .ok (.iconst 1, 1) := by decide +kernel
theorem dX2_may_88 : decode cX2_may 88 = .ok (.ireturn, 1) := by decide +kernel
theorem dX2_find_0 : decode cX2_find 0 = .ok (.iconst 0, 1) := by decide +kernel
theorem dX2_find_1 : decode cX2_find 1 = .ok (.istore_n 3, 1) := by decide +kernel
theorem dX2_find_2 : decode cX2_find 2 = .ok (.iload_n 3, 1) := by decide +kernel
theorem dX2_find_3 : decode cX2_find 3 = .ok (.aload_n 0, 1) := by decide +kernel
theorem dX2_find_4 : decode cX2_find 4 = .ok (.getfield 58, 3) := by decide +kernel
theorem dX2_find_7 : decode cX2_find 7 = .ok (.if_icmp .ge 26, 3) := by decide +kernel
theorem dX2_find_10 : decode cX2_find 10 = .ok (.aload_n 0, 1) := by decide +kernel
theorem dX2_find_11 : decode cX2_find 11 = .ok (.getfield 23, 3) := by decide +kernel
theorem dX2_find_14 : decode cX2_find 14 = .ok (.iload_n 3, 1) := by decide +kernel
theorem dX2_find_15 : decode cX2_find 15 = .ok (.iaload, 1) := by decide +kernel
theorem dX2_find_16 : decode cX2_find 16 = .ok (.bipush 16, 2) := by decide +kernel
theorem dX2_find_18 : decode cX2_find 18 = .ok (.iload_n 1, 1) := by decide +kernel
theorem dX2_find_19 : decode cX2_find 19 = .ok (.imul, 1) := by decide +kernel
theorem dX2_find_20 : decode cX2_find 20 = .ok (.iload_n 2, 1) := by decide +kernel
theorem dX2_find_21 : decode cX2_find 21 = .ok (.iadd, 1) := by decide +kernel
theorem dX2_find_22 : decode cX2_find 22 = .ok (.if_icmp .ne 5, 3) := by decide +kernel
theorem dX2_find_25 : decode cX2_find 25 = .ok (.iload_n 3, 1) := by decide +kernel
theorem dX2_find_26 : decode cX2_find 26 = .ok (.ireturn, 1) := by decide +kernel
theorem dX2_find_27 : decode cX2_find 27 = .ok (.iinc 3 1, 3) := by decide +kernel
theorem dX2_find_30 : decode cX2_find 30 = .ok (.goto (-28), 3) := by decide +kernel
theorem dX2_find_33 : decode cX2_find 33 = .ok (.iconst (-1), 1) := by decide +kernel
theorem dX2_find_34 : decode cX2_find 34 = .ok (.ireturn, 1) := by decide +kernel
theorem dX2_countOf_0 : decode cX2_countOf 0 = .ok (.aload_n 0, 1) := by decide +kernel
theorem dX2_countOf_1 : decode cX2_countOf 1 = .ok (.getfield 26, 3) := by decide +kernel
theorem dX2_countOf_4 : decode cX2_countOf 4 = .ok (.iload_n 1, 1) := by decide +kernel
theorem dX2_countOf_5 : decode cX2_countOf 5 = .ok (.baload, 1) := by decide +kernel
theorem dX2_countOf_6 : decode cX2_countOf 6 = .ok (.ifCond .eq 7, 3) := by decide +kernel
theorem dX2_countOf_9 : decode cX2_countOf 9 = .ok (.iconst 0, 1) := by decide +kernel
theorem dX2_countOf_10 : decode cX2_countOf 10 = .ok (.goto 4, 3) := by decide +kernel
theorem dX2_countOf_13 : decode cX2_countOf 13 = .ok (.iconst 1, 1) := by decide +kernel
theorem dX2_countOf_14 : decode cX2_countOf 14 = .ok (.istore_n 2, 1) := by decide +kernel
theorem dX2_countOf_15 : decode cX2_countOf 15 = .ok (.iconst 0, 1) := by decide +kernel
theorem dX2_countOf_16 : decode cX2_countOf 16 = .ok (.istore_n 3, 1) := by decide +kernel
theorem dX2_countOf_17 : decode cX2_countOf 17 = .ok (.iload_n 3, 1) := by decide +kernel
theorem dX2_countOf_18 : decode cX2_countOf 18 = .ok (.aload_n 0, 1) := by decide +kernel
theorem dX2_countOf_19 : decode cX2_countOf 19 = .ok (.getfield 32, 3) := by decide +kernel
theorem dX2_countOf_22 : decode cX2_countOf 22 = .ok (.iload_n 1, 1) := by decide +kernel
theorem dX2_countOf_23 : decode cX2_countOf 23 = .ok (.iaload, 1) := by decide +kernel
theorem dX2_countOf_24 : decode cX2_countOf 24 = .ok (.if_icmp .ge 31, 3) := by decide +kernel
theorem dX2_countOf_27 : decode cX2_countOf 27 = .ok (.iload_n 2, 1) := by decide +kernel
theorem dX2_countOf_28 : decode cX2_countOf 28 = .ok (.aload_n 0, 1) := by decide +kernel
theorem dX2_countOf_29 : decode cX2_countOf 29 = .ok (.getfield 38, 3) := by decide +kernel
theorem dX2_countOf_32 : decode cX2_countOf 32 = .ok (.bipush 24, 2) := by decide +kernel
theorem dX2_countOf_34 : decode cX2_countOf 34 = .ok (.iload_n 1, 1) := by decide +kernel
theorem dX2_countOf_35 : decode cX2_countOf 35 = .ok (.imul, 1) := by decide +kernel
theorem dX2_countOf_36 : decode cX2_countOf 36 = .ok (.iload_n 3, 1) := by decide +kernel
theorem dX2_countOf_37 : decode cX2_countOf 37 = .ok (.iadd, 1) := by decide +kernel
theorem dX2_countOf_38 : decode cX2_countOf 38 = .ok (.baload, 1) := by decide +kernel
theorem dX2_countOf_39 : decode cX2_countOf 39 = .ok (.ifCond .eq 7, 3) := by decide +kernel
theorem dX2_countOf_42 : decode cX2_countOf 42 = .ok (.iconst 0, 1) := by decide +kernel
theorem dX2_countOf_43 : decode cX2_countOf 43 = .ok (.goto 4, 3) := by decide +kernel
theorem dX2_countOf_46 : decode cX2_countOf 46 = .ok (.iconst 1, 1) := by decide +kernel
theorem dX2_countOf_47 : decode cX2_countOf 47 = .ok (.iadd, 1) := by decide +kernel
theorem dX2_countOf_48 : decode cX2_countOf 48 = .ok (.istore_n 2, 1) := by decide +kernel
theorem dX2_countOf_49 : decode cX2_countOf 49 = .ok (.iinc 3 1, 3) := by decide +kernel
theorem dX2_countOf_52 : decode cX2_countOf 52 = .ok (.goto (-35), 3) := by decide +kernel
theorem dX2_countOf_55 : decode cX2_countOf 55 = .ok (.iload_n 2, 1) := by decide +kernel
theorem dX2_countOf_56 : decode cX2_countOf 56 = .ok (.ireturn, 1) := by decide +kernel
set_option maxRecDepth 20000 in
theorem ggX2_uses_X2_countOf : GoodIn wsX2_uses wsX2_countOf := goodIn_r _ [8, 9, 10, 11, 12, 13, 14, 15, 16, 17, 18, 19, 20, 21, 22, 23, 24, 25, 26, 27] (by decide +kernel) (by decide +kernel)
set_option maxRecDepth 20000 in
theorem gX2_uses_X2_countOf : GoodIn wsX2_uses (wsV RX2 61 RX2 yX2_countOf wsX2_countOf) := goodIn_app (goodIn_of _ (by decide +kernel)) ggX2_uses_X2_countOf
theorem dX2_uses_0 : decode cX2_uses 0 = .ok (.aload_n 0, 1) := by decide +kernel
theorem dX2_uses_1 : decode cX2_uses 1 = .ok (.getfield 20, 3) := by decide +kernel
theorem dX2_uses_4 : decode cX2_uses 4 = .ok (.iload_n 1, 1) := by decide +kernel
theorem dX2_uses_5 : decode cX2_uses 5 = .ok (.iaload, 1) := by decide +kernel
theorem dX2_uses_6 : decode cX2_uses 6 = .ok (.istore_n 2, 1) := by decide +kernel
theorem dX2_uses_7 : decode cX2_uses 7 = .ok (.iconst 0, 1) := by decide +kernel
theorem dX2_uses_8 : decode cX2_uses 8 = .ok (.istore_n 3, 1) := by decide +kernel
theorem dX2_uses_9 : decode cX2_uses 9 = .ok (.iload_n 3, 1) := by decide +kernel
theorem dX2_uses_10 : decode cX2_uses 10 = .ok (.aload_n 0, 1) := by decide +kernel
theorem dX2_uses_11 : decode cX2_uses 11 = .ok (.getfield 58, 3) := by decide +kernel
theorem dX2_uses_14 : decode cX2_uses 14 = .ok (.if_icmp .ge 34, 3) := by decide +kernel
theorem dX2_uses_17 : decode cX2_uses 17 = .ok (.iload_n 2, 1) := by decide +kernel
theorem dX2_uses_18 : decode cX2_uses 18 = .ok (.aload_n 0, 1) := by decide +kernel
theorem dX2_uses_19 : decode cX2_uses 19 = .ok (.getfield 23, 3) := by decide +kernel
theorem dX2_uses_22 : decode cX2_uses 22 = .ok (.iload_n 3, 1) := by decide +kernel
theorem dX2_uses_23 : decode cX2_uses 23 = .ok (.iaload, 1) := by decide +kernel
theorem dX2_uses_24 : decode cX2_uses 24 = .ok (.bipush 16, 2) := by decide +kernel
theorem dX2_uses_26 : decode cX2_uses 26 = .ok (.idiv, 1) := by decide +kernel
theorem dX2_uses_27 : decode cX2_uses 27 = .ok (.iload_n 1, 1) := by decide +kernel
theorem dX2_uses_28 : decode cX2_uses 28 = .ok (.if_icmp .ne 11, 3) := by decide +kernel
theorem dX2_uses_31 : decode cX2_uses 31 = .ok (.aload_n 0, 1) := by decide +kernel
theorem dX2_uses_32 : decode cX2_uses 32 = .ok (.iload_n 3, 1) := by decide +kernel
theorem dX2_uses_33 : decode cX2_uses 33 = .ok (.invokevirtual 61, 3) := by decide +kernel
theorem dX2_uses_36 : decode cX2_uses 36 = .ok (.goto 4, 3) := by decide +kernel
theorem dX2_uses_39 : decode cX2_uses 39 = .ok (.iconst 0, 1) := by decide +kernel
theorem dX2_uses_40 : decode cX2_uses 40 = .ok (.iadd, 1) := by decide +kernel
theorem dX2_uses_41 : decode cX2_uses 41 = .ok (.istore_n 2, 1) := by decide +kernel
theorem dX2_uses_42 : decode cX2_uses 42 = .ok (.iinc 3 1, 3) := by decide +kernel
theorem dX2_uses_45 : decode cX2_uses 45 = .ok (.goto (-36), 3) := by decide +kernel
theorem dX2_uses_48 : decode cX2_uses 48 = .ok (.iload_n 2, 1) := by decide +kernel
theorem dX2_uses_49 : decode cX2_uses 49 = .ok (.ireturn, 1) := by decide +kernel
theorem dX2_add_0 : decode cX2_add 0 = .ok (.aload_n 0, 1) := by decide +kernel
theorem dX2_add_1 : decode cX2_add 1 = .ok (.getfield 23, 3) := by decide +kernel
theorem dX2_add_4 : decode cX2_add 4 = .ok (.aload_n 0, 1) := by decide +kernel
theorem dX2_add_5 : decode cX2_add 5 = .ok (.getfield 58, 3) := by decide +kernel
theorem dX2_add_8 : decode cX2_add 8 = .ok (.bipush 16, 2) := by decide +kernel
theorem dX2_add_10 : decode cX2_add 10 = .ok (.iload_n 1, 1) := by decide +kernel
theorem dX2_add_11 : decode cX2_add 11 = .ok (.imul, 1) := by decide +kernel
theorem dX2_add_12 : decode cX2_add 12 = .ok (.iload_n 2, 1) := by decide +kernel
theorem dX2_add_13 : decode cX2_add 13 = .ok (.iadd, 1) := by decide +kernel
theorem dX2_add_14 : decode cX2_add 14 = .ok (.iastore, 1) := by decide +kernel
theorem dX2_add_15 : decode cX2_add 15 = .ok (.aload_n 0, 1) := by decide +kernel
theorem dX2_add_16 : decode cX2_add 16 = .ok (.getfield 26, 3) := by decide +kernel
theorem dX2_add_19 : decode cX2_add 19 = .ok (.aload_n 0, 1) := by decide +kernel
theorem dX2_add_20 : decode cX2_add 20 = .ok (.getfield 58, 3) := by decide +kernel
theorem dX2_add_23 : decode cX2_add 23 = .ok (.iload 4, 2) := by decide +kernel
theorem dX2_add_25 : decode cX2_add 25 = .ok (.bastore, 1) := by decide +kernel
theorem dX2_add_26 : decode cX2_add 26 = .ok (.aload_n 0, 1) := by decide +kernel
theorem dX2_add_27 : decode cX2_add 27 = .ok (.getfield 29, 3) := by decide +kernel
theorem dX2_add_30 : decode cX2_add 30 = .ok (.aload_n 0, 1) := by decide +kernel
theorem dX2_add_31 : decode cX2_add 31 = .ok (.getfield 58, 3) := by decide +kernel
theorem dX2_add_34 : decode cX2_add 34 = .ok (.iload_n 3, 1) := by decide +kernel
theorem dX2_add_35 : decode cX2_add 35 = .ok (.iastore, 1) := by decide +kernel
theorem dX2_add_36 : decode cX2_add 36 = .ok (.aload_n 0, 1) := by decide +kernel
theorem dX2_add_37 : decode cX2_add 37 = .ok (.getfield 32, 3) := by decide +kernel
theorem dX2_add_40 : decode cX2_add 40 = .ok (.aload_n 0, 1) := by decide +kernel
theorem dX2_add_41 : decode cX2_add 41 = .ok (.getfield 58, 3) := by decide +kernel
theorem dX2_add_44 : decode cX2_add 44 = .ok (.iconst 0, 1) := by decide +kernel
theorem dX2_add_45 : decode cX2_add 45 = .ok (.iastore, 1) := by decide +kernel
theorem dX2_add_46 : decode cX2_add 46 = .ok (.aload_n 0, 1) := by decide +kernel
theorem dX2_add_47 : decode cX2_add 47 = .ok (.dup, 1) := by decide +kernel
theorem dX2_add_48 : decode cX2_add 48 = .ok (.getfield 58, 3) := by decide +kernel
theorem dX2_add_51 : decode cX2_add 51 = .ok (.iconst 1, 1) := by decide +kernel
theorem dX2_add_52 : decode cX2_add 52 = .ok (.iadd, 1) := by decide +kernel
theorem dX2_add_53 : decode cX2_add 53 = .ok (.putfield 58, 3) := by decide +kernel
theorem dX2_add_56 : decode cX2_add 56 = .ok (.aload_n 0, 1) := by decide +kernel
theorem dX2_add_57 : decode cX2_add 57 = .ok (.getfield 58, 3) := by decide +kernel
theorem dX2_add_60 : decode cX2_add 60 = .ok (.iconst 1, 1) := by decide +kernel
theorem dX2_add_61 : decode cX2_add 61 = .ok (.isub, 1) := by decide +kernel
theorem dX2_add_62 : decode cX2_add 62 = .ok (.ireturn, 1) := by decide +kernel
theorem dX2_move_0 : decode cX2_move 0 = .ok (.aload_n 0, 1) := by decide +kernel
theorem dX2_move_1 : decode cX2_move 1 = .ok (.getfield 23, 3) := by decide +kernel
theorem dX2_move_4 : decode cX2_move 4 = .ok (.iload_n 1, 1) := by decide +kernel
theorem dX2_move_5 : decode cX2_move 5 = .ok (.aload_n 0, 1) := by decide +kernel
theorem dX2_move_6 : decode cX2_move 6 = .ok (.getfield 23, 3) := by decide +kernel
theorem dX2_move_9 : decode cX2_move 9 = .ok (.iload_n 2, 1) := by decide +kernel
theorem dX2_move_10 : decode cX2_move 10 = .ok (.iaload, 1) := by decide +kernel
theorem dX2_move_11 : decode cX2_move 11 = .ok (.iastore, 1) := by decide +kernel
theorem dX2_move_12 : decode cX2_move 12 = .ok (.aload_n 0, 1) := by decide +kernel
theorem dX2_move_13 : decode cX2_move 13 = .ok (.getfield 26, 3) := by decide +kernel
theorem dX2_move_16 : decode cX2_move 16 = .ok (.iload_n 1, 1) := by decide +kernel
theorem dX2_move_17 : decode cX2_move 17 = .ok (.aload_n 0, 1) := by decide +kernel
theorem dX2_move_18 : decode cX2_move 18 = .ok (.getfield 26, 3) := by decide +kernel
theorem dX2_move_21 : decode cX2_move 21 = .ok (.iload_n 2, 1) := by decide +kernel
theorem dX2_move_22 : decode cX2_move 22 = .ok (.baload, 1) := by decide +kernel
theorem dX2_move_23 : decode cX2_move 23 = .ok (.bastore, 1) := by decide +kernel
theorem dX2_move_24 : decode cX2_move 24 = .ok (.aload_n 0, 1) := by decide +kernel
theorem dX2_move_25 : decode cX2_move 25 = .ok (.getfield 29, 3) := by decide +kernel
theorem dX2_move_28 : decode cX2_move 28 = .ok (.iload_n 1, 1) := by decide +kernel
theorem dX2_move_29 : decode cX2_move 29 = .ok (.aload_n 0, 1) := by decide +kernel
theorem dX2_move_30 : decode cX2_move 30 = .ok (.getfield 29, 3) := by decide +kernel
theorem dX2_move_33 : decode cX2_move 33 = .ok (.iload_n 2, 1) := by decide +kernel
theorem dX2_move_34 : decode cX2_move 34 = .ok (.iaload, 1) := by decide +kernel
theorem dX2_move_35 : decode cX2_move 35 = .ok (.iastore, 1) := by decide +kernel
theorem dX2_move_36 : decode cX2_move 36 = .ok (.aload_n 0, 1) := by decide +kernel
theorem dX2_move_37 : decode cX2_move 37 = .ok (.getfield 32, 3) := by decide +kernel
theorem dX2_move_40 : decode cX2_move 40 = .ok (.iload_n 1, 1) := by decide +kernel
theorem dX2_move_41 : decode cX2_move 41 = .ok (.aload_n 0, 1) := by decide +kernel
theorem dX2_move_42 : decode cX2_move 42 = .ok (.getfield 32, 3) := by decide +kernel
theorem dX2_move_45 : decode cX2_move 45 = .ok (.iload_n 2, 1) := by decide +kernel
theorem dX2_move_46 : decode cX2_move 46 = .ok (.iaload, 1) := by decide +kernel
theorem dX2_move_47 : decode cX2_move 47 = .ok (.iastore, 1) := by decide +kernel
theorem dX2_move_48 : decode cX2_move 48 = .ok (.iconst 0, 1) := by decide +kernel
theorem dX2_move_49 : decode cX2_move 49 = .ok (.istore_n 3, 1) := by decide +kernel
theorem dX2_move_50 : decode cX2_move 50 = .ok (.iload_n 3, 1) := by decide +kernel
theorem dX2_move_51 : decode cX2_move 51 = .ok (.bipush 24, 2) := by decide +kernel
theorem dX2_move_53 : decode cX2_move 53 = .ok (.if_icmp .ge 53, 3) := by decide +kernel
theorem dX2_move_56 : decode cX2_move 56 = .ok (.aload_n 0, 1) := by decide +kernel
theorem dX2_move_57 : decode cX2_move 57 = .ok (.getfield 35, 3) := by decide +kernel
theorem dX2_move_60 : decode cX2_move 60 = .ok (.bipush 24, 2) := by decide +kernel
theorem dX2_move_62 : decode cX2_move 62 = .ok (.iload_n 1, 1) := by decide +kernel
theorem dX2_move_63 : decode cX2_move 63 = .ok (.imul, 1) := by decide +kernel
theorem dX2_move_64 : decode cX2_move 64 = .ok (.iload_n 3, 1) := by decide +kernel
theorem dX2_move_65 : decode cX2_move 65 = .ok (.iadd, 1) := by decide +kernel
theorem dX2_move_66 : decode cX2_move 66 = .ok (.aload_n 0, 1) := by decide +kernel
theorem dX2_move_67 : decode cX2_move 67 = .ok (.getfield 35, 3) := by decide +kernel
theorem dX2_move_70 : decode cX2_move 70 = .ok (.bipush 24, 2) := by decide +kernel
theorem dX2_move_72 : decode cX2_move 72 = .ok (.iload_n 2, 1) := by decide +kernel
theorem dX2_move_73 : decode cX2_move 73 = .ok (.imul, 1) := by decide +kernel
theorem dX2_move_74 : decode cX2_move 74 = .ok (.iload_n 3, 1) := by decide +kernel
theorem dX2_move_75 : decode cX2_move 75 = .ok (.iadd, 1) := by decide +kernel
theorem dX2_move_76 : decode cX2_move 76 = .ok (.iaload, 1) := by decide +kernel
theorem dX2_move_77 : decode cX2_move 77 = .ok (.iastore, 1) := by decide +kernel
theorem dX2_move_78 : decode cX2_move 78 = .ok (.aload_n 0, 1) := by decide +kernel
theorem dX2_move_79 : decode cX2_move 79 = .ok (.getfield 38, 3) := by decide +kernel
theorem dX2_move_82 : decode cX2_move 82 = .ok (.bipush 24, 2) := by decide +kernel
theorem dX2_move_84 : decode cX2_move 84 = .ok (.iload_n 1, 1) := by decide +kernel
theorem dX2_move_85 : decode cX2_move 85 = .ok (.imul, 1) := by decide +kernel
theorem dX2_move_86 : decode cX2_move 86 = .ok (.iload_n 3, 1) := by decide +kernel
theorem dX2_move_87 : decode cX2_move 87 = .ok (.iadd, 1) := by decide +kernel
theorem dX2_move_88 : decode cX2_move 88 = .ok (.aload_n 0, 1) := by decide +kernel
theorem dX2_move_89 : decode cX2_move 89 = .ok (.getfield 38, 3) := by decide +kernel
theorem dX2_move_92 : decode cX2_move 92 = .ok (.bipush 24, 2) := by decide +kernel
theorem dX2_move_94 : decode cX2_move 94 = .ok (.iload_n 2, 1) := by decide +kernel
theorem dX2_move_95 : decode cX2_move 95 = .ok (.imul, 1) := by decide +kernel
theorem dX2_move_96 : decode cX2_move 96 = .ok (.iload_n 3, 1) := by decide +kernel
theorem dX2_move_97 : decode cX2_move 97 = .ok (.iadd, 1) := by decide +kernel
theorem dX2_move_98 : decode cX2_move 98 = .ok (.baload, 1) := by decide +kernel
theorem dX2_move_99 : decode cX2_move 99 = .ok (.bastore, 1) := by decide +kernel
theorem dX2_move_100 : decode cX2_move 100 = .ok (.iinc 3 1, 3) := by decide +kernel
theorem dX2_move_103 : decode cX2_move 103 = .ok (.goto (-53), 3) := by decide +kernel
theorem dX2_move_106 : decode cX2_move 106 = .ok (.return_, 1) := by decide +kernel
theorem dX2_append_0 : decode cX2_append 0 = .ok (.aload_n 0, 1) := by decide +kernel
theorem dX2_append_1 : decode cX2_append 1 = .ok (.getfield 35, 3) := by decide +kernel
theorem dX2_append_4 : decode cX2_append 4 = .ok (.bipush 24, 2) := by decide +kernel
theorem dX2_append_6 : decode cX2_append 6 = .ok (.iload_n 1, 1) := by decide +kernel
theorem dX2_append_7 : decode cX2_append 7 = .ok (.imul, 1) := by decide +kernel
theorem dX2_append_8 : decode cX2_append 8 = .ok (.aload_n 0, 1) := by decide +kernel
theorem dX2_append_9 : decode cX2_append 9 = .ok (.getfield 32, 3) := by decide +kernel
theorem dX2_append_12 : decode cX2_append 12 = .ok (.iload_n 1, 1) := by decide +kernel
theorem dX2_append_13 : decode cX2_append 13 = .ok (.iaload, 1) := by decide +kernel
theorem dX2_append_14 : decode cX2_append 14 = .ok (.iadd, 1) := by decide +kernel
theorem dX2_append_15 : decode cX2_append 15 = .ok (.iload_n 2, 1) := by decide +kernel
theorem dX2_append_16 : decode cX2_append 16 = .ok (.iastore, 1) := by decide +kernel
theorem dX2_append_17 : decode cX2_append 17 = .ok (.aload_n 0, 1) := by decide +kernel
theorem dX2_append_18 : decode cX2_append 18 = .ok (.getfield 38, 3) := by decide +kernel
theorem dX2_append_21 : decode cX2_append 21 = .ok (.bipush 24, 2) := by decide +kernel
theorem dX2_append_23 : decode cX2_append 23 = .ok (.iload_n 1, 1) := by decide +kernel
theorem dX2_append_24 : decode cX2_append 24 = .ok (.imul, 1) := by decide +kernel
theorem dX2_append_25 : decode cX2_append 25 = .ok (.aload_n 0, 1) := by decide +kernel
theorem dX2_append_26 : decode cX2_append 26 = .ok (.getfield 32, 3) := by decide +kernel
theorem dX2_append_29 : decode cX2_append 29 = .ok (.iload_n 1, 1) := by decide +kernel
theorem dX2_append_30 : decode cX2_append 30 = .ok (.iaload, 1) := by decide +kernel
theorem dX2_append_31 : decode cX2_append 31 = .ok (.iadd, 1) := by decide +kernel
theorem dX2_append_32 : decode cX2_append 32 = .ok (.iload_n 3, 1) := by decide +kernel
theorem dX2_append_33 : decode cX2_append 33 = .ok (.bastore, 1) := by decide +kernel
theorem dX2_append_34 : decode cX2_append 34 = .ok (.aload_n 0, 1) := by decide +kernel
theorem dX2_append_35 : decode cX2_append 35 = .ok (.getfield 32, 3) := by decide +kernel
theorem dX2_append_38 : decode cX2_append 38 = .ok (.iload_n 1, 1) := by decide +kernel
theorem dX2_append_39 : decode cX2_append 39 = .ok (.dup2, 1) := by decide +kernel
theorem dX2_append_40 : decode cX2_append 40 = .ok (.iaload, 1) := by decide +kernel
theorem dX2_append_41 : decode cX2_append 41 = .ok (.iconst 1, 1) := by decide +kernel
theorem dX2_append_42 : decode cX2_append 42 = .ok (.iadd, 1) := by decide +kernel
theorem dX2_append_43 : decode cX2_append 43 = .ok (.iastore, 1) := by decide +kernel
theorem dX2_append_44 : decode cX2_append 44 = .ok (.return_, 1) := by decide +kernel
set_option maxRecDepth 20000 in
theorem ggX2_subject_X2_isSubject : GoodIn wsX2_subject wsX2_isSubject := goodIn_r _ [6, 7, 8, 5, 9] (by decide +kernel) (by decide +kernel)
set_option maxRecDepth 20000 in
theorem gX2_subject_X2_isSubject : GoodIn wsX2_subject (va_wsS RX2 65 yX2_isSubject wsX2_isSubject) := goodIn_app (goodIn_of _ (by decide +kernel)) ggX2_subject_X2_isSubject
set_option maxRecDepth 20000 in
theorem ggX2_subject_X2_isLabel : GoodIn wsX2_subject wsX2_isLabel := goodIn_r _ [12, 7, 8, 5, 9] (by decide +kernel) (by decide +kernel)
set_option maxRecDepth 20000 in
theorem gX2_subject_X2_isLabel : GoodIn wsX2_subject (va_wsS RX2 69 yX2_isLabel wsX2_isLabel) := goodIn_app (goodIn_of _ (by decide +kernel)) ggX2_subject_X2_isLabel
set_option maxRecDepth 20000 in
theorem ggX2_subject_X2_fails : GoodIn wsX2_subject wsX2_fails := goodIn_r _ [16, 17, 18, 19, 20, 21, 22, 23, 24, 25, 26, 27, 28, 29, 30, 31, 32, 33] (by decide +kernel) (by decide +kernel)
set_option maxRecDepth 20000 in
theorem gX2_subject_X2_fails : GoodIn wsX2_subject (wsV RX2 72 RX2 yX2_fails wsX2_fails) := goodIn_app (goodIn_of _ (by decide +kernel)) ggX2_subject_X2_fails
theorem dX2_subject_0 : decode cX2_subject 0 = .ok (.aload_n 0, 1) := by decide +kernel
theorem dX2_subject_1 : decode cX2_subject 1 = .ok (.iload_n 1, 1) := by decide +kernel
theorem dX2_subject_2 : decode cX2_subject 2 = .ok (.invokestatic 65, 3) := by decide +kernel
theorem dX2_subject_5 : decode cX2_subject 5 = .ok (.ifCond .eq 10, 3) := by decide +kernel
theorem dX2_subject_8 : decode cX2_subject 8 = .ok (.iload_n 2, 1) := by decide +kernel
theorem dX2_subject_9 : decode cX2_subject 9 = .ok (.invokestatic 69, 3) := by decide +kernel
theorem dX2_subject_12 : decode cX2_subject 12 = .ok (.ifCond .ne 7, 3) := by decide +kernel
theorem dX2_subject_15 : decode cX2_subject 15 = .ok (.iconst 1, 1) := by decide +kernel
theorem dX2_subject_16 : decode cX2_subject 16 = .ok (.goto 4, 3) := by decide +kernel
theorem dX2_subject_19 : decode cX2_subject 19 = .ok (.iconst 0, 1) := by decide +kernel
theorem dX2_subject_20 : decode cX2_subject 20 = .ok (.iconst 1, 1) := by decide +kernel
theorem dX2_subject_21 : decode cX2_subject 21 = .ok (.invokevirtual 72, 3) := by decide +kernel
theorem dX2_subject_24 : decode cX2_subject 24 = .ok (.ifCond .ne 12, 3) := by decide +kernel
theorem dX2_subject_27 : decode cX2_subject 27 = .ok (.aload_n 0, 1) := by decide +kernel
theorem dX2_subject_28 : decode cX2_subject 28 = .ok (.getfield 13, 3) := by decide +kernel
theorem dX2_subject_31 : decode cX2_subject 31 = .ok (.iload_n 1, 1) := by decide +kernel
theorem dX2_subject_32 : decode cX2_subject 32 = .ok (.baload, 1) := by decide +kernel
theorem dX2_subject_33 : decode cX2_subject 33 = .ok (.ifCond .eq 5, 3) := by decide +kernel
theorem dX2_subject_36 : decode cX2_subject 36 = .ok (.iconst 0, 1) := by decide +kernel
theorem dX2_subject_37 : decode cX2_subject 37 = .ok (.ireturn, 1) := by decide +kernel
theorem dX2_subject_38 : decode cX2_subject 38 = .ok (.aload_n 0, 1) := by decide +kernel
theorem dX2_subject_39 : decode cX2_subject 39 = .ok (.getfield 13, 3) := by decide +kernel
theorem dX2_subject_42 : decode cX2_subject 42 = .ok (.iload_n 1, 1) := by decide +kernel
theorem dX2_subject_43 : decode cX2_subject 43 = .ok (.iconst 1, 1) := by decide +kernel
theorem dX2_subject_44 : decode cX2_subject 44 = .ok (.bastore, 1) := by decide +kernel
theorem dX2_subject_45 : decode cX2_subject 45 = .ok (.aload_n 0, 1) := by decide +kernel
theorem dX2_subject_46 : decode cX2_subject 46 = .ok (.getfield 7, 3) := by decide +kernel
theorem dX2_subject_49 : decode cX2_subject 49 = .ok (.iload_n 1, 1) := by decide +kernel
theorem dX2_subject_50 : decode cX2_subject 50 = .ok (.iload_n 2, 1) := by decide +kernel
theorem dX2_subject_51 : decode cX2_subject 51 = .ok (.iastore, 1) := by decide +kernel
theorem dX2_subject_52 : decode cX2_subject 52 = .ok (.iconst 1, 1) := by decide +kernel
theorem dX2_subject_53 : decode cX2_subject 53 = .ok (.ireturn, 1) := by decide +kernel
set_option maxRecDepth 20000 in
theorem ggX2_quota_X2_isLabel : GoodIn wsX2_quota wsX2_isLabel := goodIn_r _ [5, 6, 7, 4, 8] (by decide +kernel) (by decide +kernel)
set_option maxRecDepth 20000 in
theorem gX2_quota_X2_isLabel : GoodIn wsX2_quota (va_wsS RX2 69 yX2_isLabel wsX2_isLabel) := goodIn_app (goodIn_of _ (by decide +kernel)) ggX2_quota_X2_isLabel
set_option maxRecDepth 20000 in
theorem ggX2_quota_X2_within : GoodIn wsX2_quota wsX2_within := goodIn_r _ [8] (by decide +kernel) (by decide +kernel)
set_option maxRecDepth 20000 in
theorem gX2_quota_X2_within : GoodIn wsX2_quota (va_wsS RX2 54 yX2_within wsX2_within) := goodIn_app (goodIn_of _ (by decide +kernel)) ggX2_quota_X2_within
set_option maxRecDepth 20000 in
theorem ggX2_quota_X2_fails : GoodIn wsX2_quota wsX2_fails := goodIn_r _ [12, 13, 14, 15, 16, 17, 18, 19, 20, 21, 22, 23, 24, 25, 26, 27, 28, 29] (by decide +kernel) (by decide +kernel)
set_option maxRecDepth 20000 in
theorem gX2_quota_X2_fails : GoodIn wsX2_quota (wsV RX2 72 RX2 yX2_fails wsX2_fails) := goodIn_app (goodIn_of _ (by decide +kernel)) ggX2_quota_X2_fails
theorem dX2_quota_0 : decode cX2_quota 0 = .ok (.aload_n 0, 1) := by decide +kernel
theorem dX2_quota_1 : decode cX2_quota 1 = .ok (.iload_n 1, 1) := by decide +kernel
theorem dX2_quota_2 : decode cX2_quota 2 = .ok (.invokestatic 69, 3) := by decide +kernel
theorem dX2_quota_5 : decode cX2_quota 5 = .ok (.ifCond .eq 13, 3) := by decide +kernel
theorem dX2_quota_8 : decode cX2_quota 8 = .ok (.iload_n 2, 1) := by decide +kernel
theorem dX2_quota_9 : decode cX2_quota 9 = .ok (.sipush 1001, 3) := by decide +kernel
theorem dX2_quota_12 : decode cX2_quota 12 = .ok (.invokestatic 54, 3) := by decide +kernel
theorem dX2_quota_15 : decode cX2_quota 15 = .ok (.ifCond .ne 7, 3) := by decide +kernel
theorem dX2_quota_18 : decode cX2_quota 18 = .ok (.iconst 1, 1) := by decide +kernel
theorem dX2_quota_19 : decode cX2_quota 19 = .ok (.goto 4, 3) := by decide +kernel
theorem dX2_quota_22 : decode cX2_quota 22 = .ok (.iconst 0, 1) := by decide +kernel
theorem dX2_quota_23 : decode cX2_quota 23 = .ok (.iconst 1, 1) := by decide +kernel
theorem dX2_quota_24 : decode cX2_quota 24 = .ok (.invokevirtual 72, 3) := by decide +kernel
theorem dX2_quota_27 : decode cX2_quota 27 = .ok (.ifCond .eq 5, 3) := by decide +kernel
theorem dX2_quota_30 : decode cX2_quota 30 = .ok (.iconst 0, 1) := by decide +kernel
theorem dX2_quota_31 : decode cX2_quota 31 = .ok (.ireturn, 1) := by decide +kernel
theorem dX2_quota_32 : decode cX2_quota 32 = .ok (.aload_n 0, 1) := by decide +kernel
theorem dX2_quota_33 : decode cX2_quota 33 = .ok (.getfield 17, 3) := by decide +kernel
theorem dX2_quota_36 : decode cX2_quota 36 = .ok (.iload_n 1, 1) := by decide +kernel
theorem dX2_quota_37 : decode cX2_quota 37 = .ok (.iaload, 1) := by decide +kernel
theorem dX2_quota_38 : decode cX2_quota 38 = .ok (.istore_n 3, 1) := by decide +kernel
theorem dX2_quota_39 : decode cX2_quota 39 = .ok (.aload_n 0, 1) := by decide +kernel
theorem dX2_quota_40 : decode cX2_quota 40 = .ok (.getfield 17, 3) := by decide +kernel
theorem dX2_quota_43 : decode cX2_quota 43 = .ok (.iload_n 1, 1) := by decide +kernel
theorem dX2_quota_44 : decode cX2_quota 44 = .ok (.iload_n 2, 1) := by decide +kernel
theorem dX2_quota_45 : decode cX2_quota 45 = .ok (.iastore, 1) := by decide +kernel
theorem dX2_quota_46 : decode cX2_quota 46 = .ok (.iload_n 3, 1) := by decide +kernel
theorem dX2_quota_47 : decode cX2_quota 47 = .ok (.ireturn, 1) := by decide +kernel
theorem dX2_listOf_0 : decode cX2_listOf 0 = .ok (.iconst 0, 1) := by decide +kernel
theorem dX2_listOf_1 : decode cX2_listOf 1 = .ok (.istore 4, 2) := by decide +kernel
theorem dX2_listOf_3 : decode cX2_listOf 3 = .ok (.iload 4, 2) := by decide +kernel
theorem dX2_listOf_5 : decode cX2_listOf 5 = .ok (.aload_n 0, 1) := by decide +kernel
theorem dX2_listOf_6 : decode cX2_listOf 6 = .ok (.getfield 76, 3) := by decide +kernel
theorem dX2_listOf_9 : decode cX2_listOf 9 = .ok (.if_icmp .ge 55, 3) := by decide +kernel
theorem dX2_listOf_12 : decode cX2_listOf 12 = .ok (.aload_n 0, 1) := by decide +kernel
theorem dX2_listOf_13 : decode cX2_listOf 13 = .ok (.getfield 41, 3) := by decide +kernel
theorem dX2_listOf_16 : decode cX2_listOf 16 = .ok (.iconst 3, 1) := by decide +kernel
theorem dX2_listOf_17 : decode cX2_listOf 17 = .ok (.iload 4, 2) := by decide +kernel
theorem dX2_listOf_19 : decode cX2_listOf 19 = .ok (.imul, 1) := by decide +kernel
theorem dX2_listOf_20 : decode cX2_listOf 20 = .ok (.iaload, 1) := by decide +kernel
theorem dX2_listOf_21 : decode cX2_listOf 21 = .ok (.iload_n 1, 1) := by decide +kernel
theorem dX2_listOf_22 : decode cX2_listOf 22 = .ok (.if_icmp .ne 36, 3) := by decide +kernel
theorem dX2_listOf_25 : decode cX2_listOf 25 = .ok (.aload_n 0, 1) := by decide +kernel
theorem dX2_listOf_26 : decode cX2_listOf 26 = .ok (.getfield 41, 3) := by decide +kernel
theorem dX2_listOf_29 : decode cX2_listOf 29 = .ok (.iconst 3, 1) := by decide +kernel
theorem dX2_listOf_30 : decode cX2_listOf 30 = .ok (.iload 4, 2) := by decide +kernel
theorem dX2_listOf_32 : decode cX2_listOf 32 = .ok (.imul, 1) := by decide +kernel
theorem dX2_listOf_33 : decode cX2_listOf 33 = .ok (.iconst 1, 1) := by decide +kernel
theorem dX2_listOf_34 : decode cX2_listOf 34 = .ok (.iadd, 1) := by decide +kernel
theorem dX2_listOf_35 : decode cX2_listOf 35 = .ok (.iaload, 1) := by decide +kernel
theorem dX2_listOf_36 : decode cX2_listOf 36 = .ok (.iload_n 2, 1) := by decide +kernel
theorem dX2_listOf_37 : decode cX2_listOf 37 = .ok (.if_icmp .ne 21, 3) := by decide +kernel
theorem dX2_listOf_40 : decode cX2_listOf 40 = .ok (.aload_n 0, 1) := by decide +kernel
theorem dX2_listOf_41 : decode cX2_listOf 41 = .ok (.getfield 41, 3) := by decide +kernel
theorem dX2_listOf_44 : decode cX2_listOf 44 = .ok (.iconst 3, 1) := by decide +kernel
theorem dX2_listOf_45 : decode cX2_listOf 45 = .ok (.iload 4, 2) := by decide +kernel
theorem dX2_listOf_47 : decode cX2_listOf 47 = .ok (.imul, 1) := by decide +kernel
theorem dX2_listOf_48 : decode cX2_listOf 48 = .ok (.iconst 2, 1) := by decide +kernel
theorem dX2_listOf_49 : decode cX2_listOf 49 = .ok (.iadd, 1) := by decide +kernel
theorem dX2_listOf_50 : decode cX2_listOf 50 = .ok (.iaload, 1) := by decide +kernel
theorem dX2_listOf_51 : decode cX2_listOf 51 = .ok (.iload_n 3, 1) := by decide +kernel
theorem dX2_listOf_52 : decode cX2_listOf 52 = .ok (.if_icmp .ne 6, 3) := by decide +kernel
theorem dX2_listOf_55 : decode cX2_listOf 55 = .ok (.iload 4, 2) := by decide +kernel
theorem dX2_listOf_57 : decode cX2_listOf 57 = .ok (.ireturn, 1) := by decide +kernel
theorem dX2_listOf_58 : decode cX2_listOf 58 = .ok (.iinc 4 1, 3) := by decide +kernel
theorem dX2_listOf_61 : decode cX2_listOf 61 = .ok (.goto (-58), 3) := by decide +kernel
theorem dX2_listOf_64 : decode cX2_listOf 64 = .ok (.iconst (-1), 1) := by decide +kernel
theorem dX2_listOf_65 : decode cX2_listOf 65 = .ok (.ireturn, 1) := by decide +kernel
set_option maxRecDepth 20000 in
theorem ggX2_list_X2_isSubject : GoodIn wsX2_list wsX2_isSubject := goodIn_r _ [6, 7, 8, 5, 9] (by decide +kernel) (by decide +kernel)
set_option maxRecDepth 20000 in
theorem gX2_list_X2_isSubject : GoodIn wsX2_list (va_wsS RX2 65 yX2_isSubject wsX2_isSubject) := goodIn_app (goodIn_of _ (by decide +kernel)) ggX2_list_X2_isSubject
set_option maxRecDepth 20000 in
theorem ggX2_list_X2_isLabel : GoodIn wsX2_list wsX2_isLabel := goodIn_r _ [12, 7, 8, 5, 9] (by decide +kernel) (by decide +kernel)
set_option maxRecDepth 20000 in
theorem gX2_list_X2_isLabel : GoodIn wsX2_list (va_wsS RX2 69 yX2_isLabel wsX2_isLabel) := goodIn_app (goodIn_of _ (by decide +kernel)) ggX2_list_X2_isLabel
set_option maxRecDepth 20000 in
theorem ggX2_list_X2_fails : GoodIn wsX2_list wsX2_fails := goodIn_r _ [16, 17, 22, 23, 24, 25, 26, 27, 28, 29, 30, 31, 32, 33, 34, 35, 36, 37] (by decide +kernel) (by decide +kernel)
set_option maxRecDepth 20000 in
theorem gX2_list_X2_fails : GoodIn wsX2_list (wsV RX2 72 RX2 yX2_fails wsX2_fails) := goodIn_app (goodIn_of _ (by decide +kernel)) ggX2_list_X2_fails
set_option maxRecDepth 20000 in
theorem ggX2_list_X2_listOf : GoodIn wsX2_list wsX2_listOf := goodIn_r _ [21, 1, 2, 22, 23, 24, 25, 26, 27, 28, 29, 30, 31, 32, 33, 34, 35, 36, 37] (by decide +kernel) (by decide +kernel)
set_option maxRecDepth 20000 in
theorem gX2_list_X2_listOf : GoodIn wsX2_list (wsV RX2 79 RX2 yX2_listOf wsX2_listOf) := goodIn_app (goodIn_of _ (by decide +kernel)) ggX2_list_X2_listOf
theorem dX2_list_0 : decode cX2_list 0 = .ok (.aload_n 0, 1) := by decide +kernel
theorem dX2_list_1 : decode cX2_list 1 = .ok (.iload_n 1, 1) := by decide +kernel
theorem dX2_list_2 : decode cX2_list 2 = .ok (.invokestatic 65, 3) := by decide +kernel
theorem dX2_list_5 : decode cX2_list 5 = .ok (.ifCond .eq 22, 3) := by decide +kernel
theorem dX2_list_8 : decode cX2_list 8 = .ok (.iload_n 2, 1) := by decide +kernel
theorem dX2_list_9 : decode cX2_list 9 = .ok (.invokestatic 69, 3) := by decide +kernel
theorem dX2_list_12 : decode cX2_list 12 = .ok (.ifCond .eq 15, 3) := by decide +kernel
theorem dX2_list_15 : decode cX2_list 15 = .ok (.iload_n 3, 1) := by decide +kernel
theorem dX2_list_16 : decode cX2_list 16 = .ok (.invokestatic 69, 3) := by decide +kernel
theorem dX2_list_19 : decode cX2_list 19 = .ok (.ifCond .eq 8, 3) := by decide +kernel
theorem dX2_list_22 : decode cX2_list 22 = .ok (.iload_n 2, 1) := by decide +kernel
theorem dX2_list_23 : decode cX2_list 23 = .ok (.iload_n 3, 1) := by decide +kernel
theorem dX2_list_24 : decode cX2_list 24 = .ok (.if_icmp .ne 7, 3) := by decide +kernel
theorem dX2_list_27 : decode cX2_list 27 = .ok (.iconst 1, 1) := by decide +kernel
theorem dX2_list_28 : decode cX2_list 28 = .ok (.goto 4, 3) := by decide +kernel
theorem dX2_list_31 : decode cX2_list 31 = .ok (.iconst 0, 1) := by decide +kernel
theorem dX2_list_32 : decode cX2_list 32 = .ok (.iconst 1, 1) := by decide +kernel
theorem dX2_list_33 : decode cX2_list 33 = .ok (.invokevirtual 72, 3) := by decide +kernel
theorem dX2_list_36 : decode cX2_list 36 = .ok (.ifCond .eq 5, 3) := by decide +kernel
theorem dX2_list_39 : decode cX2_list 39 = .ok (.iconst 0, 1) := by decide +kernel
theorem dX2_list_40 : decode cX2_list 40 = .ok (.ireturn, 1) := by decide +kernel
theorem dX2_list_41 : decode cX2_list 41 = .ok (.aload_n 0, 1) := by decide +kernel
theorem dX2_list_42 : decode cX2_list 42 = .ok (.iload_n 1, 1) := by decide +kernel
theorem dX2_list_43 : decode cX2_list 43 = .ok (.iload_n 2, 1) := by decide +kernel
theorem dX2_list_44 : decode cX2_list 44 = .ok (.iload_n 3, 1) := by decide +kernel
theorem dX2_list_45 : decode cX2_list 45 = .ok (.invokevirtual 79, 3) := by decide +kernel
theorem dX2_list_48 : decode cX2_list 48 = .ok (.istore 5, 2) := by decide +kernel
theorem dX2_list_50 : decode cX2_list 50 = .ok (.aload_n 0, 1) := by decide +kernel
theorem dX2_list_51 : decode cX2_list 51 = .ok (.iload 4, 2) := by decide +kernel
theorem dX2_list_53 : decode cX2_list 53 = .ok (.ifCond .eq 22, 3) := by decide +kernel
theorem dX2_list_56 : decode cX2_list 56 = .ok (.iload 5, 2) := by decide +kernel
theorem dX2_list_58 : decode cX2_list 58 = .ok (.iconst (-1), 1) := by decide +kernel
theorem dX2_list_59 : decode cX2_list 59 = .ok (.if_icmp .ne 16, 3) := by decide +kernel
theorem dX2_list_62 : decode cX2_list 62 = .ok (.aload_n 0, 1) := by decide +kernel
theorem dX2_list_63 : decode cX2_list 63 = .ok (.getfield 76, 3) := by decide +kernel
theorem dX2_list_66 : decode cX2_list 66 = .ok (.bipush 32, 2) := by decide +kernel
theorem dX2_list_68 : decode cX2_list 68 = .ok (.if_icmp .ne 7, 3) := by decide +kernel
theorem dX2_list_71 : decode cX2_list 71 = .ok (.iconst 1, 1) := by decide +kernel
theorem dX2_list_72 : decode cX2_list 72 = .ok (.goto 4, 3) := by decide +kernel
theorem dX2_list_75 : decode cX2_list 75 = .ok (.iconst 0, 1) := by decide +kernel
theorem dX2_list_76 : decode cX2_list 76 = .ok (.iconst 2, 1) := by decide +kernel
theorem dX2_list_77 : decode cX2_list 77 = .ok (.invokevirtual 72, 3) := by decide +kernel
theorem dX2_list_80 : decode cX2_list 80 = .ok (.ifCond .eq 5, 3) := by decide +kernel
theorem dX2_list_83 : decode cX2_list 83 = .ok (.iconst 0, 1) := by decide +kernel
theorem dX2_list_84 : decode cX2_list 84 = .ok (.ireturn, 1) := by decide +kernel
theorem dX2_list_85 : decode cX2_list 85 = .ok (.iload 4, 2) := by decide +kernel
theorem dX2_list_87 : decode cX2_list 87 = .ok (.ifCond .eq 59, 3) := by decide +kernel
theorem dX2_list_90 : decode cX2_list 90 = .ok (.iload 5, 2) := by decide +kernel
theorem dX2_list_92 : decode cX2_list 92 = .ok (.iconst (-1), 1) := by decide +kernel
theorem dX2_list_93 : decode cX2_list 93 = .ok (.if_icmp .ne 53, 3) := by decide +kernel
theorem dX2_list_96 : decode cX2_list 96 = .ok (.aload_n 0, 1) := by decide +kernel
theorem dX2_list_97 : decode cX2_list 97 = .ok (.getfield 41, 3) := by decide +kernel
theorem dX2_list_100 : decode cX2_list 100 = .ok (.iconst 3, 1) := by decide +kernel
theorem dX2_list_101 : decode cX2_list 101 = .ok (.aload_n 0, 1) := by decide +kernel
theorem dX2_list_102 : decode cX2_list 102 = .ok (.getfield 76, 3) := by decide +kernel
theorem dX2_list_105 : decode cX2_list 105 = .ok (.imul, 1) := by decide +kernel
theorem dX2_list_106 : decode cX2_list 106 = .ok (.iload_n 1, 1) := by decide +kernel
theorem dX2_list_107 : decode cX2_list 107 = .ok (.iastore, 1) := by decide +kernel
theorem dX2_list_108 : decode cX2_list 108 = .ok (.aload_n 0, 1) := by decide +kernel
theorem dX2_list_109 : decode cX2_list 109 = .ok (.getfield 41, 3) := by decide +kernel
theorem dX2_list_112 : decode cX2_list 112 = .ok (.iconst 3, 1) := by decide +kernel
theorem dX2_list_113 : decode cX2_list 113 = .ok (.aload_n 0, 1) := by decide +kernel
theorem dX2_list_114 : decode cX2_list 114 = .ok (.getfield 76, 3) := by decide +kernel
theorem dX2_list_117 : decode cX2_list 117 = .ok (.imul, 1) := by decide +kernel
theorem dX2_list_118 : decode cX2_list 118 = .ok (.iconst 1, 1) := by decide +kernel
theorem dX2_list_119 : decode cX2_list 119 = .ok (.iadd, 1) := by decide +kernel
theorem dX2_list_120 : decode cX2_list 120 = .ok (.iload_n 2, 1) := by decide +kernel
theorem dX2_list_121 : decode cX2_list 121 = .ok (.iastore, 1) := by decide +kernel
theorem dX2_list_122 : decode cX2_list 122 = .ok (.aload_n 0, 1) := by decide +kernel
theorem dX2_list_123 : decode cX2_list 123 = .ok (.getfield 41, 3) := by decide +kernel
theorem dX2_list_126 : decode cX2_list 126 = .ok (.iconst 3, 1) := by decide +kernel
theorem dX2_list_127 : decode cX2_list 127 = .ok (.aload_n 0, 1) := by decide +kernel
theorem dX2_list_128 : decode cX2_list 128 = .ok (.getfield 76, 3) := by decide +kernel
theorem dX2_list_131 : decode cX2_list 131 = .ok (.imul, 1) := by decide +kernel
theorem dX2_list_132 : decode cX2_list 132 = .ok (.iconst 2, 1) := by decide +kernel
theorem dX2_list_133 : decode cX2_list 133 = .ok (.iadd, 1) := by decide +kernel
theorem dX2_list_134 : decode cX2_list 134 = .ok (.iload_n 3, 1) := by decide +kernel
theorem dX2_list_135 : decode cX2_list 135 = .ok (.iastore, 1) := by decide +kernel
theorem dX2_list_136 : decode cX2_list 136 = .ok (.aload_n 0, 1) := by decide +kernel
theorem dX2_list_137 : decode cX2_list 137 = .ok (.dup, 1) := by decide +kernel
theorem dX2_list_138 : decode cX2_list 138 = .ok (.getfield 76, 3) := by decide +kernel
theorem dX2_list_141 : decode cX2_list 141 = .ok (.iconst 1, 1) := by decide +kernel
theorem dX2_list_142 : decode cX2_list 142 = .ok (.iadd, 1) := by decide +kernel
theorem dX2_list_143 : decode cX2_list 143 = .ok (.putfield 76, 3) := by decide +kernel
theorem dX2_list_146 : decode cX2_list 146 = .ok (.iload 4, 2) := by decide +kernel
theorem dX2_list_148 : decode cX2_list 148 = .ok (.ifCond .ne 60, 3) := by decide +kernel
theorem dX2_list_151 : decode cX2_list 151 = .ok (.iload 5, 2) := by decide +kernel
theorem dX2_list_153 : decode cX2_list 153 = .ok (.iconst (-1), 1) := by decide +kernel
theorem dX2_list_154 : decode cX2_list 154 = .ok (.if_icmp .eq 54, 3) := by decide +kernel
theorem dX2_list_157 : decode cX2_list 157 = .ok (.aload_n 0, 1) := by decide +kernel
theorem dX2_list_158 : decode cX2_list 158 = .ok (.dup, 1) := by decide +kernel
theorem dX2_list_159 : decode cX2_list 159 = .ok (.getfield 76, 3) := by decide +kernel
theorem dX2_list_162 : decode cX2_list 162 = .ok (.iconst 1, 1) := by decide +kernel
theorem dX2_list_163 : decode cX2_list 163 = .ok (.isub, 1) := by decide +kernel
theorem dX2_list_164 : decode cX2_list 164 = .ok (.putfield 76, 3) := by decide +kernel
theorem dX2_list_167 : decode cX2_list 167 = .ok (.iconst 0, 1) := by decide +kernel
theorem dX2_list_168 : decode cX2_list 168 = .ok (.istore 6, 2) := by decide +kernel
theorem dX2_list_170 : decode cX2_list 170 = .ok (.iload 6, 2) := by decide +kernel
theorem dX2_list_172 : decode cX2_list 172 = .ok (.iconst 3, 1) := by decide +kernel
theorem dX2_list_173 : decode cX2_list 173 = .ok (.if_icmp .ge 35, 3) := by decide +kernel
theorem dX2_list_176 : decode cX2_list 176 = .ok (.aload_n 0, 1) := by decide +kernel
theorem dX2_list_177 : decode cX2_list 177 = .ok (.getfield 41, 3) := by decide +kernel
theorem dX2_list_180 : decode cX2_list 180 = .ok (.iconst 3, 1) := by decide +kernel
theorem dX2_list_181 : decode cX2_list 181 = .ok (.iload 5, 2) := by decide +kernel
theorem dX2_list_183 : decode cX2_list 183 = .ok (.imul, 1) := by decide +kernel
theorem dX2_list_184 : decode cX2_list 184 = .ok (.iload 6, 2) := by decide +kernel
theorem dX2_list_186 : decode cX2_list 186 = .ok (.iadd, 1) := by decide +kernel
theorem dX2_list_187 : decode cX2_list 187 = .ok (.aload_n 0, 1) := by decide +kernel
theorem dX2_list_188 : decode cX2_list 188 = .ok (.getfield 41, 3) := by decide +kernel
theorem dX2_list_191 : decode cX2_list 191 = .ok (.iconst 3, 1) := by decide +kernel
theorem dX2_list_192 : decode cX2_list 192 = .ok (.aload_n 0, 1) := by decide +kernel
theorem dX2_list_193 : decode cX2_list 193 = .ok (.getfield 76, 3) := by decide +kernel
theorem dX2_list_196 : decode cX2_list 196 = .ok (.imul, 1) := by decide +kernel
theorem dX2_list_197 : decode cX2_list 197 = .ok (.iload 6, 2) := by decide +kernel
theorem dX2_list_199 : decode cX2_list 199 = .ok (.iadd, 1) := by decide +kernel
theorem dX2_list_200 : decode cX2_list 200 = .ok (.iaload, 1) := by decide +kernel
theorem dX2_list_201 : decode cX2_list 201 = .ok (.iastore, 1) := by decide +kernel
theorem dX2_list_202 : decode cX2_list 202 = .ok (.iinc 6 1, 3) := by decide +kernel
theorem dX2_list_205 : decode cX2_list 205 = .ok (.goto (-35), 3) := by decide +kernel
theorem dX2_list_208 : decode cX2_list 208 = .ok (.iload 5, 2) := by decide +kernel
theorem dX2_list_210 : decode cX2_list 210 = .ok (.iconst (-1), 1) := by decide +kernel
theorem dX2_list_211 : decode cX2_list 211 = .ok (.if_icmp .eq 7, 3) := by decide +kernel
theorem dX2_list_214 : decode cX2_list 214 = .ok (.iconst 1, 1) := by decide +kernel
theorem dX2_list_215 : decode cX2_list 215 = .ok (.goto 4, 3) := by decide +kernel
theorem dX2_list_218 : decode cX2_list 218 = .ok (.iconst 0, 1) := by decide +kernel
theorem dX2_list_219 : decode cX2_list 219 = .ok (.ireturn, 1) := by decide +kernel
set_option maxRecDepth 20000 in
theorem ggX2_flows_X2_isLabel : GoodIn wsX2_flows wsX2_isLabel := goodIn_r _ [4, 5, 6, 3, 7] (by decide +kernel) (by decide +kernel)
set_option maxRecDepth 20000 in
theorem gX2_flows_X2_isLabel : GoodIn wsX2_flows (va_wsS RX2 69 yX2_isLabel wsX2_isLabel) := goodIn_app (goodIn_of _ (by decide +kernel)) ggX2_flows_X2_isLabel
set_option maxRecDepth 20000 in
theorem ggX2_flows_X2_fails : GoodIn wsX2_flows wsX2_fails := goodIn_r _ [11, 12, 16, 17, 18, 19, 20, 21, 22, 23, 24, 25, 26, 27, 28, 29, 30, 31] (by decide +kernel) (by decide +kernel)
set_option maxRecDepth 20000 in
theorem gX2_flows_X2_fails : GoodIn wsX2_flows (wsV RX2 72 RX2 yX2_fails wsX2_fails) := goodIn_app (goodIn_of _ (by decide +kernel)) ggX2_flows_X2_fails
set_option maxRecDepth 20000 in
theorem ggX2_flows_X2_may : GoodIn wsX2_flows wsX2_may := goodIn_r _ [15] (by decide +kernel) (by decide +kernel)
set_option maxRecDepth 20000 in
theorem gX2_flows_X2_may : GoodIn wsX2_flows (va_wsS RX2 83 yX2_may wsX2_may) := goodIn_app (goodIn_of _ (by decide +kernel)) ggX2_flows_X2_may
theorem dX2_flows_0 : decode cX2_flows 0 = .ok (.aload_n 0, 1) := by decide +kernel
theorem dX2_flows_1 : decode cX2_flows 1 = .ok (.iload_n 1, 1) := by decide +kernel
theorem dX2_flows_2 : decode cX2_flows 2 = .ok (.invokestatic 69, 3) := by decide +kernel
theorem dX2_flows_5 : decode cX2_flows 5 = .ok (.ifCond .eq 10, 3) := by decide +kernel
theorem dX2_flows_8 : decode cX2_flows 8 = .ok (.iload_n 2, 1) := by decide +kernel
theorem dX2_flows_9 : decode cX2_flows 9 = .ok (.invokestatic 69, 3) := by decide +kernel
theorem dX2_flows_12 : decode cX2_flows 12 = .ok (.ifCond .ne 7, 3) := by decide +kernel
theorem dX2_flows_15 : decode cX2_flows 15 = .ok (.iconst 1, 1) := by decide +kernel
theorem dX2_flows_16 : decode cX2_flows 16 = .ok (.goto 4, 3) := by decide +kernel
theorem dX2_flows_19 : decode cX2_flows 19 = .ok (.iconst 0, 1) := by decide +kernel
theorem dX2_flows_20 : decode cX2_flows 20 = .ok (.iconst 1, 1) := by decide +kernel
theorem dX2_flows_21 : decode cX2_flows 21 = .ok (.invokevirtual 72, 3) := by decide +kernel
theorem dX2_flows_24 : decode cX2_flows 24 = .ok (.ifCond .eq 5, 3) := by decide +kernel
theorem dX2_flows_27 : decode cX2_flows 27 = .ok (.iconst 0, 1) := by decide +kernel
theorem dX2_flows_28 : decode cX2_flows 28 = .ok (.ireturn, 1) := by decide +kernel
theorem dX2_flows_29 : decode cX2_flows 29 = .ok (.iload_n 1, 1) := by decide +kernel
theorem dX2_flows_30 : decode cX2_flows 30 = .ok (.iload_n 2, 1) := by decide +kernel
theorem dX2_flows_31 : decode cX2_flows 31 = .ok (.invokestatic 83, 3) := by decide +kernel
theorem dX2_flows_34 : decode cX2_flows 34 = .ok (.ireturn, 1) := by decide +kernel
theorem dX2_begin_0 : decode cX2_begin 0 = .ok (.aload_n 0, 1) := by decide +kernel
theorem dX2_begin_1 : decode cX2_begin 1 = .ok (.getfield 47, 3) := by decide +kernel
theorem dX2_begin_4 : decode cX2_begin 4 = .ok (.iload_n 1, 1) := by decide +kernel
theorem dX2_begin_5 : decode cX2_begin 5 = .ok (.iconst 0, 1) := by decide +kernel
theorem dX2_begin_6 : decode cX2_begin 6 = .ok (.iastore, 1) := by decide +kernel
theorem dX2_begin_7 : decode cX2_begin 7 = .ok (.return_, 1) := by decide +kernel
set_option maxRecDepth 20000 in
theorem ggX2_isFull_X2_uses : GoodIn wsX2_isFull wsX2_uses := goodIn_r _ [7, 8, 9, 10, 11, 12, 13, 6, 14, 15, 16, 17, 18, 19, 20, 21, 22, 23, 24, 25, 26, 27, 28, 29, 30, 31, 32, 33] (by decide +kernel) (by decide +kernel)
set_option maxRecDepth 20000 in
theorem gX2_isFull_X2_uses : GoodIn wsX2_isFull (wsV RX2 86 RX2 yX2_uses wsX2_uses) := goodIn_app (goodIn_of _ (by decide +kernel)) ggX2_isFull_X2_uses
theorem dX2_isFull_0 : decode cX2_isFull 0 = .ok (.aload_n 0, 1) := by decide +kernel
theorem dX2_isFull_1 : decode cX2_isFull 1 = .ok (.aload_n 0, 1) := by decide +kernel
theorem dX2_isFull_2 : decode cX2_isFull 2 = .ok (.getfield 7, 3) := by decide +kernel
theorem dX2_isFull_5 : decode cX2_isFull 5 = .ok (.iload_n 1, 1) := by decide +kernel
theorem dX2_isFull_6 : decode cX2_isFull 6 = .ok (.iaload, 1) := by decide +kernel
theorem dX2_isFull_7 : decode cX2_isFull 7 = .ok (.invokevirtual 86, 3) := by decide +kernel
theorem dX2_isFull_10 : decode cX2_isFull 10 = .ok (.iload_n 2, 1) := by decide +kernel
theorem dX2_isFull_11 : decode cX2_isFull 11 = .ok (.iadd, 1) := by decide +kernel
theorem dX2_isFull_12 : decode cX2_isFull 12 = .ok (.aload_n 0, 1) := by decide +kernel
theorem dX2_isFull_13 : decode cX2_isFull 13 = .ok (.getfield 17, 3) := by decide +kernel
theorem dX2_isFull_16 : decode cX2_isFull 16 = .ok (.aload_n 0, 1) := by decide +kernel
theorem dX2_isFull_17 : decode cX2_isFull 17 = .ok (.getfield 7, 3) := by decide +kernel
theorem dX2_isFull_20 : decode cX2_isFull 20 = .ok (.iload_n 1, 1) := by decide +kernel
theorem dX2_isFull_21 : decode cX2_isFull 21 = .ok (.iaload, 1) := by decide +kernel
theorem dX2_isFull_22 : decode cX2_isFull 22 = .ok (.iaload, 1) := by decide +kernel
theorem dX2_isFull_23 : decode cX2_isFull 23 = .ok (.if_icmp .le 7, 3) := by decide +kernel
theorem dX2_isFull_26 : decode cX2_isFull 26 = .ok (.iconst 1, 1) := by decide +kernel
theorem dX2_isFull_27 : decode cX2_isFull 27 = .ok (.goto 4, 3) := by decide +kernel
theorem dX2_isFull_30 : decode cX2_isFull 30 = .ok (.iconst 0, 1) := by decide +kernel
theorem dX2_isFull_31 : decode cX2_isFull 31 = .ok (.ireturn, 1) := by decide +kernel
set_option maxRecDepth 20000 in
theorem ggX2_make_X2_isSubject : GoodIn wsX2_make wsX2_isSubject := goodIn_r _ [8, 9, 10, 7, 11] (by decide +kernel) (by decide +kernel)
set_option maxRecDepth 20000 in
theorem gX2_make_X2_isSubject : GoodIn wsX2_make (va_wsS RX2 65 yX2_isSubject wsX2_isSubject) := goodIn_app (goodIn_of _ (by decide +kernel)) ggX2_make_X2_isSubject
set_option maxRecDepth 20000 in
theorem ggX2_make_X2_isLabel : GoodIn wsX2_make wsX2_isLabel := goodIn_r _ [14, 9, 10, 7, 11] (by decide +kernel) (by decide +kernel)
set_option maxRecDepth 20000 in
theorem gX2_make_X2_isLabel : GoodIn wsX2_make (va_wsS RX2 69 yX2_isLabel wsX2_isLabel) := goodIn_app (goodIn_of _ (by decide +kernel)) ggX2_make_X2_isLabel
set_option maxRecDepth 20000 in
theorem ggX2_make_X2_isNumber : GoodIn wsX2_make wsX2_isNumber := goodIn_r _ [17, 9, 10, 7, 11] (by decide +kernel) (by decide +kernel)
set_option maxRecDepth 20000 in
theorem gX2_make_X2_isNumber : GoodIn wsX2_make (va_wsS RX2 89 yX2_isNumber wsX2_isNumber) := goodIn_app (goodIn_of _ (by decide +kernel)) ggX2_make_X2_isNumber
set_option maxRecDepth 20000 in
theorem ggX2_make_X2_fails : GoodIn wsX2_make wsX2_fails := goodIn_r _ [21, 22, 57, 58, 59, 60, 61, 62, 63, 64, 65, 66, 67, 68, 69, 70, 71, 72] (by decide +kernel) (by decide +kernel)
set_option maxRecDepth 20000 in
theorem gX2_make_X2_fails : GoodIn wsX2_make (wsV RX2 72 RX2 yX2_fails wsX2_fails) := goodIn_app (goodIn_of _ (by decide +kernel)) ggX2_make_X2_fails
set_option maxRecDepth 20000 in
theorem ggX2_make_X2_may : GoodIn wsX2_make wsX2_may := goodIn_r _ [25] (by decide +kernel) (by decide +kernel)
set_option maxRecDepth 20000 in
theorem gX2_make_X2_may : GoodIn wsX2_make (va_wsS RX2 83 yX2_may wsX2_may) := goodIn_app (goodIn_of _ (by decide +kernel)) ggX2_make_X2_may
set_option maxRecDepth 20000 in
theorem ggX2_make_X2_find : GoodIn wsX2_make wsX2_find := goodIn_r _ [29, 3, 30, 57, 58, 59, 60, 61, 62, 63, 64, 65, 66, 67, 68, 69, 70, 71, 72] (by decide +kernel) (by decide +kernel)
set_option maxRecDepth 20000 in
theorem gX2_make_X2_find : GoodIn wsX2_make (wsV RX2 92 RX2 yX2_find wsX2_find) := goodIn_app (goodIn_of _ (by decide +kernel)) ggX2_make_X2_find
set_option maxRecDepth 20000 in
theorem ggX2_make_X2_isFull : GoodIn wsX2_make wsX2_isFull := goodIn_r _ [34, 2, 35, 36, 37, 38, 7, 39, 4, 3, 30, 40, 41, 42, 43, 44, 45, 46, 57, 58, 59, 60, 61, 62, 63, 64, 65, 66, 67, 68, 69, 70, 71, 72] (by decide +kernel) (by decide +kernel)
set_option maxRecDepth 20000 in
theorem gX2_make_X2_isFull : GoodIn wsX2_make (wsV RX2 96 RX2 yX2_isFull wsX2_isFull) := goodIn_app (goodIn_of _ (by decide +kernel)) ggX2_make_X2_isFull
set_option maxRecDepth 20000 in
theorem ggX2_make_X2_begin : GoodIn wsX2_make wsX2_begin := goodIn_r _ [50, 51, 57, 58, 59, 60, 61, 62, 63, 64, 65, 66, 67, 68, 69, 70, 71, 72] (by decide +kernel) (by decide +kernel)
set_option maxRecDepth 20000 in
theorem gX2_make_X2_begin : GoodIn wsX2_make (wsV RX2 99 RX2 yX2_begin wsX2_begin) := goodIn_app (goodIn_of _ (by decide +kernel)) ggX2_make_X2_begin
set_option maxRecDepth 20000 in
theorem ggX2_make_X2_add : GoodIn wsX2_make wsX2_add := goodIn_r _ [55, 30, 3, 44, 56, 45, 57, 58, 59, 60, 61, 62, 63, 64, 65, 66, 67, 68, 69, 70, 71, 72] (by decide +kernel) (by decide +kernel)
set_option maxRecDepth 20000 in
theorem gX2_make_X2_add : GoodIn wsX2_make (wsV RX2 103 RX2 yX2_add wsX2_add) := goodIn_app (goodIn_of _ (by decide +kernel)) ggX2_make_X2_add
theorem dX2_make_0 : decode cX2_make 0 = .ok (.aload_n 0, 1) := by decide +kernel
theorem dX2_make_1 : decode cX2_make 1 = .ok (.iload_n 1, 1) := by decide +kernel
theorem dX2_make_2 : decode cX2_make 2 = .ok (.invokestatic 65, 3) := by decide +kernel
theorem dX2_make_5 : decode cX2_make 5 = .ok (.ifCond .eq 31, 3) := by decide +kernel
theorem dX2_make_8 : decode cX2_make 8 = .ok (.iload_n 2, 1) := by decide +kernel
theorem dX2_make_9 : decode cX2_make 9 = .ok (.invokestatic 69, 3) := by decide +kernel
theorem dX2_make_12 : decode cX2_make 12 = .ok (.ifCond .eq 24, 3) := by decide +kernel
theorem dX2_make_15 : decode cX2_make 15 = .ok (.iload_n 3, 1) := by decide +kernel
theorem dX2_make_16 : decode cX2_make 16 = .ok (.invokestatic 89, 3) := by decide +kernel
theorem dX2_make_19 : decode cX2_make 19 = .ok (.ifCond .eq 17, 3) := by decide +kernel
theorem dX2_make_22 : decode cX2_make 22 = .ok (.iload 4, 2) := by decide +kernel
theorem dX2_make_24 : decode cX2_make 24 = .ok (.iconst (-1), 1) := by decide +kernel
theorem dX2_make_25 : decode cX2_make 25 = .ok (.if_icmp .lt 11, 3) := by decide +kernel
theorem dX2_make_28 : decode cX2_make 28 = .ok (.iload 4, 2) := by decide +kernel
theorem dX2_make_30 : decode cX2_make 30 = .ok (.sipush 16384, 3) := by decide +kernel
theorem dX2_make_33 : decode cX2_make 33 = .ok (.if_icmp .lt 7, 3) := by decide +kernel
theorem dX2_make_36 : decode cX2_make 36 = .ok (.iconst 1, 1) := by decide +kernel
theorem dX2_make_37 : decode cX2_make 37 = .ok (.goto 4, 3) := by decide +kernel
theorem dX2_make_40 : decode cX2_make 40 = .ok (.iconst 0, 1) := by decide +kernel
theorem dX2_make_41 : decode cX2_make 41 = .ok (.iconst 1, 1) := by decide +kernel
theorem dX2_make_42 : decode cX2_make 42 = .ok (.invokevirtual 72, 3) := by decide +kernel
theorem dX2_make_45 : decode cX2_make 45 = .ok (.ifCond .eq 5, 3) := by decide +kernel
theorem dX2_make_48 : decode cX2_make 48 = .ok (.iconst 0, 1) := by decide +kernel
theorem dX2_make_49 : decode cX2_make 49 = .ok (.ireturn, 1) := by decide +kernel
theorem dX2_make_50 : decode cX2_make 50 = .ok (.aload_n 0, 1) := by decide +kernel
theorem dX2_make_51 : decode cX2_make 51 = .ok (.getfield 13, 3) := by decide +kernel
theorem dX2_make_54 : decode cX2_make 54 = .ok (.iload_n 1, 1) := by decide +kernel
theorem dX2_make_55 : decode cX2_make 55 = .ok (.baload, 1) := by decide +kernel
theorem dX2_make_56 : decode cX2_make 56 = .ok (.ifCond .eq 38, 3) := by decide +kernel
theorem dX2_make_59 : decode cX2_make 59 = .ok (.aload_n 0, 1) := by decide +kernel
theorem dX2_make_60 : decode cX2_make 60 = .ok (.getfield 7, 3) := by decide +kernel
theorem dX2_make_63 : decode cX2_make 63 = .ok (.iload_n 1, 1) := by decide +kernel
theorem dX2_make_64 : decode cX2_make 64 = .ok (.iaload, 1) := by decide +kernel
theorem dX2_make_65 : decode cX2_make 65 = .ok (.iload_n 2, 1) := by decide +kernel
theorem dX2_make_66 : decode cX2_make 66 = .ok (.invokestatic 83, 3) := by decide +kernel
theorem dX2_make_69 : decode cX2_make 69 = .ok (.ifCond .eq 25, 3) := by decide +kernel
theorem dX2_make_72 : decode cX2_make 72 = .ok (.iload 4, 2) := by decide +kernel
theorem dX2_make_74 : decode cX2_make 74 = .ok (.iconst (-1), 1) := by decide +kernel
theorem dX2_make_75 : decode cX2_make 75 = .ok (.if_icmp .eq 15, 3) := by decide +kernel
theorem dX2_make_78 : decode cX2_make 78 = .ok (.iload 4, 2) := by decide +kernel
theorem dX2_make_80 : decode cX2_make 80 = .ok (.bipush 16, 2) := by decide +kernel
theorem dX2_make_82 : decode cX2_make 82 = .ok (.idiv, 1) := by decide +kernel
theorem dX2_make_83 : decode cX2_make 83 = .ok (.iload_n 2, 1) := by decide +kernel
theorem dX2_make_84 : decode cX2_make 84 = .ok (.invokestatic 83, 3) := by decide +kernel
theorem dX2_make_87 : decode cX2_make 87 = .ok (.ifCond .eq 7, 3) := by decide +kernel
theorem dX2_make_90 : decode cX2_make 90 = .ok (.iconst 1, 1) := by decide +kernel
theorem dX2_make_91 : decode cX2_make 91 = .ok (.goto 4, 3) := by decide +kernel
theorem dX2_make_94 : decode cX2_make 94 = .ok (.iconst 0, 1) := by decide +kernel
theorem dX2_make_95 : decode cX2_make 95 = .ok (.istore 5, 2) := by decide +kernel
theorem dX2_make_97 : decode cX2_make 97 = .ok (.aload_n 0, 1) := by decide +kernel
theorem dX2_make_98 : decode cX2_make 98 = .ok (.getfield 13, 3) := by decide +kernel
theorem dX2_make_101 : decode cX2_make 101 = .ok (.iload_n 1, 1) := by decide +kernel
theorem dX2_make_102 : decode cX2_make 102 = .ok (.baload, 1) := by decide +kernel
theorem dX2_make_103 : decode cX2_make 103 = .ok (.ifCond .eq 17, 3) := by decide +kernel
theorem dX2_make_106 : decode cX2_make 106 = .ok (.aload_n 0, 1) := by decide +kernel
theorem dX2_make_107 : decode cX2_make 107 = .ok (.getfield 7, 3) := by decide +kernel
theorem dX2_make_110 : decode cX2_make 110 = .ok (.iload_n 1, 1) := by decide +kernel
theorem dX2_make_111 : decode cX2_make 111 = .ok (.iaload, 1) := by decide +kernel
theorem dX2_make_112 : decode cX2_make 112 = .ok (.iload_n 2, 1) := by decide +kernel
theorem dX2_make_113 : decode cX2_make 113 = .ok (.if_icmp .ne 7, 3) := by decide +kernel
theorem dX2_make_116 : decode cX2_make 116 = .ok (.iconst 1, 1) := by decide +kernel
theorem dX2_make_117 : decode cX2_make 117 = .ok (.goto 4, 3) := by decide +kernel
theorem dX2_make_120 : decode cX2_make 120 = .ok (.iconst 0, 1) := by decide +kernel
theorem dX2_make_121 : decode cX2_make 121 = .ok (.istore 6, 2) := by decide +kernel
theorem dX2_make_123 : decode cX2_make 123 = .ok (.aload_n 0, 1) := by decide +kernel
theorem dX2_make_124 : decode cX2_make 124 = .ok (.iload_n 2, 1) := by decide +kernel
theorem dX2_make_125 : decode cX2_make 125 = .ok (.iload_n 3, 1) := by decide +kernel
theorem dX2_make_126 : decode cX2_make 126 = .ok (.invokevirtual 92, 3) := by decide +kernel
theorem dX2_make_129 : decode cX2_make 129 = .ok (.iconst (-1), 1) := by decide +kernel
theorem dX2_make_130 : decode cX2_make 130 = .ok (.if_icmp .eq 7, 3) := by decide +kernel
theorem dX2_make_133 : decode cX2_make 133 = .ok (.iconst 1, 1) := by decide +kernel
theorem dX2_make_134 : decode cX2_make 134 = .ok (.goto 4, 3) := by decide +kernel
theorem dX2_make_137 : decode cX2_make 137 = .ok (.iconst 0, 1) := by decide +kernel
theorem dX2_make_138 : decode cX2_make 138 = .ok (.istore 7, 2) := by decide +kernel
theorem dX2_make_140 : decode cX2_make 140 = .ok (.iload 5, 2) := by decide +kernel
theorem dX2_make_142 : decode cX2_make 142 = .ok (.ifCond .eq 21, 3) := by decide +kernel
theorem dX2_make_145 : decode cX2_make 145 = .ok (.iload 7, 2) := by decide +kernel
theorem dX2_make_147 : decode cX2_make 147 = .ok (.ifCond .ne 16, 3) := by decide +kernel
theorem dX2_make_150 : decode cX2_make 150 = .ok (.aload_n 0, 1) := by decide +kernel
theorem dX2_make_151 : decode cX2_make 151 = .ok (.iload_n 1, 1) := by decide +kernel
theorem dX2_make_152 : decode cX2_make 152 = .ok (.iconst 1, 1) := by decide +kernel
theorem dX2_make_153 : decode cX2_make 153 = .ok (.invokevirtual 96, 3) := by decide +kernel
theorem dX2_make_156 : decode cX2_make 156 = .ok (.ifCond .ne 7, 3) := by decide +kernel
theorem dX2_make_159 : decode cX2_make 159 = .ok (.iconst 1, 1) := by decide +kernel
theorem dX2_make_160 : decode cX2_make 160 = .ok (.goto 4, 3) := by decide +kernel
theorem dX2_make_163 : decode cX2_make 163 = .ok (.iconst 0, 1) := by decide +kernel
theorem dX2_make_164 : decode cX2_make 164 = .ok (.istore 8, 2) := by decide +kernel
theorem dX2_make_166 : decode cX2_make 166 = .ok (.aload_n 0, 1) := by decide +kernel
theorem dX2_make_167 : decode cX2_make 167 = .ok (.iload 8, 2) := by decide +kernel
theorem dX2_make_169 : decode cX2_make 169 = .ok (.ifCond .eq 17, 3) := by decide +kernel
theorem dX2_make_172 : decode cX2_make 172 = .ok (.aload_n 0, 1) := by decide +kernel
theorem dX2_make_173 : decode cX2_make 173 = .ok (.getfield 58, 3) := by decide +kernel
theorem dX2_make_176 : decode cX2_make 176 = .ok (.sipush 200, 3) := by decide +kernel
theorem dX2_make_179 : decode cX2_make 179 = .ok (.if_icmp .ne 7, 3) := by decide +kernel
theorem dX2_make_182 : decode cX2_make 182 = .ok (.iconst 1, 1) := by decide +kernel
theorem dX2_make_183 : decode cX2_make 183 = .ok (.goto 4, 3) := by decide +kernel
theorem dX2_make_186 : decode cX2_make 186 = .ok (.iconst 0, 1) := by decide +kernel
theorem dX2_make_187 : decode cX2_make 187 = .ok (.iconst 2, 1) := by decide +kernel
theorem dX2_make_188 : decode cX2_make 188 = .ok (.invokevirtual 72, 3) := by decide +kernel
theorem dX2_make_191 : decode cX2_make 191 = .ok (.ifCond .eq 5, 3) := by decide +kernel
theorem dX2_make_194 : decode cX2_make 194 = .ok (.iconst 0, 1) := by decide +kernel
theorem dX2_make_195 : decode cX2_make 195 = .ok (.ireturn, 1) := by decide +kernel
theorem dX2_make_196 : decode cX2_make 196 = .ok (.aload_n 0, 1) := by decide +kernel
theorem dX2_make_197 : decode cX2_make 197 = .ok (.iload_n 1, 1) := by decide +kernel
theorem dX2_make_198 : decode cX2_make 198 = .ok (.invokevirtual 99, 3) := by decide +kernel
theorem dX2_make_201 : decode cX2_make 201 = .ok (.aload_n 0, 1) := by decide +kernel
theorem dX2_make_202 : decode cX2_make 202 = .ok (.getfield 13, 3) := by decide +kernel
theorem dX2_make_205 : decode cX2_make 205 = .ok (.iload_n 1, 1) := by decide +kernel
theorem dX2_make_206 : decode cX2_make 206 = .ok (.baload, 1) := by decide +kernel
theorem dX2_make_207 : decode cX2_make 207 = .ok (.ifCond .ne 5, 3) := by decide +kernel
theorem dX2_make_210 : decode cX2_make 210 = .ok (.iconst (-1), 1) := by decide +kernel
theorem dX2_make_211 : decode cX2_make 211 = .ok (.ireturn, 1) := by decide +kernel
theorem dX2_make_212 : decode cX2_make 212 = .ok (.iload 5, 2) := by decide +kernel
theorem dX2_make_214 : decode cX2_make 214 = .ok (.ifCond .ne 6, 3) := by decide +kernel
theorem dX2_make_217 : decode cX2_make 217 = .ok (.bipush (-2), 2) := by decide +kernel
theorem dX2_make_219 : decode cX2_make 219 = .ok (.ireturn, 1) := by decide +kernel
theorem dX2_make_220 : decode cX2_make 220 = .ok (.iload 6, 2) := by decide +kernel
theorem dX2_make_222 : decode cX2_make 222 = .ok (.ifCond .eq 10, 3) := by decide +kernel
theorem dX2_make_225 : decode cX2_make 225 = .ok (.iload 7, 2) := by decide +kernel
theorem dX2_make_227 : decode cX2_make 227 = .ok (.ifCond .eq 5, 3) := by decide +kernel
theorem dX2_make_230 : decode cX2_make 230 = .ok (.iconst 0, 1) := by decide +kernel
theorem dX2_make_231 : decode cX2_make 231 = .ok (.ireturn, 1) := by decide +kernel
theorem dX2_make_232 : decode cX2_make 232 = .ok (.aload_n 0, 1) := by decide +kernel
theorem dX2_make_233 : decode cX2_make 233 = .ok (.iload_n 1, 1) := by decide +kernel
theorem dX2_make_234 : decode cX2_make 234 = .ok (.iconst 1, 1) := by decide +kernel
theorem dX2_make_235 : decode cX2_make 235 = .ok (.invokevirtual 96, 3) := by decide +kernel
theorem dX2_make_238 : decode cX2_make 238 = .ok (.ifCond .eq 6, 3) := by decide +kernel
theorem dX2_make_241 : decode cX2_make 241 = .ok (.bipush (-3), 2) := by decide +kernel
theorem dX2_make_243 : decode cX2_make 243 = .ok (.ireturn, 1) := by decide +kernel
theorem dX2_make_244 : decode cX2_make 244 = .ok (.iload 7, 2) := by decide +kernel
theorem dX2_make_246 : decode cX2_make 246 = .ok (.ifCond .ne 22, 3) := by decide +kernel
theorem dX2_make_249 : decode cX2_make 249 = .ok (.aload_n 0, 1) := by decide +kernel
theorem dX2_make_250 : decode cX2_make 250 = .ok (.iload_n 2, 1) := by decide +kernel
theorem dX2_make_251 : decode cX2_make 251 = .ok (.iload_n 3, 1) := by decide +kernel
theorem dX2_make_252 : decode cX2_make 252 = .ok (.iload 4, 2) := by decide +kernel
theorem dX2_make_254 : decode cX2_make 254 = .ok (.iload 6, 2) := by decide +kernel
theorem dX2_make_256 : decode cX2_make 256 = .ok (.ifCond .ne 7, 3) := by decide +kernel
theorem dX2_make_259 : decode cX2_make 259 = .ok (.iconst 1, 1) := by decide +kernel
theorem dX2_make_260 : decode cX2_make 260 = .ok (.goto 4, 3) := by decide +kernel
theorem dX2_make_263 : decode cX2_make 263 = .ok (.iconst 0, 1) := by decide +kernel
theorem dX2_make_264 : decode cX2_make 264 = .ok (.invokevirtual 103, 3) := by decide +kernel
theorem dX2_make_267 : decode cX2_make 267 = .ok (.pop, 1) := by decide +kernel
theorem dX2_make_268 : decode cX2_make 268 = .ok (.iload 6, 2) := by decide +kernel
theorem dX2_make_270 : decode cX2_make 270 = .ok (.ifCond .ne 18, 3) := by decide +kernel
theorem dX2_make_273 : decode cX2_make 273 = .ok (.aload_n 0, 1) := by decide +kernel
theorem dX2_make_274 : decode cX2_make 274 = .ok (.getfield 20, 3) := by decide +kernel
theorem dX2_make_277 : decode cX2_make 277 = .ok (.aload_n 0, 1) := by decide +kernel
theorem dX2_make_278 : decode cX2_make 278 = .ok (.getfield 7, 3) := by decide +kernel
theorem dX2_make_281 : decode cX2_make 281 = .ok (.iload_n 1, 1) := by decide +kernel
theorem dX2_make_282 : decode cX2_make 282 = .ok (.iaload, 1) := by decide +kernel
theorem dX2_make_283 : decode cX2_make 283 = .ok (.dup2, 1) := by decide +kernel
theorem dX2_make_284 : decode cX2_make 284 = .ok (.iaload, 1) := by decide +kernel
theorem dX2_make_285 : decode cX2_make 285 = .ok (.iconst 1, 1) := by decide +kernel
theorem dX2_make_286 : decode cX2_make 286 = .ok (.iadd, 1) := by decide +kernel
theorem dX2_make_287 : decode cX2_make 287 = .ok (.iastore, 1) := by decide +kernel
theorem dX2_make_288 : decode cX2_make 288 = .ok (.iload 6, 2) := by decide +kernel
theorem dX2_make_290 : decode cX2_make 290 = .ok (.ifCond .eq 7, 3) := by decide +kernel
theorem dX2_make_293 : decode cX2_make 293 = .ok (.iconst 1, 1) := by decide +kernel
theorem dX2_make_294 : decode cX2_make 294 = .ok (.goto 4, 3) := by decide +kernel
theorem dX2_make_297 : decode cX2_make 297 = .ok (.iconst 2, 1) := by decide +kernel
theorem dX2_make_298 : decode cX2_make 298 = .ok (.ireturn, 1) := by decide +kernel
set_option maxRecDepth 20000 in
theorem ggX2_set_X2_isSubject : GoodIn wsX2_set wsX2_isSubject := goodIn_r _ [8, 9, 10, 7, 11] (by decide +kernel) (by decide +kernel)
set_option maxRecDepth 20000 in
theorem gX2_set_X2_isSubject : GoodIn wsX2_set (va_wsS RX2 65 yX2_isSubject wsX2_isSubject) := goodIn_app (goodIn_of _ (by decide +kernel)) ggX2_set_X2_isSubject
set_option maxRecDepth 20000 in
theorem ggX2_set_X2_isNumber : GoodIn wsX2_set wsX2_isNumber := goodIn_r _ [14, 9, 10, 7, 11] (by decide +kernel) (by decide +kernel)
set_option maxRecDepth 20000 in
theorem gX2_set_X2_isNumber : GoodIn wsX2_set (va_wsS RX2 89 yX2_isNumber wsX2_isNumber) := goodIn_app (goodIn_of _ (by decide +kernel)) ggX2_set_X2_isNumber
set_option maxRecDepth 20000 in
theorem ggX2_set_X2_within : GoodIn wsX2_set wsX2_within := goodIn_r _ [11] (by decide +kernel) (by decide +kernel)
set_option maxRecDepth 20000 in
theorem gX2_set_X2_within : GoodIn wsX2_set (va_wsS RX2 54 yX2_within wsX2_within) := goodIn_app (goodIn_of _ (by decide +kernel)) ggX2_set_X2_within
set_option maxRecDepth 20000 in
theorem ggX2_set_X2_fails : GoodIn wsX2_set wsX2_fails := goodIn_r _ [18, 19, 51, 52, 53, 54, 55, 56, 57, 58, 59, 60, 61, 62, 63, 64, 65, 66] (by decide +kernel) (by decide +kernel)
set_option maxRecDepth 20000 in
theorem gX2_set_X2_fails : GoodIn wsX2_set (wsV RX2 72 RX2 yX2_fails wsX2_fails) := goodIn_app (goodIn_of _ (by decide +kernel)) ggX2_set_X2_fails
set_option maxRecDepth 20000 in
theorem ggX2_set_X2_begin : GoodIn wsX2_set wsX2_begin := goodIn_r _ [23, 24, 51, 52, 53, 54, 55, 56, 57, 58, 59, 60, 61, 62, 63, 64, 65, 66] (by decide +kernel) (by decide +kernel)
set_option maxRecDepth 20000 in
theorem gX2_set_X2_begin : GoodIn wsX2_set (wsV RX2 99 RX2 yX2_begin wsX2_begin) := goodIn_app (goodIn_of _ (by decide +kernel)) ggX2_set_X2_begin
set_option maxRecDepth 20000 in
theorem ggX2_set_X2_find : GoodIn wsX2_set wsX2_find := goodIn_r _ [28, 29, 30, 51, 52, 53, 54, 55, 56, 57, 58, 59, 60, 61, 62, 63, 64, 65, 66] (by decide +kernel) (by decide +kernel)
set_option maxRecDepth 20000 in
theorem gX2_set_X2_find : GoodIn wsX2_set (wsV RX2 92 RX2 yX2_find wsX2_find) := goodIn_app (goodIn_of _ (by decide +kernel)) ggX2_set_X2_find
set_option maxRecDepth 20000 in
theorem ggX2_set_X2_isFull : GoodIn wsX2_set wsX2_isFull := goodIn_r _ [34, 2, 35, 36, 37, 38, 7, 39, 40, 29, 30, 41, 42, 43, 44, 45, 3, 46, 51, 52, 53, 54, 55, 56, 57, 58, 59, 60, 61, 62, 63, 64, 65, 66] (by decide +kernel) (by decide +kernel)
set_option maxRecDepth 20000 in
theorem gX2_set_X2_isFull : GoodIn wsX2_set (wsV RX2 96 RX2 yX2_isFull wsX2_isFull) := goodIn_app (goodIn_of _ (by decide +kernel)) ggX2_set_X2_isFull
set_option maxRecDepth 20000 in
theorem ggX2_set_X2_append : GoodIn wsX2_set wsX2_append := goodIn_r _ [50, 4, 3, 46, 51, 52, 53, 54, 55, 56, 57, 58, 59, 60, 61, 62, 63, 64, 65, 66] (by decide +kernel) (by decide +kernel)
set_option maxRecDepth 20000 in
theorem gX2_set_X2_append : GoodIn wsX2_set (wsV RX2 107 RX2 yX2_append wsX2_append) := goodIn_app (goodIn_of _ (by decide +kernel)) ggX2_set_X2_append
theorem dX2_set_0 : decode cX2_set 0 = .ok (.aload_n 0, 1) := by decide +kernel
theorem dX2_set_1 : decode cX2_set 1 = .ok (.iload_n 1, 1) := by decide +kernel
theorem dX2_set_2 : decode cX2_set 2 = .ok (.invokestatic 65, 3) := by decide +kernel
theorem dX2_set_5 : decode cX2_set 5 = .ok (.ifCond .eq 19, 3) := by decide +kernel
theorem dX2_set_8 : decode cX2_set 8 = .ok (.iload_n 2, 1) := by decide +kernel
theorem dX2_set_9 : decode cX2_set 9 = .ok (.invokestatic 89, 3) := by decide +kernel
theorem dX2_set_12 : decode cX2_set 12 = .ok (.ifCond .eq 12, 3) := by decide +kernel
theorem dX2_set_15 : decode cX2_set 15 = .ok (.iload_n 3, 1) := by decide +kernel
theorem dX2_set_16 : decode cX2_set 16 = .ok (.bipush 24, 2) := by decide +kernel
theorem dX2_set_18 : decode cX2_set 18 = .ok (.invokestatic 54, 3) := by decide +kernel
theorem dX2_set_21 : decode cX2_set 21 = .ok (.ifCond .ne 7, 3) := by decide +kernel
theorem dX2_set_24 : decode cX2_set 24 = .ok (.iconst 1, 1) := by decide +kernel
theorem dX2_set_25 : decode cX2_set 25 = .ok (.goto 4, 3) := by decide +kernel
theorem dX2_set_28 : decode cX2_set 28 = .ok (.iconst 0, 1) := by decide +kernel
theorem dX2_set_29 : decode cX2_set 29 = .ok (.iconst 1, 1) := by decide +kernel
theorem dX2_set_30 : decode cX2_set 30 = .ok (.invokevirtual 72, 3) := by decide +kernel
theorem dX2_set_33 : decode cX2_set 33 = .ok (.ifCond .eq 5, 3) := by decide +kernel
theorem dX2_set_36 : decode cX2_set 36 = .ok (.iconst 0, 1) := by decide +kernel
theorem dX2_set_37 : decode cX2_set 37 = .ok (.ireturn, 1) := by decide +kernel
theorem dX2_set_38 : decode cX2_set 38 = .ok (.aload_n 0, 1) := by decide +kernel
theorem dX2_set_39 : decode cX2_set 39 = .ok (.iload_n 1, 1) := by decide +kernel
theorem dX2_set_40 : decode cX2_set 40 = .ok (.invokevirtual 99, 3) := by decide +kernel
theorem dX2_set_43 : decode cX2_set 43 = .ok (.aload_n 0, 1) := by decide +kernel
theorem dX2_set_44 : decode cX2_set 44 = .ok (.getfield 13, 3) := by decide +kernel
theorem dX2_set_47 : decode cX2_set 47 = .ok (.iload_n 1, 1) := by decide +kernel
theorem dX2_set_48 : decode cX2_set 48 = .ok (.baload, 1) := by decide +kernel
theorem dX2_set_49 : decode cX2_set 49 = .ok (.ifCond .ne 5, 3) := by decide +kernel
theorem dX2_set_52 : decode cX2_set 52 = .ok (.iconst (-1), 1) := by decide +kernel
theorem dX2_set_53 : decode cX2_set 53 = .ok (.ireturn, 1) := by decide +kernel
theorem dX2_set_54 : decode cX2_set 54 = .ok (.aload_n 0, 1) := by decide +kernel
theorem dX2_set_55 : decode cX2_set 55 = .ok (.aload_n 0, 1) := by decide +kernel
theorem dX2_set_56 : decode cX2_set 56 = .ok (.getfield 7, 3) := by decide +kernel
theorem dX2_set_59 : decode cX2_set 59 = .ok (.iload_n 1, 1) := by decide +kernel
theorem dX2_set_60 : decode cX2_set 60 = .ok (.iaload, 1) := by decide +kernel
theorem dX2_set_61 : decode cX2_set 61 = .ok (.iload_n 2, 1) := by decide +kernel
theorem dX2_set_62 : decode cX2_set 62 = .ok (.invokevirtual 92, 3) := by decide +kernel
theorem dX2_set_65 : decode cX2_set 65 = .ok (.istore 5, 2) := by decide +kernel
theorem dX2_set_67 : decode cX2_set 67 = .ok (.iload 5, 2) := by decide +kernel
theorem dX2_set_69 : decode cX2_set 69 = .ok (.iconst (-1), 1) := by decide +kernel
theorem dX2_set_70 : decode cX2_set 70 = .ok (.if_icmp .eq 14, 3) := by decide +kernel
theorem dX2_set_73 : decode cX2_set 73 = .ok (.iload_n 3, 1) := by decide +kernel
theorem dX2_set_74 : decode cX2_set 74 = .ok (.aload_n 0, 1) := by decide +kernel
theorem dX2_set_75 : decode cX2_set 75 = .ok (.getfield 32, 3) := by decide +kernel
theorem dX2_set_78 : decode cX2_set 78 = .ok (.iload 5, 2) := by decide +kernel
theorem dX2_set_80 : decode cX2_set 80 = .ok (.iaload, 1) := by decide +kernel
theorem dX2_set_81 : decode cX2_set 81 = .ok (.if_icmp .le 5, 3) := by decide +kernel
theorem dX2_set_84 : decode cX2_set 84 = .ok (.iconst 0, 1) := by decide +kernel
theorem dX2_set_85 : decode cX2_set 85 = .ok (.ireturn, 1) := by decide +kernel
theorem dX2_set_86 : decode cX2_set 86 = .ok (.iload_n 3, 1) := by decide +kernel
theorem dX2_set_87 : decode cX2_set 87 = .ok (.aload_n 0, 1) := by decide +kernel
theorem dX2_set_88 : decode cX2_set 88 = .ok (.getfield 32, 3) := by decide +kernel
theorem dX2_set_91 : decode cX2_set 91 = .ok (.iload 5, 2) := by decide +kernel
theorem dX2_set_93 : decode cX2_set 93 = .ok (.iaload, 1) := by decide +kernel
theorem dX2_set_94 : decode cX2_set 94 = .ok (.if_icmp .ge 19, 3) := by decide +kernel
theorem dX2_set_97 : decode cX2_set 97 = .ok (.aload_n 0, 1) := by decide +kernel
theorem dX2_set_98 : decode cX2_set 98 = .ok (.getfield 35, 3) := by decide +kernel
theorem dX2_set_101 : decode cX2_set 101 = .ok (.bipush 24, 2) := by decide +kernel
theorem dX2_set_103 : decode cX2_set 103 = .ok (.iload 5, 2) := by decide +kernel
theorem dX2_set_105 : decode cX2_set 105 = .ok (.imul, 1) := by decide +kernel
theorem dX2_set_106 : decode cX2_set 106 = .ok (.iload_n 3, 1) := by decide +kernel
theorem dX2_set_107 : decode cX2_set 107 = .ok (.iadd, 1) := by decide +kernel
theorem dX2_set_108 : decode cX2_set 108 = .ok (.iload 4, 2) := by decide +kernel
theorem dX2_set_110 : decode cX2_set 110 = .ok (.iastore, 1) := by decide +kernel
theorem dX2_set_111 : decode cX2_set 111 = .ok (.iconst 1, 1) := by decide +kernel
theorem dX2_set_112 : decode cX2_set 112 = .ok (.ireturn, 1) := by decide +kernel
theorem dX2_set_113 : decode cX2_set 113 = .ok (.aload_n 0, 1) := by decide +kernel
theorem dX2_set_114 : decode cX2_set 114 = .ok (.iload_n 1, 1) := by decide +kernel
theorem dX2_set_115 : decode cX2_set 115 = .ok (.iconst 1, 1) := by decide +kernel
theorem dX2_set_116 : decode cX2_set 116 = .ok (.invokevirtual 96, 3) := by decide +kernel
theorem dX2_set_119 : decode cX2_set 119 = .ok (.ifCond .eq 6, 3) := by decide +kernel
theorem dX2_set_122 : decode cX2_set 122 = .ok (.bipush (-3), 2) := by decide +kernel
theorem dX2_set_124 : decode cX2_set 124 = .ok (.ireturn, 1) := by decide +kernel
theorem dX2_set_125 : decode cX2_set 125 = .ok (.aload_n 0, 1) := by decide +kernel
theorem dX2_set_126 : decode cX2_set 126 = .ok (.iload 5, 2) := by decide +kernel
theorem dX2_set_128 : decode cX2_set 128 = .ok (.iload 4, 2) := by decide +kernel
theorem dX2_set_130 : decode cX2_set 130 = .ok (.iconst 0, 1) := by decide +kernel
theorem dX2_set_131 : decode cX2_set 131 = .ok (.invokevirtual 107, 3) := by decide +kernel
theorem dX2_set_134 : decode cX2_set 134 = .ok (.iconst 1, 1) := by decide +kernel
theorem dX2_set_135 : decode cX2_set 135 = .ok (.ireturn, 1) := by decide +kernel
set_option maxRecDepth 20000 in
theorem ggX2_give_X2_isSubject : GoodIn wsX2_give wsX2_isSubject := goodIn_r _ [8, 9, 10, 7, 11] (by decide +kernel) (by decide +kernel)
set_option maxRecDepth 20000 in
theorem gX2_give_X2_isSubject : GoodIn wsX2_give (va_wsS RX2 65 yX2_isSubject wsX2_isSubject) := goodIn_app (goodIn_of _ (by decide +kernel)) ggX2_give_X2_isSubject
set_option maxRecDepth 20000 in
theorem ggX2_give_X2_isLabel : GoodIn wsX2_give wsX2_isLabel := goodIn_r _ [14, 9, 10, 7, 11] (by decide +kernel) (by decide +kernel)
set_option maxRecDepth 20000 in
theorem gX2_give_X2_isLabel : GoodIn wsX2_give (va_wsS RX2 69 yX2_isLabel wsX2_isLabel) := goodIn_app (goodIn_of _ (by decide +kernel)) ggX2_give_X2_isLabel
set_option maxRecDepth 20000 in
theorem ggX2_give_X2_isNumber : GoodIn wsX2_give wsX2_isNumber := goodIn_r _ [17, 9, 10, 7, 11] (by decide +kernel) (by decide +kernel)
set_option maxRecDepth 20000 in
theorem gX2_give_X2_isNumber : GoodIn wsX2_give (va_wsS RX2 89 yX2_isNumber wsX2_isNumber) := goodIn_app (goodIn_of _ (by decide +kernel)) ggX2_give_X2_isNumber
set_option maxRecDepth 20000 in
theorem ggX2_give_X2_fails : GoodIn wsX2_give wsX2_fails := goodIn_r _ [21, 22, 57, 58, 59, 60, 61, 62, 63, 64, 65, 66, 67, 68, 69, 70, 71, 72] (by decide +kernel) (by decide +kernel)
set_option maxRecDepth 20000 in
theorem gX2_give_X2_fails : GoodIn wsX2_give (wsV RX2 72 RX2 yX2_fails wsX2_fails) := goodIn_app (goodIn_of _ (by decide +kernel)) ggX2_give_X2_fails
set_option maxRecDepth 20000 in
theorem ggX2_give_X2_begin : GoodIn wsX2_give wsX2_begin := goodIn_r _ [26, 27, 57, 58, 59, 60, 61, 62, 63, 64, 65, 66, 67, 68, 69, 70, 71, 72] (by decide +kernel) (by decide +kernel)
set_option maxRecDepth 20000 in
theorem gX2_give_X2_begin : GoodIn wsX2_give (wsV RX2 99 RX2 yX2_begin wsX2_begin) := goodIn_app (goodIn_of _ (by decide +kernel)) ggX2_give_X2_begin
set_option maxRecDepth 20000 in
theorem ggX2_give_X2_may : GoodIn wsX2_give wsX2_may := goodIn_r _ [30] (by decide +kernel) (by decide +kernel)
set_option maxRecDepth 20000 in
theorem gX2_give_X2_may : GoodIn wsX2_give (va_wsS RX2 83 yX2_may wsX2_may) := goodIn_app (goodIn_of _ (by decide +kernel)) ggX2_give_X2_may
set_option maxRecDepth 20000 in
theorem ggX2_give_X2_isFull : GoodIn wsX2_give wsX2_isFull := goodIn_r _ [34, 2, 35, 36, 37, 38, 7, 39, 3, 40, 41, 42, 43, 44, 45, 46, 4, 47, 57, 58, 59, 60, 61, 62, 63, 64, 65, 66, 67, 68, 69, 70, 71, 72] (by decide +kernel) (by decide +kernel)
set_option maxRecDepth 20000 in
theorem gX2_give_X2_isFull : GoodIn wsX2_give (wsV RX2 96 RX2 yX2_isFull wsX2_isFull) := goodIn_app (goodIn_of _ (by decide +kernel)) ggX2_give_X2_isFull
set_option maxRecDepth 20000 in
theorem ggX2_give_X2_find : GoodIn wsX2_give wsX2_find := goodIn_r _ [51, 40, 41, 57, 58, 59, 60, 61, 62, 63, 64, 65, 66, 67, 68, 69, 70, 71, 72] (by decide +kernel) (by decide +kernel)
set_option maxRecDepth 20000 in
theorem gX2_give_X2_find : GoodIn wsX2_give (wsV RX2 92 RX2 yX2_find wsX2_find) := goodIn_app (goodIn_of _ (by decide +kernel)) ggX2_give_X2_find
set_option maxRecDepth 20000 in
theorem ggX2_give_X2_append : GoodIn wsX2_give wsX2_append := goodIn_r _ [55, 56, 4, 47, 57, 58, 59, 60, 61, 62, 63, 64, 65, 66, 67, 68, 69, 70, 71, 72] (by decide +kernel) (by decide +kernel)
set_option maxRecDepth 20000 in
theorem gX2_give_X2_append : GoodIn wsX2_give (wsV RX2 107 RX2 yX2_append wsX2_append) := goodIn_app (goodIn_of _ (by decide +kernel)) ggX2_give_X2_append
theorem dX2_give_0 : decode cX2_give 0 = .ok (.aload_n 0, 1) := by decide +kernel
theorem dX2_give_1 : decode cX2_give 1 = .ok (.iload_n 1, 1) := by decide +kernel
theorem dX2_give_2 : decode cX2_give 2 = .ok (.invokestatic 65, 3) := by decide +kernel
theorem dX2_give_5 : decode cX2_give 5 = .ok (.ifCond .eq 17, 3) := by decide +kernel
theorem dX2_give_8 : decode cX2_give 8 = .ok (.iload_n 2, 1) := by decide +kernel
theorem dX2_give_9 : decode cX2_give 9 = .ok (.invokestatic 69, 3) := by decide +kernel
theorem dX2_give_12 : decode cX2_give 12 = .ok (.ifCond .eq 10, 3) := by decide +kernel
theorem dX2_give_15 : decode cX2_give 15 = .ok (.iload_n 3, 1) := by decide +kernel
theorem dX2_give_16 : decode cX2_give 16 = .ok (.invokestatic 89, 3) := by decide +kernel
theorem dX2_give_19 : decode cX2_give 19 = .ok (.ifCond .ne 7, 3) := by decide +kernel
theorem dX2_give_22 : decode cX2_give 22 = .ok (.iconst 1, 1) := by decide +kernel
theorem dX2_give_23 : decode cX2_give 23 = .ok (.goto 4, 3) := by decide +kernel
theorem dX2_give_26 : decode cX2_give 26 = .ok (.iconst 0, 1) := by decide +kernel
theorem dX2_give_27 : decode cX2_give 27 = .ok (.iconst 1, 1) := by decide +kernel
theorem dX2_give_28 : decode cX2_give 28 = .ok (.invokevirtual 72, 3) := by decide +kernel
theorem dX2_give_31 : decode cX2_give 31 = .ok (.ifCond .eq 5, 3) := by decide +kernel
theorem dX2_give_34 : decode cX2_give 34 = .ok (.iconst 0, 1) := by decide +kernel
theorem dX2_give_35 : decode cX2_give 35 = .ok (.ireturn, 1) := by decide +kernel
theorem dX2_give_36 : decode cX2_give 36 = .ok (.aload_n 0, 1) := by decide +kernel
theorem dX2_give_37 : decode cX2_give 37 = .ok (.iload_n 1, 1) := by decide +kernel
theorem dX2_give_38 : decode cX2_give 38 = .ok (.invokevirtual 99, 3) := by decide +kernel
theorem dX2_give_41 : decode cX2_give 41 = .ok (.aload_n 0, 1) := by decide +kernel
theorem dX2_give_42 : decode cX2_give 42 = .ok (.getfield 13, 3) := by decide +kernel
theorem dX2_give_45 : decode cX2_give 45 = .ok (.iload_n 1, 1) := by decide +kernel
theorem dX2_give_46 : decode cX2_give 46 = .ok (.baload, 1) := by decide +kernel
theorem dX2_give_47 : decode cX2_give 47 = .ok (.ifCond .ne 5, 3) := by decide +kernel
theorem dX2_give_50 : decode cX2_give 50 = .ok (.iconst (-1), 1) := by decide +kernel
theorem dX2_give_51 : decode cX2_give 51 = .ok (.ireturn, 1) := by decide +kernel
theorem dX2_give_52 : decode cX2_give 52 = .ok (.iload_n 2, 1) := by decide +kernel
theorem dX2_give_53 : decode cX2_give 53 = .ok (.aload_n 0, 1) := by decide +kernel
theorem dX2_give_54 : decode cX2_give 54 = .ok (.getfield 7, 3) := by decide +kernel
theorem dX2_give_57 : decode cX2_give 57 = .ok (.iload_n 1, 1) := by decide +kernel
theorem dX2_give_58 : decode cX2_give 58 = .ok (.iaload, 1) := by decide +kernel
theorem dX2_give_59 : decode cX2_give 59 = .ok (.if_icmp .eq 16, 3) := by decide +kernel
theorem dX2_give_62 : decode cX2_give 62 = .ok (.aload_n 0, 1) := by decide +kernel
theorem dX2_give_63 : decode cX2_give 63 = .ok (.getfield 7, 3) := by decide +kernel
theorem dX2_give_66 : decode cX2_give 66 = .ok (.iload_n 1, 1) := by decide +kernel
theorem dX2_give_67 : decode cX2_give 67 = .ok (.iaload, 1) := by decide +kernel
theorem dX2_give_68 : decode cX2_give 68 = .ok (.iload_n 2, 1) := by decide +kernel
theorem dX2_give_69 : decode cX2_give 69 = .ok (.invokestatic 83, 3) := by decide +kernel
theorem dX2_give_72 : decode cX2_give 72 = .ok (.ifCond .ne 6, 3) := by decide +kernel
theorem dX2_give_75 : decode cX2_give 75 = .ok (.bipush (-2), 2) := by decide +kernel
theorem dX2_give_77 : decode cX2_give 77 = .ok (.ireturn, 1) := by decide +kernel
theorem dX2_give_78 : decode cX2_give 78 = .ok (.aload_n 0, 1) := by decide +kernel
theorem dX2_give_79 : decode cX2_give 79 = .ok (.iload_n 1, 1) := by decide +kernel
theorem dX2_give_80 : decode cX2_give 80 = .ok (.iconst 1, 1) := by decide +kernel
theorem dX2_give_81 : decode cX2_give 81 = .ok (.invokevirtual 96, 3) := by decide +kernel
theorem dX2_give_84 : decode cX2_give 84 = .ok (.ifCond .eq 6, 3) := by decide +kernel
theorem dX2_give_87 : decode cX2_give 87 = .ok (.bipush (-3), 2) := by decide +kernel
theorem dX2_give_89 : decode cX2_give 89 = .ok (.ireturn, 1) := by decide +kernel
theorem dX2_give_90 : decode cX2_give 90 = .ok (.aload_n 0, 1) := by decide +kernel
theorem dX2_give_91 : decode cX2_give 91 = .ok (.getfield 20, 3) := by decide +kernel
theorem dX2_give_94 : decode cX2_give 94 = .ok (.aload_n 0, 1) := by decide +kernel
theorem dX2_give_95 : decode cX2_give 95 = .ok (.getfield 7, 3) := by decide +kernel
theorem dX2_give_98 : decode cX2_give 98 = .ok (.iload_n 1, 1) := by decide +kernel
theorem dX2_give_99 : decode cX2_give 99 = .ok (.iaload, 1) := by decide +kernel
theorem dX2_give_100 : decode cX2_give 100 = .ok (.dup2, 1) := by decide +kernel
theorem dX2_give_101 : decode cX2_give 101 = .ok (.iaload, 1) := by decide +kernel
theorem dX2_give_102 : decode cX2_give 102 = .ok (.iconst 1, 1) := by decide +kernel
theorem dX2_give_103 : decode cX2_give 103 = .ok (.iadd, 1) := by decide +kernel
theorem dX2_give_104 : decode cX2_give 104 = .ok (.iastore, 1) := by decide +kernel
theorem dX2_give_105 : decode cX2_give 105 = .ok (.aload_n 0, 1) := by decide +kernel
theorem dX2_give_106 : decode cX2_give 106 = .ok (.iload_n 2, 1) := by decide +kernel
theorem dX2_give_107 : decode cX2_give 107 = .ok (.iload_n 3, 1) := by decide +kernel
theorem dX2_give_108 : decode cX2_give 108 = .ok (.invokevirtual 92, 3) := by decide +kernel
theorem dX2_give_111 : decode cX2_give 111 = .ok (.istore 5, 2) := by decide +kernel
theorem dX2_give_113 : decode cX2_give 113 = .ok (.iload 5, 2) := by decide +kernel
theorem dX2_give_115 : decode cX2_give 115 = .ok (.iconst (-1), 1) := by decide +kernel
theorem dX2_give_116 : decode cX2_give 116 = .ok (.if_icmp .eq 24, 3) := by decide +kernel
theorem dX2_give_119 : decode cX2_give 119 = .ok (.aload_n 0, 1) := by decide +kernel
theorem dX2_give_120 : decode cX2_give 120 = .ok (.getfield 32, 3) := by decide +kernel
theorem dX2_give_123 : decode cX2_give 123 = .ok (.iload 5, 2) := by decide +kernel
theorem dX2_give_125 : decode cX2_give 125 = .ok (.iaload, 1) := by decide +kernel
theorem dX2_give_126 : decode cX2_give 126 = .ok (.bipush 24, 2) := by decide +kernel
theorem dX2_give_128 : decode cX2_give 128 = .ok (.if_icmp .ge 12, 3) := by decide +kernel
theorem dX2_give_131 : decode cX2_give 131 = .ok (.aload_n 0, 1) := by decide +kernel
theorem dX2_give_132 : decode cX2_give 132 = .ok (.iload 5, 2) := by decide +kernel
theorem dX2_give_134 : decode cX2_give 134 = .ok (.iload 4, 2) := by decide +kernel
theorem dX2_give_136 : decode cX2_give 136 = .ok (.iconst 1, 1) := by decide +kernel
theorem dX2_give_137 : decode cX2_give 137 = .ok (.invokevirtual 107, 3) := by decide +kernel
theorem dX2_give_140 : decode cX2_give 140 = .ok (.iconst 2, 1) := by decide +kernel
theorem dX2_give_141 : decode cX2_give 141 = .ok (.ireturn, 1) := by decide +kernel
set_option maxRecDepth 20000 in
theorem ggX2_trim_X2_isSubject : GoodIn wsX2_trim wsX2_isSubject := goodIn_r _ [7, 8, 9, 6, 10] (by decide +kernel) (by decide +kernel)
set_option maxRecDepth 20000 in
theorem gX2_trim_X2_isSubject : GoodIn wsX2_trim (va_wsS RX2 65 yX2_isSubject wsX2_isSubject) := goodIn_app (goodIn_of _ (by decide +kernel)) ggX2_trim_X2_isSubject
set_option maxRecDepth 20000 in
theorem ggX2_trim_X2_isNumber : GoodIn wsX2_trim wsX2_isNumber := goodIn_r _ [13, 8, 9, 6, 10] (by decide +kernel) (by decide +kernel)
set_option maxRecDepth 20000 in
theorem gX2_trim_X2_isNumber : GoodIn wsX2_trim (va_wsS RX2 89 yX2_isNumber wsX2_isNumber) := goodIn_app (goodIn_of _ (by decide +kernel)) ggX2_trim_X2_isNumber
set_option maxRecDepth 20000 in
theorem ggX2_trim_X2_within : GoodIn wsX2_trim wsX2_within := goodIn_r _ [10] (by decide +kernel) (by decide +kernel)
set_option maxRecDepth 20000 in
theorem gX2_trim_X2_within : GoodIn wsX2_trim (va_wsS RX2 54 yX2_within wsX2_within) := goodIn_app (goodIn_of _ (by decide +kernel)) ggX2_trim_X2_within
set_option maxRecDepth 20000 in
theorem ggX2_trim_X2_fails : GoodIn wsX2_trim wsX2_fails := goodIn_r _ [17, 18, 30, 31, 32, 33, 34, 35, 36, 37, 38, 39, 40, 41, 42, 43, 44, 45] (by decide +kernel) (by decide +kernel)
set_option maxRecDepth 20000 in
theorem gX2_trim_X2_fails : GoodIn wsX2_trim (wsV RX2 72 RX2 yX2_fails wsX2_fails) := goodIn_app (goodIn_of _ (by decide +kernel)) ggX2_trim_X2_fails
set_option maxRecDepth 20000 in
theorem ggX2_trim_X2_begin : GoodIn wsX2_trim wsX2_begin := goodIn_r _ [22, 23, 30, 31, 32, 33, 34, 35, 36, 37, 38, 39, 40, 41, 42, 43, 44, 45] (by decide +kernel) (by decide +kernel)
set_option maxRecDepth 20000 in
theorem gX2_trim_X2_begin : GoodIn wsX2_trim (wsV RX2 99 RX2 yX2_begin wsX2_begin) := goodIn_app (goodIn_of _ (by decide +kernel)) ggX2_trim_X2_begin
set_option maxRecDepth 20000 in
theorem ggX2_trim_X2_find : GoodIn wsX2_trim wsX2_find := goodIn_r _ [27, 28, 29, 30, 31, 32, 33, 34, 35, 36, 37, 38, 39, 40, 41, 42, 43, 44, 45] (by decide +kernel) (by decide +kernel)
set_option maxRecDepth 20000 in
theorem gX2_trim_X2_find : GoodIn wsX2_trim (wsV RX2 92 RX2 yX2_find wsX2_find) := goodIn_app (goodIn_of _ (by decide +kernel)) ggX2_trim_X2_find
theorem dX2_trim_0 : decode cX2_trim 0 = .ok (.aload_n 0, 1) := by decide +kernel
theorem dX2_trim_1 : decode cX2_trim 1 = .ok (.iload_n 1, 1) := by decide +kernel
theorem dX2_trim_2 : decode cX2_trim 2 = .ok (.invokestatic 65, 3) := by decide +kernel
theorem dX2_trim_5 : decode cX2_trim 5 = .ok (.ifCond .eq 19, 3) := by decide +kernel
theorem dX2_trim_8 : decode cX2_trim 8 = .ok (.iload_n 2, 1) := by decide +kernel
theorem dX2_trim_9 : decode cX2_trim 9 = .ok (.invokestatic 89, 3) := by decide +kernel
theorem dX2_trim_12 : decode cX2_trim 12 = .ok (.ifCond .eq 12, 3) := by decide +kernel
theorem dX2_trim_15 : decode cX2_trim 15 = .ok (.iload_n 3, 1) := by decide +kernel
theorem dX2_trim_16 : decode cX2_trim 16 = .ok (.bipush 25, 2) := by decide +kernel
theorem dX2_trim_18 : decode cX2_trim 18 = .ok (.invokestatic 54, 3) := by decide +kernel
theorem dX2_trim_21 : decode cX2_trim 21 = .ok (.ifCond .ne 7, 3) := by decide +kernel
theorem dX2_trim_24 : decode cX2_trim 24 = .ok (.iconst 1, 1) := by decide +kernel
theorem dX2_trim_25 : decode cX2_trim 25 = .ok (.goto 4, 3) := by decide +kernel
theorem dX2_trim_28 : decode cX2_trim 28 = .ok (.iconst 0, 1) := by decide +kernel
theorem dX2_trim_29 : decode cX2_trim 29 = .ok (.iconst 1, 1) := by decide +kernel
theorem dX2_trim_30 : decode cX2_trim 30 = .ok (.invokevirtual 72, 3) := by decide +kernel
theorem dX2_trim_33 : decode cX2_trim 33 = .ok (.ifCond .eq 5, 3) := by decide +kernel
theorem dX2_trim_36 : decode cX2_trim 36 = .ok (.iconst 0, 1) := by decide +kernel
theorem dX2_trim_37 : decode cX2_trim 37 = .ok (.ireturn, 1) := by decide +kernel
theorem dX2_trim_38 : decode cX2_trim 38 = .ok (.aload_n 0, 1) := by decide +kernel
theorem dX2_trim_39 : decode cX2_trim 39 = .ok (.iload_n 1, 1) := by decide +kernel
theorem dX2_trim_40 : decode cX2_trim 40 = .ok (.invokevirtual 99, 3) := by decide +kernel
theorem dX2_trim_43 : decode cX2_trim 43 = .ok (.aload_n 0, 1) := by decide +kernel
theorem dX2_trim_44 : decode cX2_trim 44 = .ok (.getfield 13, 3) := by decide +kernel
theorem dX2_trim_47 : decode cX2_trim 47 = .ok (.iload_n 1, 1) := by decide +kernel
theorem dX2_trim_48 : decode cX2_trim 48 = .ok (.baload, 1) := by decide +kernel
theorem dX2_trim_49 : decode cX2_trim 49 = .ok (.ifCond .ne 5, 3) := by decide +kernel
theorem dX2_trim_52 : decode cX2_trim 52 = .ok (.iconst (-1), 1) := by decide +kernel
theorem dX2_trim_53 : decode cX2_trim 53 = .ok (.ireturn, 1) := by decide +kernel
theorem dX2_trim_54 : decode cX2_trim 54 = .ok (.aload_n 0, 1) := by decide +kernel
theorem dX2_trim_55 : decode cX2_trim 55 = .ok (.aload_n 0, 1) := by decide +kernel
theorem dX2_trim_56 : decode cX2_trim 56 = .ok (.getfield 7, 3) := by decide +kernel
theorem dX2_trim_59 : decode cX2_trim 59 = .ok (.iload_n 1, 1) := by decide +kernel
theorem dX2_trim_60 : decode cX2_trim 60 = .ok (.iaload, 1) := by decide +kernel
theorem dX2_trim_61 : decode cX2_trim 61 = .ok (.iload_n 2, 1) := by decide +kernel
theorem dX2_trim_62 : decode cX2_trim 62 = .ok (.invokevirtual 92, 3) := by decide +kernel
theorem dX2_trim_65 : decode cX2_trim 65 = .ok (.istore 4, 2) := by decide +kernel
theorem dX2_trim_67 : decode cX2_trim 67 = .ok (.iload 4, 2) := by decide +kernel
theorem dX2_trim_69 : decode cX2_trim 69 = .ok (.iconst (-1), 1) := by decide +kernel
theorem dX2_trim_70 : decode cX2_trim 70 = .ok (.if_icmp .eq 14, 3) := by decide +kernel
theorem dX2_trim_73 : decode cX2_trim 73 = .ok (.aload_n 0, 1) := by decide +kernel
theorem dX2_trim_74 : decode cX2_trim 74 = .ok (.getfield 32, 3) := by decide +kernel
theorem dX2_trim_77 : decode cX2_trim 77 = .ok (.iload 4, 2) := by decide +kernel
theorem dX2_trim_79 : decode cX2_trim 79 = .ok (.iaload, 1) := by decide +kernel
theorem dX2_trim_80 : decode cX2_trim 80 = .ok (.iload_n 3, 1) := by decide +kernel
theorem dX2_trim_81 : decode cX2_trim 81 = .ok (.if_icmp .ge 5, 3) := by decide +kernel
theorem dX2_trim_84 : decode cX2_trim 84 = .ok (.iconst 0, 1) := by decide +kernel
theorem dX2_trim_85 : decode cX2_trim 85 = .ok (.ireturn, 1) := by decide +kernel
theorem dX2_trim_86 : decode cX2_trim 86 = .ok (.aload_n 0, 1) := by decide +kernel
theorem dX2_trim_87 : decode cX2_trim 87 = .ok (.getfield 32, 3) := by decide +kernel
theorem dX2_trim_90 : decode cX2_trim 90 = .ok (.iload 4, 2) := by decide +kernel
theorem dX2_trim_92 : decode cX2_trim 92 = .ok (.iaload, 1) := by decide +kernel
theorem dX2_trim_93 : decode cX2_trim 93 = .ok (.iload_n 3, 1) := by decide +kernel
theorem dX2_trim_94 : decode cX2_trim 94 = .ok (.isub, 1) := by decide +kernel
theorem dX2_trim_95 : decode cX2_trim 95 = .ok (.istore 5, 2) := by decide +kernel
theorem dX2_trim_97 : decode cX2_trim 97 = .ok (.aload_n 0, 1) := by decide +kernel
theorem dX2_trim_98 : decode cX2_trim 98 = .ok (.getfield 32, 3) := by decide +kernel
theorem dX2_trim_101 : decode cX2_trim 101 = .ok (.iload 4, 2) := by decide +kernel
theorem dX2_trim_103 : decode cX2_trim 103 = .ok (.iload_n 3, 1) := by decide +kernel
theorem dX2_trim_104 : decode cX2_trim 104 = .ok (.iastore, 1) := by decide +kernel
theorem dX2_trim_105 : decode cX2_trim 105 = .ok (.iload 5, 2) := by decide +kernel
theorem dX2_trim_107 : decode cX2_trim 107 = .ok (.ireturn, 1) := by decide +kernel
set_option maxRecDepth 20000 in
theorem ggX2_remove_X2_isSubject : GoodIn wsX2_remove wsX2_isSubject := goodIn_r _ [7, 8, 9, 6, 10] (by decide +kernel) (by decide +kernel)
set_option maxRecDepth 20000 in
theorem gX2_remove_X2_isSubject : GoodIn wsX2_remove (va_wsS RX2 65 yX2_isSubject wsX2_isSubject) := goodIn_app (goodIn_of _ (by decide +kernel)) ggX2_remove_X2_isSubject
set_option maxRecDepth 20000 in
theorem ggX2_remove_X2_isNumber : GoodIn wsX2_remove wsX2_isNumber := goodIn_r _ [13, 8, 9, 6, 10] (by decide +kernel) (by decide +kernel)
set_option maxRecDepth 20000 in
theorem gX2_remove_X2_isNumber : GoodIn wsX2_remove (va_wsS RX2 89 yX2_isNumber wsX2_isNumber) := goodIn_app (goodIn_of _ (by decide +kernel)) ggX2_remove_X2_isNumber
set_option maxRecDepth 20000 in
theorem ggX2_remove_X2_fails : GoodIn wsX2_remove wsX2_fails := goodIn_r _ [17, 18, 38, 39, 40, 41, 42, 43, 44, 45, 46, 47, 48, 49, 50, 51, 52, 53] (by decide +kernel) (by decide +kernel)
set_option maxRecDepth 20000 in
theorem gX2_remove_X2_fails : GoodIn wsX2_remove (wsV RX2 72 RX2 yX2_fails wsX2_fails) := goodIn_app (goodIn_of _ (by decide +kernel)) ggX2_remove_X2_fails
set_option maxRecDepth 20000 in
theorem ggX2_remove_X2_begin : GoodIn wsX2_remove wsX2_begin := goodIn_r _ [22, 23, 38, 39, 40, 41, 42, 43, 44, 45, 46, 47, 48, 49, 50, 51, 52, 53] (by decide +kernel) (by decide +kernel)
set_option maxRecDepth 20000 in
theorem gX2_remove_X2_begin : GoodIn wsX2_remove (wsV RX2 99 RX2 yX2_begin wsX2_begin) := goodIn_app (goodIn_of _ (by decide +kernel)) ggX2_remove_X2_begin
set_option maxRecDepth 20000 in
theorem ggX2_remove_X2_find : GoodIn wsX2_remove wsX2_find := goodIn_r _ [27, 3, 28, 38, 39, 40, 41, 42, 43, 44, 45, 46, 47, 48, 49, 50, 51, 52, 53] (by decide +kernel) (by decide +kernel)
set_option maxRecDepth 20000 in
theorem gX2_remove_X2_find : GoodIn wsX2_remove (wsV RX2 92 RX2 yX2_find wsX2_find) := goodIn_app (goodIn_of _ (by decide +kernel)) ggX2_remove_X2_find
set_option maxRecDepth 20000 in
theorem ggX2_remove_X2_move : GoodIn wsX2_remove wsX2_move := goodIn_r _ [32, 28, 33, 34, 35, 36, 37, 38, 39, 40, 41, 42, 43, 44, 45, 46, 47, 48, 49, 50, 51, 52, 53] (by decide +kernel) (by decide +kernel)
set_option maxRecDepth 20000 in
theorem gX2_remove_X2_move : GoodIn wsX2_remove (wsV RX2 111 RX2 yX2_move wsX2_move) := goodIn_app (goodIn_of _ (by decide +kernel)) ggX2_remove_X2_move
theorem dX2_remove_0 : decode cX2_remove 0 = .ok (.aload_n 0, 1) := by decide +kernel
theorem dX2_remove_1 : decode cX2_remove 1 = .ok (.iload_n 1, 1) := by decide +kernel
theorem dX2_remove_2 : decode cX2_remove 2 = .ok (.invokestatic 65, 3) := by decide +kernel
theorem dX2_remove_5 : decode cX2_remove 5 = .ok (.ifCond .eq 10, 3) := by decide +kernel
theorem dX2_remove_8 : decode cX2_remove 8 = .ok (.iload_n 2, 1) := by decide +kernel
theorem dX2_remove_9 : decode cX2_remove 9 = .ok (.invokestatic 89, 3) := by decide +kernel
theorem dX2_remove_12 : decode cX2_remove 12 = .ok (.ifCond .ne 7, 3) := by decide +kernel
theorem dX2_remove_15 : decode cX2_remove 15 = .ok (.iconst 1, 1) := by decide +kernel
theorem dX2_remove_16 : decode cX2_remove 16 = .ok (.goto 4, 3) := by decide +kernel
theorem dX2_remove_19 : decode cX2_remove 19 = .ok (.iconst 0, 1) := by decide +kernel
theorem dX2_remove_20 : decode cX2_remove 20 = .ok (.iconst 1, 1) := by decide +kernel
theorem dX2_remove_21 : decode cX2_remove 21 = .ok (.invokevirtual 72, 3) := by decide +kernel
theorem dX2_remove_24 : decode cX2_remove 24 = .ok (.ifCond .eq 5, 3) := by decide +kernel
theorem dX2_remove_27 : decode cX2_remove 27 = .ok (.iconst 0, 1) := by decide +kernel
theorem dX2_remove_28 : decode cX2_remove 28 = .ok (.ireturn, 1) := by decide +kernel
theorem dX2_remove_29 : decode cX2_remove 29 = .ok (.aload_n 0, 1) := by decide +kernel
theorem dX2_remove_30 : decode cX2_remove 30 = .ok (.iload_n 1, 1) := by decide +kernel
theorem dX2_remove_31 : decode cX2_remove 31 = .ok (.invokevirtual 99, 3) := by decide +kernel
theorem dX2_remove_34 : decode cX2_remove 34 = .ok (.aload_n 0, 1) := by decide +kernel
theorem dX2_remove_35 : decode cX2_remove 35 = .ok (.getfield 13, 3) := by decide +kernel
theorem dX2_remove_38 : decode cX2_remove 38 = .ok (.iload_n 1, 1) := by decide +kernel
theorem dX2_remove_39 : decode cX2_remove 39 = .ok (.baload, 1) := by decide +kernel
theorem dX2_remove_40 : decode cX2_remove 40 = .ok (.ifCond .ne 5, 3) := by decide +kernel
theorem dX2_remove_43 : decode cX2_remove 43 = .ok (.iconst (-1), 1) := by decide +kernel
theorem dX2_remove_44 : decode cX2_remove 44 = .ok (.ireturn, 1) := by decide +kernel
theorem dX2_remove_45 : decode cX2_remove 45 = .ok (.aload_n 0, 1) := by decide +kernel
theorem dX2_remove_46 : decode cX2_remove 46 = .ok (.aload_n 0, 1) := by decide +kernel
theorem dX2_remove_47 : decode cX2_remove 47 = .ok (.getfield 7, 3) := by decide +kernel
theorem dX2_remove_50 : decode cX2_remove 50 = .ok (.iload_n 1, 1) := by decide +kernel
theorem dX2_remove_51 : decode cX2_remove 51 = .ok (.iaload, 1) := by decide +kernel
theorem dX2_remove_52 : decode cX2_remove 52 = .ok (.iload_n 2, 1) := by decide +kernel
theorem dX2_remove_53 : decode cX2_remove 53 = .ok (.invokevirtual 92, 3) := by decide +kernel
theorem dX2_remove_56 : decode cX2_remove 56 = .ok (.istore_n 3, 1) := by decide +kernel
theorem dX2_remove_57 : decode cX2_remove 57 = .ok (.iload_n 3, 1) := by decide +kernel
theorem dX2_remove_58 : decode cX2_remove 58 = .ok (.iconst (-1), 1) := by decide +kernel
theorem dX2_remove_59 : decode cX2_remove 59 = .ok (.if_icmp .ne 5, 3) := by decide +kernel
theorem dX2_remove_62 : decode cX2_remove 62 = .ok (.iconst 0, 1) := by decide +kernel
theorem dX2_remove_63 : decode cX2_remove 63 = .ok (.ireturn, 1) := by decide +kernel
theorem dX2_remove_64 : decode cX2_remove 64 = .ok (.aload_n 0, 1) := by decide +kernel
theorem dX2_remove_65 : decode cX2_remove 65 = .ok (.dup, 1) := by decide +kernel
theorem dX2_remove_66 : decode cX2_remove 66 = .ok (.getfield 58, 3) := by decide +kernel
theorem dX2_remove_69 : decode cX2_remove 69 = .ok (.iconst 1, 1) := by decide +kernel
theorem dX2_remove_70 : decode cX2_remove 70 = .ok (.isub, 1) := by decide +kernel
theorem dX2_remove_71 : decode cX2_remove 71 = .ok (.putfield 58, 3) := by decide +kernel
theorem dX2_remove_74 : decode cX2_remove 74 = .ok (.aload_n 0, 1) := by decide +kernel
theorem dX2_remove_75 : decode cX2_remove 75 = .ok (.iload_n 3, 1) := by decide +kernel
theorem dX2_remove_76 : decode cX2_remove 76 = .ok (.aload_n 0, 1) := by decide +kernel
theorem dX2_remove_77 : decode cX2_remove 77 = .ok (.getfield 58, 3) := by decide +kernel
theorem dX2_remove_80 : decode cX2_remove 80 = .ok (.invokevirtual 111, 3) := by decide +kernel
theorem dX2_remove_83 : decode cX2_remove 83 = .ok (.iconst 1, 1) := by decide +kernel
theorem dX2_remove_84 : decode cX2_remove 84 = .ok (.ireturn, 1) := by decide +kernel
set_option maxRecDepth 20000 in
theorem ggX2_look_X2_begin : GoodIn wsX2_look wsX2_begin := goodIn_r _ [7, 8, 12, 13, 14, 15, 16, 17, 18, 19, 20, 21, 22, 23, 24, 25, 26, 27] (by decide +kernel) (by decide +kernel)
set_option maxRecDepth 20000 in
theorem gX2_look_X2_begin : GoodIn wsX2_look (wsV RX2 99 RX2 yX2_begin wsX2_begin) := goodIn_app (goodIn_of _ (by decide +kernel)) ggX2_look_X2_begin
set_option maxRecDepth 20000 in
theorem ggX2_look_X2_may : GoodIn wsX2_look wsX2_may := goodIn_r _ [11] (by decide +kernel) (by decide +kernel)
set_option maxRecDepth 20000 in
theorem gX2_look_X2_may : GoodIn wsX2_look (va_wsS RX2 83 yX2_may wsX2_may) := goodIn_app (goodIn_of _ (by decide +kernel)) ggX2_look_X2_may
theorem dX2_look_0 : decode cX2_look 0 = .ok (.aload_n 0, 1) := by decide +kernel
theorem dX2_look_1 : decode cX2_look 1 = .ok (.iload_n 1, 1) := by decide +kernel
theorem dX2_look_2 : decode cX2_look 2 = .ok (.invokevirtual 99, 3) := by decide +kernel
theorem dX2_look_5 : decode cX2_look 5 = .ok (.aload_n 0, 1) := by decide +kernel
theorem dX2_look_6 : decode cX2_look 6 = .ok (.getfield 13, 3) := by decide +kernel
theorem dX2_look_9 : decode cX2_look 9 = .ok (.iload_n 1, 1) := by decide +kernel
theorem dX2_look_10 : decode cX2_look 10 = .ok (.baload, 1) := by decide +kernel
theorem dX2_look_11 : decode cX2_look 11 = .ok (.ifCond .ne 5, 3) := by decide +kernel
theorem dX2_look_14 : decode cX2_look 14 = .ok (.iconst (-1), 1) := by decide +kernel
theorem dX2_look_15 : decode cX2_look 15 = .ok (.ireturn, 1) := by decide +kernel
theorem dX2_look_16 : decode cX2_look 16 = .ok (.iload_n 2, 1) := by decide +kernel
theorem dX2_look_17 : decode cX2_look 17 = .ok (.aload_n 0, 1) := by decide +kernel
theorem dX2_look_18 : decode cX2_look 18 = .ok (.getfield 7, 3) := by decide +kernel
theorem dX2_look_21 : decode cX2_look 21 = .ok (.iload_n 1, 1) := by decide +kernel
theorem dX2_look_22 : decode cX2_look 22 = .ok (.iaload, 1) := by decide +kernel
theorem dX2_look_23 : decode cX2_look 23 = .ok (.invokestatic 83, 3) := by decide +kernel
theorem dX2_look_26 : decode cX2_look 26 = .ok (.ifCond .eq 7, 3) := by decide +kernel
theorem dX2_look_29 : decode cX2_look 29 = .ok (.iconst 0, 1) := by decide +kernel
theorem dX2_look_30 : decode cX2_look 30 = .ok (.goto 5, 3) := by decide +kernel
theorem dX2_look_33 : decode cX2_look 33 = .ok (.bipush (-2), 2) := by decide +kernel
theorem dX2_look_35 : decode cX2_look 35 = .ok (.ireturn, 1) := by decide +kernel
set_option maxRecDepth 20000 in
theorem ggX2_read_X2_isSubject : GoodIn wsX2_read wsX2_isSubject := goodIn_r _ [8, 9, 10, 7, 11] (by decide +kernel) (by decide +kernel)
set_option maxRecDepth 20000 in
theorem gX2_read_X2_isSubject : GoodIn wsX2_read (va_wsS RX2 65 yX2_isSubject wsX2_isSubject) := goodIn_app (goodIn_of _ (by decide +kernel)) ggX2_read_X2_isSubject
set_option maxRecDepth 20000 in
theorem ggX2_read_X2_isLabel : GoodIn wsX2_read wsX2_isLabel := goodIn_r _ [14, 9, 10, 7, 11] (by decide +kernel) (by decide +kernel)
set_option maxRecDepth 20000 in
theorem gX2_read_X2_isLabel : GoodIn wsX2_read (va_wsS RX2 69 yX2_isLabel wsX2_isLabel) := goodIn_app (goodIn_of _ (by decide +kernel)) ggX2_read_X2_isLabel
set_option maxRecDepth 20000 in
theorem ggX2_read_X2_isNumber : GoodIn wsX2_read wsX2_isNumber := goodIn_r _ [17, 9, 10, 7, 11] (by decide +kernel) (by decide +kernel)
set_option maxRecDepth 20000 in
theorem gX2_read_X2_isNumber : GoodIn wsX2_read (va_wsS RX2 89 yX2_isNumber wsX2_isNumber) := goodIn_app (goodIn_of _ (by decide +kernel)) ggX2_read_X2_isNumber
set_option maxRecDepth 20000 in
theorem ggX2_read_X2_within : GoodIn wsX2_read wsX2_within := goodIn_r _ [11] (by decide +kernel) (by decide +kernel)
set_option maxRecDepth 20000 in
theorem gX2_read_X2_within : GoodIn wsX2_read (va_wsS RX2 54 yX2_within wsX2_within) := goodIn_app (goodIn_of _ (by decide +kernel)) ggX2_read_X2_within
set_option maxRecDepth 20000 in
theorem ggX2_read_X2_fails : GoodIn wsX2_read wsX2_fails := goodIn_r _ [21, 22, 42, 43, 44, 45, 46, 47, 48, 49, 50, 51, 52, 53, 54, 55, 56, 57] (by decide +kernel) (by decide +kernel)
set_option maxRecDepth 20000 in
theorem gX2_read_X2_fails : GoodIn wsX2_read (wsV RX2 72 RX2 yX2_fails wsX2_fails) := goodIn_app (goodIn_of _ (by decide +kernel)) ggX2_read_X2_fails
set_option maxRecDepth 20000 in
theorem ggX2_read_X2_look : GoodIn wsX2_read wsX2_look := goodIn_r _ [26, 27, 28, 29, 30, 31, 7, 32, 4, 33, 34, 35, 42, 43, 44, 45, 46, 47, 48, 49, 50, 51, 52, 53, 54, 55, 56, 57] (by decide +kernel) (by decide +kernel)
set_option maxRecDepth 20000 in
theorem gX2_read_X2_look : GoodIn wsX2_read (wsV RX2 115 RX2 yX2_look wsX2_look) := goodIn_app (goodIn_of _ (by decide +kernel)) ggX2_read_X2_look
set_option maxRecDepth 20000 in
theorem ggX2_read_X2_find : GoodIn wsX2_read wsX2_find := goodIn_r _ [39, 40, 41, 42, 43, 44, 45, 46, 47, 48, 49, 50, 51, 52, 53, 54, 55, 56, 57] (by decide +kernel) (by decide +kernel)
set_option maxRecDepth 20000 in
theorem gX2_read_X2_find : GoodIn wsX2_read (wsV RX2 92 RX2 yX2_find wsX2_find) := goodIn_app (goodIn_of _ (by decide +kernel)) ggX2_read_X2_find
theorem dX2_read_0 : decode cX2_read 0 = .ok (.aload_n 0, 1) := by decide +kernel
theorem dX2_read_1 : decode cX2_read 1 = .ok (.iload_n 1, 1) := by decide +kernel
theorem dX2_read_2 : decode cX2_read 2 = .ok (.invokestatic 65, 3) := by decide +kernel
theorem dX2_read_5 : decode cX2_read 5 = .ok (.ifCond .eq 27, 3) := by decide +kernel
theorem dX2_read_8 : decode cX2_read 8 = .ok (.iload_n 2, 1) := by decide +kernel
theorem dX2_read_9 : decode cX2_read 9 = .ok (.invokestatic 69, 3) := by decide +kernel
theorem dX2_read_12 : decode cX2_read 12 = .ok (.ifCond .eq 20, 3) := by decide +kernel
theorem dX2_read_15 : decode cX2_read 15 = .ok (.iload_n 3, 1) := by decide +kernel
theorem dX2_read_16 : decode cX2_read 16 = .ok (.invokestatic 89, 3) := by decide +kernel
theorem dX2_read_19 : decode cX2_read 19 = .ok (.ifCond .eq 13, 3) := by decide +kernel
theorem dX2_read_22 : decode cX2_read 22 = .ok (.iload 4, 2) := by decide +kernel
theorem dX2_read_24 : decode cX2_read 24 = .ok (.bipush 24, 2) := by decide +kernel
theorem dX2_read_26 : decode cX2_read 26 = .ok (.invokestatic 54, 3) := by decide +kernel
theorem dX2_read_29 : decode cX2_read 29 = .ok (.ifCond .ne 7, 3) := by decide +kernel
theorem dX2_read_32 : decode cX2_read 32 = .ok (.iconst 1, 1) := by decide +kernel
theorem dX2_read_33 : decode cX2_read 33 = .ok (.goto 4, 3) := by decide +kernel
theorem dX2_read_36 : decode cX2_read 36 = .ok (.iconst 0, 1) := by decide +kernel
theorem dX2_read_37 : decode cX2_read 37 = .ok (.iconst 1, 1) := by decide +kernel
theorem dX2_read_38 : decode cX2_read 38 = .ok (.invokevirtual 72, 3) := by decide +kernel
theorem dX2_read_41 : decode cX2_read 41 = .ok (.ifCond .eq 5, 3) := by decide +kernel
theorem dX2_read_44 : decode cX2_read 44 = .ok (.iconst 0, 1) := by decide +kernel
theorem dX2_read_45 : decode cX2_read 45 = .ok (.ireturn, 1) := by decide +kernel
theorem dX2_read_46 : decode cX2_read 46 = .ok (.aload_n 0, 1) := by decide +kernel
theorem dX2_read_47 : decode cX2_read 47 = .ok (.iload_n 1, 1) := by decide +kernel
theorem dX2_read_48 : decode cX2_read 48 = .ok (.iload_n 2, 1) := by decide +kernel
theorem dX2_read_49 : decode cX2_read 49 = .ok (.invokevirtual 115, 3) := by decide +kernel
theorem dX2_read_52 : decode cX2_read 52 = .ok (.istore 5, 2) := by decide +kernel
theorem dX2_read_54 : decode cX2_read 54 = .ok (.iload 5, 2) := by decide +kernel
theorem dX2_read_56 : decode cX2_read 56 = .ok (.ifCond .ge 6, 3) := by decide +kernel
theorem dX2_read_59 : decode cX2_read 59 = .ok (.iload 5, 2) := by decide +kernel
theorem dX2_read_61 : decode cX2_read 61 = .ok (.ireturn, 1) := by decide +kernel
theorem dX2_read_62 : decode cX2_read 62 = .ok (.aload_n 0, 1) := by decide +kernel
theorem dX2_read_63 : decode cX2_read 63 = .ok (.iload_n 2, 1) := by decide +kernel
theorem dX2_read_64 : decode cX2_read 64 = .ok (.iload_n 3, 1) := by decide +kernel
theorem dX2_read_65 : decode cX2_read 65 = .ok (.invokevirtual 92, 3) := by decide +kernel
theorem dX2_read_68 : decode cX2_read 68 = .ok (.istore 6, 2) := by decide +kernel
theorem dX2_read_70 : decode cX2_read 70 = .ok (.iload 6, 2) := by decide +kernel
theorem dX2_read_72 : decode cX2_read 72 = .ok (.iconst (-1), 1) := by decide +kernel
theorem dX2_read_73 : decode cX2_read 73 = .ok (.if_icmp .eq 15, 3) := by decide +kernel
theorem dX2_read_76 : decode cX2_read 76 = .ok (.iload 4, 2) := by decide +kernel
theorem dX2_read_78 : decode cX2_read 78 = .ok (.aload_n 0, 1) := by decide +kernel
theorem dX2_read_79 : decode cX2_read 79 = .ok (.getfield 32, 3) := by decide +kernel
theorem dX2_read_82 : decode cX2_read 82 = .ok (.iload 6, 2) := by decide +kernel
theorem dX2_read_84 : decode cX2_read 84 = .ok (.iaload, 1) := by decide +kernel
theorem dX2_read_85 : decode cX2_read 85 = .ok (.if_icmp .lt 5, 3) := by decide +kernel
theorem dX2_read_88 : decode cX2_read 88 = .ok (.iconst 0, 1) := by decide +kernel
theorem dX2_read_89 : decode cX2_read 89 = .ok (.ireturn, 1) := by decide +kernel
theorem dX2_read_90 : decode cX2_read 90 = .ok (.aload_n 0, 1) := by decide +kernel
theorem dX2_read_91 : decode cX2_read 91 = .ok (.getfield 44, 3) := by decide +kernel
theorem dX2_read_94 : decode cX2_read 94 = .ok (.sipush 200, 3) := by decide +kernel
theorem dX2_read_97 : decode cX2_read 97 = .ok (.iload_n 1, 1) := by decide +kernel
theorem dX2_read_98 : decode cX2_read 98 = .ok (.imul, 1) := by decide +kernel
theorem dX2_read_99 : decode cX2_read 99 = .ok (.aload_n 0, 1) := by decide +kernel
theorem dX2_read_100 : decode cX2_read 100 = .ok (.getfield 35, 3) := by decide +kernel
theorem dX2_read_103 : decode cX2_read 103 = .ok (.bipush 24, 2) := by decide +kernel
theorem dX2_read_105 : decode cX2_read 105 = .ok (.iload 6, 2) := by decide +kernel
theorem dX2_read_107 : decode cX2_read 107 = .ok (.imul, 1) := by decide +kernel
theorem dX2_read_108 : decode cX2_read 108 = .ok (.iload 4, 2) := by decide +kernel
theorem dX2_read_110 : decode cX2_read 110 = .ok (.iadd, 1) := by decide +kernel
theorem dX2_read_111 : decode cX2_read 111 = .ok (.iaload, 1) := by decide +kernel
theorem dX2_read_112 : decode cX2_read 112 = .ok (.iastore, 1) := by decide +kernel
theorem dX2_read_113 : decode cX2_read 113 = .ok (.aload_n 0, 1) := by decide +kernel
theorem dX2_read_114 : decode cX2_read 114 = .ok (.getfield 47, 3) := by decide +kernel
theorem dX2_read_117 : decode cX2_read 117 = .ok (.iload_n 1, 1) := by decide +kernel
theorem dX2_read_118 : decode cX2_read 118 = .ok (.iconst 1, 1) := by decide +kernel
theorem dX2_read_119 : decode cX2_read 119 = .ok (.iastore, 1) := by decide +kernel
theorem dX2_read_120 : decode cX2_read 120 = .ok (.iconst 1, 1) := by decide +kernel
theorem dX2_read_121 : decode cX2_read 121 = .ok (.ireturn, 1) := by decide +kernel
set_option maxRecDepth 20000 in
theorem ggX2_size_X2_isSubject : GoodIn wsX2_size wsX2_isSubject := goodIn_r _ [5, 6, 7, 4, 8] (by decide +kernel) (by decide +kernel)
set_option maxRecDepth 20000 in
theorem gX2_size_X2_isSubject : GoodIn wsX2_size (va_wsS RX2 65 yX2_isSubject wsX2_isSubject) := goodIn_app (goodIn_of _ (by decide +kernel)) ggX2_size_X2_isSubject
set_option maxRecDepth 20000 in
theorem ggX2_size_X2_isLabel : GoodIn wsX2_size wsX2_isLabel := goodIn_r _ [11, 6, 7, 4, 8] (by decide +kernel) (by decide +kernel)
set_option maxRecDepth 20000 in
theorem gX2_size_X2_isLabel : GoodIn wsX2_size (va_wsS RX2 69 yX2_isLabel wsX2_isLabel) := goodIn_app (goodIn_of _ (by decide +kernel)) ggX2_size_X2_isLabel
set_option maxRecDepth 20000 in
theorem ggX2_size_X2_isNumber : GoodIn wsX2_size wsX2_isNumber := goodIn_r _ [14, 6, 7, 4, 8] (by decide +kernel) (by decide +kernel)
set_option maxRecDepth 20000 in
theorem gX2_size_X2_isNumber : GoodIn wsX2_size (va_wsS RX2 89 yX2_isNumber wsX2_isNumber) := goodIn_app (goodIn_of _ (by decide +kernel)) ggX2_size_X2_isNumber
set_option maxRecDepth 20000 in
theorem ggX2_size_X2_fails : GoodIn wsX2_size wsX2_fails := goodIn_r _ [18, 19, 40, 41, 42, 43, 44, 45, 46, 47, 48, 49, 50, 51, 52, 53, 54, 55] (by decide +kernel) (by decide +kernel)
set_option maxRecDepth 20000 in
theorem gX2_size_X2_fails : GoodIn wsX2_size (wsV RX2 72 RX2 yX2_fails wsX2_fails) := goodIn_app (goodIn_of _ (by decide +kernel)) ggX2_size_X2_fails
set_option maxRecDepth 20000 in
theorem ggX2_size_X2_look : GoodIn wsX2_size wsX2_look := goodIn_r _ [23, 24, 25, 26, 27, 28, 4, 29, 30, 31, 32, 33, 40, 41, 42, 43, 44, 45, 46, 47, 48, 49, 50, 51, 52, 53, 54, 55] (by decide +kernel) (by decide +kernel)
set_option maxRecDepth 20000 in
theorem gX2_size_X2_look : GoodIn wsX2_size (wsV RX2 115 RX2 yX2_look wsX2_look) := goodIn_app (goodIn_of _ (by decide +kernel)) ggX2_size_X2_look
set_option maxRecDepth 20000 in
theorem ggX2_size_X2_find : GoodIn wsX2_size wsX2_find := goodIn_r _ [37, 38, 39, 40, 41, 42, 43, 44, 45, 46, 47, 48, 49, 50, 51, 52, 53, 54, 55] (by decide +kernel) (by decide +kernel)
set_option maxRecDepth 20000 in
theorem gX2_size_X2_find : GoodIn wsX2_size (wsV RX2 92 RX2 yX2_find wsX2_find) := goodIn_app (goodIn_of _ (by decide +kernel)) ggX2_size_X2_find
theorem dX2_size_0 : decode cX2_size 0 = .ok (.aload_n 0, 1) := by decide +kernel
theorem dX2_size_1 : decode cX2_size 1 = .ok (.iload_n 1, 1) := by decide +kernel
theorem dX2_size_2 : decode cX2_size 2 = .ok (.invokestatic 65, 3) := by decide +kernel
theorem dX2_size_5 : decode cX2_size 5 = .ok (.ifCond .eq 17, 3) := by decide +kernel
theorem dX2_size_8 : decode cX2_size 8 = .ok (.iload_n 2, 1) := by decide +kernel
theorem dX2_size_9 : decode cX2_size 9 = .ok (.invokestatic 69, 3) := by decide +kernel
theorem dX2_size_12 : decode cX2_size 12 = .ok (.ifCond .eq 10, 3) := by decide +kernel
theorem dX2_size_15 : decode cX2_size 15 = .ok (.iload_n 3, 1) := by decide +kernel
theorem dX2_size_16 : decode cX2_size 16 = .ok (.invokestatic 89, 3) := by decide +kernel
theorem dX2_size_19 : decode cX2_size 19 = .ok (.ifCond .ne 7, 3) := by decide +kernel
theorem dX2_size_22 : decode cX2_size 22 = .ok (.iconst 1, 1) := by decide +kernel
theorem dX2_size_23 : decode cX2_size 23 = .ok (.goto 4, 3) := by decide +kernel
theorem dX2_size_26 : decode cX2_size 26 = .ok (.iconst 0, 1) := by decide +kernel
theorem dX2_size_27 : decode cX2_size 27 = .ok (.iconst 1, 1) := by decide +kernel
theorem dX2_size_28 : decode cX2_size 28 = .ok (.invokevirtual 72, 3) := by decide +kernel
theorem dX2_size_31 : decode cX2_size 31 = .ok (.ifCond .eq 5, 3) := by decide +kernel
theorem dX2_size_34 : decode cX2_size 34 = .ok (.iconst 0, 1) := by decide +kernel
theorem dX2_size_35 : decode cX2_size 35 = .ok (.ireturn, 1) := by decide +kernel
theorem dX2_size_36 : decode cX2_size 36 = .ok (.aload_n 0, 1) := by decide +kernel
theorem dX2_size_37 : decode cX2_size 37 = .ok (.iload_n 1, 1) := by decide +kernel
theorem dX2_size_38 : decode cX2_size 38 = .ok (.iload_n 2, 1) := by decide +kernel
theorem dX2_size_39 : decode cX2_size 39 = .ok (.invokevirtual 115, 3) := by decide +kernel
theorem dX2_size_42 : decode cX2_size 42 = .ok (.istore 4, 2) := by decide +kernel
theorem dX2_size_44 : decode cX2_size 44 = .ok (.iload 4, 2) := by decide +kernel
theorem dX2_size_46 : decode cX2_size 46 = .ok (.ifCond .ge 6, 3) := by decide +kernel
theorem dX2_size_49 : decode cX2_size 49 = .ok (.iload 4, 2) := by decide +kernel
theorem dX2_size_51 : decode cX2_size 51 = .ok (.ireturn, 1) := by decide +kernel
theorem dX2_size_52 : decode cX2_size 52 = .ok (.aload_n 0, 1) := by decide +kernel
theorem dX2_size_53 : decode cX2_size 53 = .ok (.iload_n 2, 1) := by decide +kernel
theorem dX2_size_54 : decode cX2_size 54 = .ok (.iload_n 3, 1) := by decide +kernel
theorem dX2_size_55 : decode cX2_size 55 = .ok (.invokevirtual 92, 3) := by decide +kernel
theorem dX2_size_58 : decode cX2_size 58 = .ok (.istore 5, 2) := by decide +kernel
theorem dX2_size_60 : decode cX2_size 60 = .ok (.iload 5, 2) := by decide +kernel
theorem dX2_size_62 : decode cX2_size 62 = .ok (.iconst (-1), 1) := by decide +kernel
theorem dX2_size_63 : decode cX2_size 63 = .ok (.if_icmp .ne 7, 3) := by decide +kernel
theorem dX2_size_66 : decode cX2_size 66 = .ok (.iconst 0, 1) := by decide +kernel
theorem dX2_size_67 : decode cX2_size 67 = .ok (.goto 10, 3) := by decide +kernel
theorem dX2_size_70 : decode cX2_size 70 = .ok (.aload_n 0, 1) := by decide +kernel
theorem dX2_size_71 : decode cX2_size 71 = .ok (.getfield 32, 3) := by decide +kernel
theorem dX2_size_74 : decode cX2_size 74 = .ok (.iload 5, 2) := by decide +kernel
theorem dX2_size_76 : decode cX2_size 76 = .ok (.iaload, 1) := by decide +kernel
theorem dX2_size_77 : decode cX2_size 77 = .ok (.ireturn, 1) := by decide +kernel
set_option maxRecDepth 20000 in
theorem ggX2_there_X2_isSubject : GoodIn wsX2_there wsX2_isSubject := goodIn_r _ [4, 5, 6, 3, 7] (by decide +kernel) (by decide +kernel)
set_option maxRecDepth 20000 in
theorem gX2_there_X2_isSubject : GoodIn wsX2_there (va_wsS RX2 65 yX2_isSubject wsX2_isSubject) := goodIn_app (goodIn_of _ (by decide +kernel)) ggX2_there_X2_isSubject
set_option maxRecDepth 20000 in
theorem ggX2_there_X2_isLabel : GoodIn wsX2_there wsX2_isLabel := goodIn_r _ [10, 5, 6, 3, 7] (by decide +kernel) (by decide +kernel)
set_option maxRecDepth 20000 in
theorem gX2_there_X2_isLabel : GoodIn wsX2_there (va_wsS RX2 69 yX2_isLabel wsX2_isLabel) := goodIn_app (goodIn_of _ (by decide +kernel)) ggX2_there_X2_isLabel
set_option maxRecDepth 20000 in
theorem ggX2_there_X2_isNumber : GoodIn wsX2_there wsX2_isNumber := goodIn_r _ [13, 5, 6, 3, 7] (by decide +kernel) (by decide +kernel)
set_option maxRecDepth 20000 in
theorem gX2_there_X2_isNumber : GoodIn wsX2_there (va_wsS RX2 89 yX2_isNumber wsX2_isNumber) := goodIn_app (goodIn_of _ (by decide +kernel)) ggX2_there_X2_isNumber
set_option maxRecDepth 20000 in
theorem ggX2_there_X2_fails : GoodIn wsX2_there wsX2_fails := goodIn_r _ [17, 18, 39, 40, 41, 42, 43, 44, 45, 46, 47, 48, 49, 50, 51, 52, 53, 54] (by decide +kernel) (by decide +kernel)
set_option maxRecDepth 20000 in
theorem gX2_there_X2_fails : GoodIn wsX2_there (wsV RX2 72 RX2 yX2_fails wsX2_fails) := goodIn_app (goodIn_of _ (by decide +kernel)) ggX2_there_X2_fails
set_option maxRecDepth 20000 in
theorem ggX2_there_X2_look : GoodIn wsX2_there wsX2_look := goodIn_r _ [22, 23, 24, 25, 26, 27, 3, 28, 29, 30, 31, 32, 39, 40, 41, 42, 43, 44, 45, 46, 47, 48, 49, 50, 51, 52, 53, 54] (by decide +kernel) (by decide +kernel)
set_option maxRecDepth 20000 in
theorem gX2_there_X2_look : GoodIn wsX2_there (wsV RX2 115 RX2 yX2_look wsX2_look) := goodIn_app (goodIn_of _ (by decide +kernel)) ggX2_there_X2_look
set_option maxRecDepth 20000 in
theorem ggX2_there_X2_find : GoodIn wsX2_there wsX2_find := goodIn_r _ [36, 37, 38, 39, 40, 41, 42, 43, 44, 45, 46, 47, 48, 49, 50, 51, 52, 53, 54] (by decide +kernel) (by decide +kernel)
set_option maxRecDepth 20000 in
theorem gX2_there_X2_find : GoodIn wsX2_there (wsV RX2 92 RX2 yX2_find wsX2_find) := goodIn_app (goodIn_of _ (by decide +kernel)) ggX2_there_X2_find
theorem dX2_there_0 : decode cX2_there 0 = .ok (.aload_n 0, 1) := by decide +kernel
theorem dX2_there_1 : decode cX2_there 1 = .ok (.iload_n 1, 1) := by decide +kernel
theorem dX2_there_2 : decode cX2_there 2 = .ok (.invokestatic 65, 3) := by decide +kernel
theorem dX2_there_5 : decode cX2_there 5 = .ok (.ifCond .eq 17, 3) := by decide +kernel
theorem dX2_there_8 : decode cX2_there 8 = .ok (.iload_n 2, 1) := by decide +kernel
theorem dX2_there_9 : decode cX2_there 9 = .ok (.invokestatic 69, 3) := by decide +kernel
theorem dX2_there_12 : decode cX2_there 12 = .ok (.ifCond .eq 10, 3) := by decide +kernel
theorem dX2_there_15 : decode cX2_there 15 = .ok (.iload_n 3, 1) := by decide +kernel
theorem dX2_there_16 : decode cX2_there 16 = .ok (.invokestatic 89, 3) := by decide +kernel
theorem dX2_there_19 : decode cX2_there 19 = .ok (.ifCond .ne 7, 3) := by decide +kernel
theorem dX2_there_22 : decode cX2_there 22 = .ok (.iconst 1, 1) := by decide +kernel
theorem dX2_there_23 : decode cX2_there 23 = .ok (.goto 4, 3) := by decide +kernel
theorem dX2_there_26 : decode cX2_there 26 = .ok (.iconst 0, 1) := by decide +kernel
theorem dX2_there_27 : decode cX2_there 27 = .ok (.iconst 1, 1) := by decide +kernel
theorem dX2_there_28 : decode cX2_there 28 = .ok (.invokevirtual 72, 3) := by decide +kernel
theorem dX2_there_31 : decode cX2_there 31 = .ok (.ifCond .eq 5, 3) := by decide +kernel
theorem dX2_there_34 : decode cX2_there 34 = .ok (.iconst 0, 1) := by decide +kernel
theorem dX2_there_35 : decode cX2_there 35 = .ok (.ireturn, 1) := by decide +kernel
theorem dX2_there_36 : decode cX2_there 36 = .ok (.aload_n 0, 1) := by decide +kernel
theorem dX2_there_37 : decode cX2_there 37 = .ok (.iload_n 1, 1) := by decide +kernel
theorem dX2_there_38 : decode cX2_there 38 = .ok (.iload_n 2, 1) := by decide +kernel
theorem dX2_there_39 : decode cX2_there 39 = .ok (.invokevirtual 115, 3) := by decide +kernel
theorem dX2_there_42 : decode cX2_there 42 = .ok (.istore 4, 2) := by decide +kernel
theorem dX2_there_44 : decode cX2_there 44 = .ok (.iload 4, 2) := by decide +kernel
theorem dX2_there_46 : decode cX2_there 46 = .ok (.ifCond .ge 6, 3) := by decide +kernel
theorem dX2_there_49 : decode cX2_there 49 = .ok (.iload 4, 2) := by decide +kernel
theorem dX2_there_51 : decode cX2_there 51 = .ok (.ireturn, 1) := by decide +kernel
theorem dX2_there_52 : decode cX2_there 52 = .ok (.aload_n 0, 1) := by decide +kernel
theorem dX2_there_53 : decode cX2_there 53 = .ok (.iload_n 2, 1) := by decide +kernel
theorem dX2_there_54 : decode cX2_there 54 = .ok (.iload_n 3, 1) := by decide +kernel
theorem dX2_there_55 : decode cX2_there 55 = .ok (.invokevirtual 92, 3) := by decide +kernel
theorem dX2_there_58 : decode cX2_there 58 = .ok (.iconst (-1), 1) := by decide +kernel
theorem dX2_there_59 : decode cX2_there 59 = .ok (.if_icmp .ne 7, 3) := by decide +kernel
theorem dX2_there_62 : decode cX2_there 62 = .ok (.iconst 0, 1) := by decide +kernel
theorem dX2_there_63 : decode cX2_there 63 = .ok (.goto 4, 3) := by decide +kernel
theorem dX2_there_66 : decode cX2_there 66 = .ok (.iconst 1, 1) := by decide +kernel
theorem dX2_there_67 : decode cX2_there 67 = .ok (.ireturn, 1) := by decide +kernel
set_option maxRecDepth 20000 in
theorem ggX2_listed_X2_isSubject : GoodIn wsX2_listed wsX2_isSubject := goodIn_r _ [10, 11, 12, 9, 13] (by decide +kernel) (by decide +kernel)
set_option maxRecDepth 20000 in
theorem gX2_listed_X2_isSubject : GoodIn wsX2_listed (va_wsS RX2 65 yX2_isSubject wsX2_isSubject) := goodIn_app (goodIn_of _ (by decide +kernel)) ggX2_listed_X2_isSubject
set_option maxRecDepth 20000 in
theorem ggX2_listed_X2_isLabel : GoodIn wsX2_listed wsX2_isLabel := goodIn_r _ [16, 11, 12, 9, 13] (by decide +kernel) (by decide +kernel)
set_option maxRecDepth 20000 in
theorem gX2_listed_X2_isLabel : GoodIn wsX2_listed (va_wsS RX2 69 yX2_isLabel wsX2_isLabel) := goodIn_app (goodIn_of _ (by decide +kernel)) ggX2_listed_X2_isLabel
set_option maxRecDepth 20000 in
theorem ggX2_listed_X2_isNumber : GoodIn wsX2_listed wsX2_isNumber := goodIn_r _ [19, 11, 12, 9, 13] (by decide +kernel) (by decide +kernel)
set_option maxRecDepth 20000 in
theorem gX2_listed_X2_isNumber : GoodIn wsX2_listed (va_wsS RX2 89 yX2_isNumber wsX2_isNumber) := goodIn_app (goodIn_of _ (by decide +kernel)) ggX2_listed_X2_isNumber
set_option maxRecDepth 20000 in
theorem ggX2_listed_X2_fails : GoodIn wsX2_listed wsX2_fails := goodIn_r _ [23, 24, 37, 38, 39, 40, 41, 42, 43, 44, 45, 46, 47, 48, 49, 50, 51, 52] (by decide +kernel) (by decide +kernel)
set_option maxRecDepth 20000 in
theorem gX2_listed_X2_fails : GoodIn wsX2_listed (wsV RX2 72 RX2 yX2_fails wsX2_fails) := goodIn_app (goodIn_of _ (by decide +kernel)) ggX2_listed_X2_fails
set_option maxRecDepth 20000 in
theorem ggX2_listed_X2_look : GoodIn wsX2_listed wsX2_look := goodIn_r _ [28, 29, 4, 30, 31, 32, 9, 33, 6, 34, 35, 36, 37, 38, 39, 40, 41, 42, 43, 44, 45, 46, 47, 48, 49, 50, 51, 52] (by decide +kernel) (by decide +kernel)
set_option maxRecDepth 20000 in
theorem gX2_listed_X2_look : GoodIn wsX2_listed (wsV RX2 115 RX2 yX2_look wsX2_look) := goodIn_app (goodIn_of _ (by decide +kernel)) ggX2_listed_X2_look
set_option maxRecDepth 20000 in
theorem ggX2_listed_X2_may : GoodIn wsX2_listed wsX2_may := goodIn_r _ [36] (by decide +kernel) (by decide +kernel)
set_option maxRecDepth 20000 in
theorem gX2_listed_X2_may : GoodIn wsX2_listed (va_wsS RX2 83 yX2_may wsX2_may) := goodIn_app (goodIn_of _ (by decide +kernel)) ggX2_listed_X2_may
theorem dX2_listed_0 : decode cX2_listed 0 = .ok (.aload_n 0, 1) := by decide +kernel
theorem dX2_listed_1 : decode cX2_listed 1 = .ok (.iload_n 1, 1) := by decide +kernel
theorem dX2_listed_2 : decode cX2_listed 2 = .ok (.invokestatic 65, 3) := by decide +kernel
theorem dX2_listed_5 : decode cX2_listed 5 = .ok (.ifCond .eq 17, 3) := by decide +kernel
theorem dX2_listed_8 : decode cX2_listed 8 = .ok (.iload_n 2, 1) := by decide +kernel
theorem dX2_listed_9 : decode cX2_listed 9 = .ok (.invokestatic 69, 3) := by decide +kernel
theorem dX2_listed_12 : decode cX2_listed 12 = .ok (.ifCond .eq 10, 3) := by decide +kernel
theorem dX2_listed_15 : decode cX2_listed 15 = .ok (.iload_n 3, 1) := by decide +kernel
theorem dX2_listed_16 : decode cX2_listed 16 = .ok (.invokestatic 89, 3) := by decide +kernel
theorem dX2_listed_19 : decode cX2_listed 19 = .ok (.ifCond .ne 7, 3) := by decide +kernel
theorem dX2_listed_22 : decode cX2_listed 22 = .ok (.iconst 1, 1) := by decide +kernel
theorem dX2_listed_23 : decode cX2_listed 23 = .ok (.goto 4, 3) := by decide +kernel
theorem dX2_listed_26 : decode cX2_listed 26 = .ok (.iconst 0, 1) := by decide +kernel
theorem dX2_listed_27 : decode cX2_listed 27 = .ok (.iconst 1, 1) := by decide +kernel
theorem dX2_listed_28 : decode cX2_listed 28 = .ok (.invokevirtual 72, 3) := by decide +kernel
theorem dX2_listed_31 : decode cX2_listed 31 = .ok (.ifCond .eq 5, 3) := by decide +kernel
theorem dX2_listed_34 : decode cX2_listed 34 = .ok (.iconst 0, 1) := by decide +kernel
theorem dX2_listed_35 : decode cX2_listed 35 = .ok (.ireturn, 1) := by decide +kernel
theorem dX2_listed_36 : decode cX2_listed 36 = .ok (.aload_n 0, 1) := by decide +kernel
theorem dX2_listed_37 : decode cX2_listed 37 = .ok (.iload_n 1, 1) := by decide +kernel
theorem dX2_listed_38 : decode cX2_listed 38 = .ok (.iload_n 2, 1) := by decide +kernel
theorem dX2_listed_39 : decode cX2_listed 39 = .ok (.invokevirtual 115, 3) := by decide +kernel
theorem dX2_listed_42 : decode cX2_listed 42 = .ok (.istore 4, 2) := by decide +kernel
theorem dX2_listed_44 : decode cX2_listed 44 = .ok (.iload 4, 2) := by decide +kernel
theorem dX2_listed_46 : decode cX2_listed 46 = .ok (.ifCond .ge 6, 3) := by decide +kernel
theorem dX2_listed_49 : decode cX2_listed 49 = .ok (.iload 4, 2) := by decide +kernel
theorem dX2_listed_51 : decode cX2_listed 51 = .ok (.ireturn, 1) := by decide +kernel
theorem dX2_listed_52 : decode cX2_listed 52 = .ok (.iconst 0, 1) := by decide +kernel
theorem dX2_listed_53 : decode cX2_listed 53 = .ok (.istore 5, 2) := by decide +kernel
theorem dX2_listed_55 : decode cX2_listed 55 = .ok (.iconst 0, 1) := by decide +kernel
theorem dX2_listed_56 : decode cX2_listed 56 = .ok (.istore 6, 2) := by decide +kernel
theorem dX2_listed_58 : decode cX2_listed 58 = .ok (.iload 6, 2) := by decide +kernel
theorem dX2_listed_60 : decode cX2_listed 60 = .ok (.aload_n 0, 1) := by decide +kernel
theorem dX2_listed_61 : decode cX2_listed 61 = .ok (.getfield 58, 3) := by decide +kernel
theorem dX2_listed_64 : decode cX2_listed 64 = .ok (.if_icmp .ge 141, 3) := by decide +kernel
theorem dX2_listed_67 : decode cX2_listed 67 = .ok (.aload_n 0, 1) := by decide +kernel
theorem dX2_listed_68 : decode cX2_listed 68 = .ok (.getfield 29, 3) := by decide +kernel
theorem dX2_listed_71 : decode cX2_listed 71 = .ok (.iload 6, 2) := by decide +kernel
theorem dX2_listed_73 : decode cX2_listed 73 = .ok (.iaload, 1) := by decide +kernel
theorem dX2_listed_74 : decode cX2_listed 74 = .ok (.bipush 16, 2) := by decide +kernel
theorem dX2_listed_76 : decode cX2_listed 76 = .ok (.iload_n 2, 1) := by decide +kernel
theorem dX2_listed_77 : decode cX2_listed 77 = .ok (.imul, 1) := by decide +kernel
theorem dX2_listed_78 : decode cX2_listed 78 = .ok (.iload_n 3, 1) := by decide +kernel
theorem dX2_listed_79 : decode cX2_listed 79 = .ok (.iadd, 1) := by decide +kernel
theorem dX2_listed_80 : decode cX2_listed 80 = .ok (.if_icmp .ne 119, 3) := by decide +kernel
theorem dX2_listed_83 : decode cX2_listed 83 = .ok (.aload_n 0, 1) := by decide +kernel
theorem dX2_listed_84 : decode cX2_listed 84 = .ok (.getfield 23, 3) := by decide +kernel
theorem dX2_listed_87 : decode cX2_listed 87 = .ok (.iload 6, 2) := by decide +kernel
theorem dX2_listed_89 : decode cX2_listed 89 = .ok (.iaload, 1) := by decide +kernel
theorem dX2_listed_90 : decode cX2_listed 90 = .ok (.bipush 16, 2) := by decide +kernel
theorem dX2_listed_92 : decode cX2_listed 92 = .ok (.idiv, 1) := by decide +kernel
theorem dX2_listed_93 : decode cX2_listed 93 = .ok (.aload_n 0, 1) := by decide +kernel
theorem dX2_listed_94 : decode cX2_listed 94 = .ok (.getfield 7, 3) := by decide +kernel
theorem dX2_listed_97 : decode cX2_listed 97 = .ok (.iload_n 1, 1) := by decide +kernel
theorem dX2_listed_98 : decode cX2_listed 98 = .ok (.iaload, 1) := by decide +kernel
theorem dX2_listed_99 : decode cX2_listed 99 = .ok (.invokestatic 83, 3) := by decide +kernel
theorem dX2_listed_102 : decode cX2_listed 102 = .ok (.ifCond .ne 6, 3) := by decide +kernel
theorem dX2_listed_105 : decode cX2_listed 105 = .ok (.goto 94, 3) := by decide +kernel
theorem dX2_listed_108 : decode cX2_listed 108 = .ok (.iload 5, 2) := by decide +kernel
theorem dX2_listed_110 : decode cX2_listed 110 = .ok (.istore 7, 2) := by decide +kernel
theorem dX2_listed_112 : decode cX2_listed 112 = .ok (.iload 7, 2) := by decide +kernel
theorem dX2_listed_114 : decode cX2_listed 114 = .ok (.ifCond .le 62, 3) := by decide +kernel
theorem dX2_listed_117 : decode cX2_listed 117 = .ok (.aload_n 0, 1) := by decide +kernel
theorem dX2_listed_118 : decode cX2_listed 118 = .ok (.getfield 44, 3) := by decide +kernel
theorem dX2_listed_121 : decode cX2_listed 121 = .ok (.sipush 200, 3) := by decide +kernel
theorem dX2_listed_124 : decode cX2_listed 124 = .ok (.iload_n 1, 1) := by decide +kernel
theorem dX2_listed_125 : decode cX2_listed 125 = .ok (.imul, 1) := by decide +kernel
theorem dX2_listed_126 : decode cX2_listed 126 = .ok (.iload 7, 2) := by decide +kernel
theorem dX2_listed_128 : decode cX2_listed 128 = .ok (.iadd, 1) := by decide +kernel
theorem dX2_listed_129 : decode cX2_listed 129 = .ok (.iconst 1, 1) := by decide +kernel
theorem dX2_listed_130 : decode cX2_listed 130 = .ok (.isub, 1) := by decide +kernel
theorem dX2_listed_131 : decode cX2_listed 131 = .ok (.iaload, 1) := by decide +kernel
theorem dX2_listed_132 : decode cX2_listed 132 = .ok (.aload_n 0, 1) := by decide +kernel
theorem dX2_listed_133 : decode cX2_listed 133 = .ok (.getfield 23, 3) := by decide +kernel
theorem dX2_listed_136 : decode cX2_listed 136 = .ok (.iload 6, 2) := by decide +kernel
theorem dX2_listed_138 : decode cX2_listed 138 = .ok (.iaload, 1) := by decide +kernel
theorem dX2_listed_139 : decode cX2_listed 139 = .ok (.if_icmp .le 37, 3) := by decide +kernel
theorem dX2_listed_142 : decode cX2_listed 142 = .ok (.aload_n 0, 1) := by decide +kernel
theorem dX2_listed_143 : decode cX2_listed 143 = .ok (.getfield 44, 3) := by decide +kernel
theorem dX2_listed_146 : decode cX2_listed 146 = .ok (.sipush 200, 3) := by decide +kernel
theorem dX2_listed_149 : decode cX2_listed 149 = .ok (.iload_n 1, 1) := by decide +kernel
theorem dX2_listed_150 : decode cX2_listed 150 = .ok (.imul, 1) := by decide +kernel
theorem dX2_listed_151 : decode cX2_listed 151 = .ok (.iload 7, 2) := by decide +kernel
theorem dX2_listed_153 : decode cX2_listed 153 = .ok (.iadd, 1) := by decide +kernel
theorem dX2_listed_154 : decode cX2_listed 154 = .ok (.aload_n 0, 1) := by decide +kernel
theorem dX2_listed_155 : decode cX2_listed 155 = .ok (.getfield 44, 3) := by decide +kernel
theorem dX2_listed_158 : decode cX2_listed 158 = .ok (.sipush 200, 3) := by decide +kernel
theorem dX2_listed_161 : decode cX2_listed 161 = .ok (.iload_n 1, 1) := by decide +kernel
theorem dX2_listed_162 : decode cX2_listed 162 = .ok (.imul, 1) := by decide +kernel
theorem dX2_listed_163 : decode cX2_listed 163 = .ok (.iload 7, 2) := by decide +kernel
theorem dX2_listed_165 : decode cX2_listed 165 = .ok (.iadd, 1) := by decide +kernel
theorem dX2_listed_166 : decode cX2_listed 166 = .ok (.iconst 1, 1) := by decide +kernel
theorem dX2_listed_167 : decode cX2_listed 167 = .ok (.isub, 1) := by decide +kernel
theorem dX2_listed_168 : decode cX2_listed 168 = .ok (.iaload, 1) := by decide +kernel
theorem dX2_listed_169 : decode cX2_listed 169 = .ok (.iastore, 1) := by decide +kernel
theorem dX2_listed_170 : decode cX2_listed 170 = .ok (.iinc 7 (-1), 3) := by decide +kernel
theorem dX2_listed_173 : decode cX2_listed 173 = .ok (.goto (-61), 3) := by decide +kernel
theorem dX2_listed_176 : decode cX2_listed 176 = .ok (.aload_n 0, 1) := by decide +kernel
theorem dX2_listed_177 : decode cX2_listed 177 = .ok (.getfield 44, 3) := by decide +kernel
theorem dX2_listed_180 : decode cX2_listed 180 = .ok (.sipush 200, 3) := by decide +kernel
theorem dX2_listed_183 : decode cX2_listed 183 = .ok (.iload_n 1, 1) := by decide +kernel
theorem dX2_listed_184 : decode cX2_listed 184 = .ok (.imul, 1) := by decide +kernel
theorem dX2_listed_185 : decode cX2_listed 185 = .ok (.iload 7, 2) := by decide +kernel
theorem dX2_listed_187 : decode cX2_listed 187 = .ok (.iadd, 1) := by decide +kernel
theorem dX2_listed_188 : decode cX2_listed 188 = .ok (.aload_n 0, 1) := by decide +kernel
theorem dX2_listed_189 : decode cX2_listed 189 = .ok (.getfield 23, 3) := by decide +kernel
theorem dX2_listed_192 : decode cX2_listed 192 = .ok (.iload 6, 2) := by decide +kernel
theorem dX2_listed_194 : decode cX2_listed 194 = .ok (.iaload, 1) := by decide +kernel
theorem dX2_listed_195 : decode cX2_listed 195 = .ok (.iastore, 1) := by decide +kernel
theorem dX2_listed_196 : decode cX2_listed 196 = .ok (.iinc 5 1, 3) := by decide +kernel
theorem dX2_listed_199 : decode cX2_listed 199 = .ok (.iinc 6 1, 3) := by decide +kernel
theorem dX2_listed_202 : decode cX2_listed 202 = .ok (.goto (-144), 3) := by decide +kernel
theorem dX2_listed_205 : decode cX2_listed 205 = .ok (.aload_n 0, 1) := by decide +kernel
theorem dX2_listed_206 : decode cX2_listed 206 = .ok (.getfield 47, 3) := by decide +kernel
theorem dX2_listed_209 : decode cX2_listed 209 = .ok (.iload_n 1, 1) := by decide +kernel
theorem dX2_listed_210 : decode cX2_listed 210 = .ok (.iload 5, 2) := by decide +kernel
theorem dX2_listed_212 : decode cX2_listed 212 = .ok (.iastore, 1) := by decide +kernel
theorem dX2_listed_213 : decode cX2_listed 213 = .ok (.iload 5, 2) := by decide +kernel
theorem dX2_listed_215 : decode cX2_listed 215 = .ok (.ireturn, 1) := by decide +kernel
set_option maxRecDepth 20000 in
theorem ggX2_release_X2_isSubject : GoodIn wsX2_release wsX2_isSubject := goodIn_r _ [10, 11, 12, 9, 13] (by decide +kernel) (by decide +kernel)
set_option maxRecDepth 20000 in
theorem gX2_release_X2_isSubject : GoodIn wsX2_release (va_wsS RX2 65 yX2_isSubject wsX2_isSubject) := goodIn_app (goodIn_of _ (by decide +kernel)) ggX2_release_X2_isSubject
set_option maxRecDepth 20000 in
theorem ggX2_release_X2_isLabel : GoodIn wsX2_release wsX2_isLabel := goodIn_r _ [16, 11, 12, 9, 13] (by decide +kernel) (by decide +kernel)
set_option maxRecDepth 20000 in
theorem gX2_release_X2_isLabel : GoodIn wsX2_release (va_wsS RX2 69 yX2_isLabel wsX2_isLabel) := goodIn_app (goodIn_of _ (by decide +kernel)) ggX2_release_X2_isLabel
set_option maxRecDepth 20000 in
theorem ggX2_release_X2_isNumber : GoodIn wsX2_release wsX2_isNumber := goodIn_r _ [19, 11, 12, 9, 13] (by decide +kernel) (by decide +kernel)
set_option maxRecDepth 20000 in
theorem gX2_release_X2_isNumber : GoodIn wsX2_release (va_wsS RX2 89 yX2_isNumber wsX2_isNumber) := goodIn_app (goodIn_of _ (by decide +kernel)) ggX2_release_X2_isNumber
set_option maxRecDepth 20000 in
theorem ggX2_release_X2_fails : GoodIn wsX2_release wsX2_fails := goodIn_r _ [23, 24, 60, 61, 62, 63, 64, 65, 66, 67, 68, 69, 70, 71, 72, 73, 74, 75] (by decide +kernel) (by decide +kernel)
set_option maxRecDepth 20000 in
theorem gX2_release_X2_fails : GoodIn wsX2_release (wsV RX2 72 RX2 yX2_fails wsX2_fails) := goodIn_app (goodIn_of _ (by decide +kernel)) ggX2_release_X2_fails
set_option maxRecDepth 20000 in
theorem ggX2_release_X2_listOf : GoodIn wsX2_release wsX2_listOf := goodIn_r _ [28, 29, 30, 60, 61, 62, 63, 64, 65, 66, 67, 68, 69, 70, 71, 72, 73, 74, 75] (by decide +kernel) (by decide +kernel)
set_option maxRecDepth 20000 in
theorem gX2_release_X2_listOf : GoodIn wsX2_release (wsV RX2 79 RX2 yX2_listOf wsX2_listOf) := goodIn_app (goodIn_of _ (by decide +kernel)) ggX2_release_X2_listOf
set_option maxRecDepth 20000 in
theorem ggX2_release_X2_find : GoodIn wsX2_release wsX2_find := goodIn_r _ [34, 4, 35, 60, 61, 62, 63, 64, 65, 66, 67, 68, 69, 70, 71, 72, 73, 74, 75] (by decide +kernel) (by decide +kernel)
set_option maxRecDepth 20000 in
theorem gX2_release_X2_find : GoodIn wsX2_release (wsV RX2 92 RX2 yX2_find wsX2_find) := goodIn_app (goodIn_of _ (by decide +kernel)) ggX2_release_X2_find
set_option maxRecDepth 20000 in
theorem ggX2_release_X2_uses : GoodIn wsX2_release wsX2_uses := goodIn_r _ [39, 40, 4, 35, 41, 42, 43, 9, 44, 5, 2, 45, 60, 61, 62, 63, 64, 65, 66, 67, 68, 69, 70, 71, 72, 73, 74, 75] (by decide +kernel) (by decide +kernel)
set_option maxRecDepth 20000 in
theorem gX2_release_X2_uses : GoodIn wsX2_release (wsV RX2 86 RX2 yX2_uses wsX2_uses) := goodIn_app (goodIn_of _ (by decide +kernel)) ggX2_release_X2_uses
set_option maxRecDepth 20000 in
theorem ggX2_release_X2_countOf : GoodIn wsX2_release wsX2_countOf := goodIn_r _ [44, 5, 2, 45, 60, 61, 62, 63, 64, 65, 66, 67, 68, 69, 70, 71, 72, 73, 74, 75] (by decide +kernel) (by decide +kernel)
set_option maxRecDepth 20000 in
theorem gX2_release_X2_countOf : GoodIn wsX2_release (wsV RX2 61 RX2 yX2_countOf wsX2_countOf) := goodIn_app (goodIn_of _ (by decide +kernel)) ggX2_release_X2_countOf
set_option maxRecDepth 20000 in
theorem ggX2_release_X2_begin : GoodIn wsX2_release wsX2_begin := goodIn_r _ [49, 50, 60, 61, 62, 63, 64, 65, 66, 67, 68, 69, 70, 71, 72, 73, 74, 75] (by decide +kernel) (by decide +kernel)
set_option maxRecDepth 20000 in
theorem gX2_release_X2_begin : GoodIn wsX2_release (wsV RX2 99 RX2 yX2_begin wsX2_begin) := goodIn_app (goodIn_of _ (by decide +kernel)) ggX2_release_X2_begin
set_option maxRecDepth 20000 in
theorem ggX2_release_X2_add : GoodIn wsX2_release wsX2_add := goodIn_r _ [54, 35, 4, 5, 55, 2, 60, 61, 62, 63, 64, 65, 66, 67, 68, 69, 70, 71, 72, 73, 74, 75] (by decide +kernel) (by decide +kernel)
set_option maxRecDepth 20000 in
theorem gX2_release_X2_add : GoodIn wsX2_release (wsV RX2 103 RX2 yX2_add wsX2_add) := goodIn_app (goodIn_of _ (by decide +kernel)) ggX2_release_X2_add
set_option maxRecDepth 20000 in
theorem ggX2_release_X2_append : GoodIn wsX2_release wsX2_append := goodIn_r _ [59, 6, 2, 45, 60, 61, 62, 63, 64, 65, 66, 67, 68, 69, 70, 71, 72, 73, 74, 75] (by decide +kernel) (by decide +kernel)
set_option maxRecDepth 20000 in
theorem gX2_release_X2_append : GoodIn wsX2_release (wsV RX2 107 RX2 yX2_append wsX2_append) := goodIn_app (goodIn_of _ (by decide +kernel)) ggX2_release_X2_append
theorem dX2_release_0 : decode cX2_release 0 = .ok (.aload_n 0, 1) := by decide +kernel
theorem dX2_release_1 : decode cX2_release 1 = .ok (.iload_n 1, 1) := by decide +kernel
theorem dX2_release_2 : decode cX2_release 2 = .ok (.invokestatic 65, 3) := by decide +kernel
theorem dX2_release_5 : decode cX2_release 5 = .ok (.ifCond .eq 25, 3) := by decide +kernel
theorem dX2_release_8 : decode cX2_release 8 = .ok (.iload_n 2, 1) := by decide +kernel
theorem dX2_release_9 : decode cX2_release 9 = .ok (.invokestatic 69, 3) := by decide +kernel
theorem dX2_release_12 : decode cX2_release 12 = .ok (.ifCond .eq 18, 3) := by decide +kernel
theorem dX2_release_15 : decode cX2_release 15 = .ok (.iload_n 3, 1) := by decide +kernel
theorem dX2_release_16 : decode cX2_release 16 = .ok (.invokestatic 89, 3) := by decide +kernel
theorem dX2_release_19 : decode cX2_release 19 = .ok (.ifCond .eq 11, 3) := by decide +kernel
theorem dX2_release_22 : decode cX2_release 22 = .ok (.iload 4, 2) := by decide +kernel
theorem dX2_release_24 : decode cX2_release 24 = .ok (.invokestatic 69, 3) := by decide +kernel
theorem dX2_release_27 : decode cX2_release 27 = .ok (.ifCond .ne 7, 3) := by decide +kernel
theorem dX2_release_30 : decode cX2_release 30 = .ok (.iconst 1, 1) := by decide +kernel
theorem dX2_release_31 : decode cX2_release 31 = .ok (.goto 4, 3) := by decide +kernel
theorem dX2_release_34 : decode cX2_release 34 = .ok (.iconst 0, 1) := by decide +kernel
theorem dX2_release_35 : decode cX2_release 35 = .ok (.iconst 1, 1) := by decide +kernel
theorem dX2_release_36 : decode cX2_release 36 = .ok (.invokevirtual 72, 3) := by decide +kernel
theorem dX2_release_39 : decode cX2_release 39 = .ok (.ifCond .eq 5, 3) := by decide +kernel
theorem dX2_release_42 : decode cX2_release 42 = .ok (.iconst 0, 1) := by decide +kernel
theorem dX2_release_43 : decode cX2_release 43 = .ok (.ireturn, 1) := by decide +kernel
theorem dX2_release_44 : decode cX2_release 44 = .ok (.aload_n 0, 1) := by decide +kernel
theorem dX2_release_45 : decode cX2_release 45 = .ok (.getfield 13, 3) := by decide +kernel
theorem dX2_release_48 : decode cX2_release 48 = .ok (.iload_n 1, 1) := by decide +kernel
theorem dX2_release_49 : decode cX2_release 49 = .ok (.baload, 1) := by decide +kernel
theorem dX2_release_50 : decode cX2_release 50 = .ok (.ifCond .eq 19, 3) := by decide +kernel
theorem dX2_release_53 : decode cX2_release 53 = .ok (.aload_n 0, 1) := by decide +kernel
theorem dX2_release_54 : decode cX2_release 54 = .ok (.iload_n 1, 1) := by decide +kernel
theorem dX2_release_55 : decode cX2_release 55 = .ok (.iload_n 2, 1) := by decide +kernel
theorem dX2_release_56 : decode cX2_release 56 = .ok (.iload 4, 2) := by decide +kernel
theorem dX2_release_58 : decode cX2_release 58 = .ok (.invokevirtual 79, 3) := by decide +kernel
theorem dX2_release_61 : decode cX2_release 61 = .ok (.iconst (-1), 1) := by decide +kernel
theorem dX2_release_62 : decode cX2_release 62 = .ok (.if_icmp .eq 7, 3) := by decide +kernel
theorem dX2_release_65 : decode cX2_release 65 = .ok (.iconst 1, 1) := by decide +kernel
theorem dX2_release_66 : decode cX2_release 66 = .ok (.goto 4, 3) := by decide +kernel
theorem dX2_release_69 : decode cX2_release 69 = .ok (.iconst 0, 1) := by decide +kernel
theorem dX2_release_70 : decode cX2_release 70 = .ok (.istore 5, 2) := by decide +kernel
theorem dX2_release_72 : decode cX2_release 72 = .ok (.aload_n 0, 1) := by decide +kernel
theorem dX2_release_73 : decode cX2_release 73 = .ok (.iload_n 2, 1) := by decide +kernel
theorem dX2_release_74 : decode cX2_release 74 = .ok (.iload_n 3, 1) := by decide +kernel
theorem dX2_release_75 : decode cX2_release 75 = .ok (.invokevirtual 92, 3) := by decide +kernel
theorem dX2_release_78 : decode cX2_release 78 = .ok (.istore 6, 2) := by decide +kernel
theorem dX2_release_80 : decode cX2_release 80 = .ok (.aload_n 0, 1) := by decide +kernel
theorem dX2_release_81 : decode cX2_release 81 = .ok (.iload 4, 2) := by decide +kernel
theorem dX2_release_83 : decode cX2_release 83 = .ok (.iload_n 3, 1) := by decide +kernel
theorem dX2_release_84 : decode cX2_release 84 = .ok (.invokevirtual 92, 3) := by decide +kernel
theorem dX2_release_87 : decode cX2_release 87 = .ok (.istore 7, 2) := by decide +kernel
theorem dX2_release_89 : decode cX2_release 89 = .ok (.iload 6, 2) := by decide +kernel
theorem dX2_release_91 : decode cX2_release 91 = .ok (.iconst (-1), 1) := by decide +kernel
theorem dX2_release_92 : decode cX2_release 92 = .ok (.if_icmp .eq 50, 3) := by decide +kernel
theorem dX2_release_95 : decode cX2_release 95 = .ok (.aload_n 0, 1) := by decide +kernel
theorem dX2_release_96 : decode cX2_release 96 = .ok (.iload 4, 2) := by decide +kernel
theorem dX2_release_98 : decode cX2_release 98 = .ok (.invokevirtual 86, 3) := by decide +kernel
theorem dX2_release_101 : decode cX2_release 101 = .ok (.iload 7, 2) := by decide +kernel
theorem dX2_release_103 : decode cX2_release 103 = .ok (.iconst (-1), 1) := by decide +kernel
theorem dX2_release_104 : decode cX2_release 104 = .ok (.if_icmp .ne 7, 3) := by decide +kernel
theorem dX2_release_107 : decode cX2_release 107 = .ok (.iconst 0, 1) := by decide +kernel
theorem dX2_release_108 : decode cX2_release 108 = .ok (.goto 9, 3) := by decide +kernel
theorem dX2_release_111 : decode cX2_release 111 = .ok (.aload_n 0, 1) := by decide +kernel
theorem dX2_release_112 : decode cX2_release 112 = .ok (.iload 7, 2) := by decide +kernel
theorem dX2_release_114 : decode cX2_release 114 = .ok (.invokevirtual 61, 3) := by decide +kernel
theorem dX2_release_117 : decode cX2_release 117 = .ok (.isub, 1) := by decide +kernel
theorem dX2_release_118 : decode cX2_release 118 = .ok (.iconst 1, 1) := by decide +kernel
theorem dX2_release_119 : decode cX2_release 119 = .ok (.iadd, 1) := by decide +kernel
theorem dX2_release_120 : decode cX2_release 120 = .ok (.aload_n 0, 1) := by decide +kernel
theorem dX2_release_121 : decode cX2_release 121 = .ok (.getfield 32, 3) := by decide +kernel
theorem dX2_release_124 : decode cX2_release 124 = .ok (.iload 6, 2) := by decide +kernel
theorem dX2_release_126 : decode cX2_release 126 = .ok (.iaload, 1) := by decide +kernel
theorem dX2_release_127 : decode cX2_release 127 = .ok (.iadd, 1) := by decide +kernel
theorem dX2_release_128 : decode cX2_release 128 = .ok (.aload_n 0, 1) := by decide +kernel
theorem dX2_release_129 : decode cX2_release 129 = .ok (.getfield 17, 3) := by decide +kernel
theorem dX2_release_132 : decode cX2_release 132 = .ok (.iload 4, 2) := by decide +kernel
theorem dX2_release_134 : decode cX2_release 134 = .ok (.iaload, 1) := by decide +kernel
theorem dX2_release_135 : decode cX2_release 135 = .ok (.if_icmp .gt 7, 3) := by decide +kernel
theorem dX2_release_138 : decode cX2_release 138 = .ok (.iconst 1, 1) := by decide +kernel
theorem dX2_release_139 : decode cX2_release 139 = .ok (.goto 4, 3) := by decide +kernel
theorem dX2_release_142 : decode cX2_release 142 = .ok (.iconst 0, 1) := by decide +kernel
theorem dX2_release_143 : decode cX2_release 143 = .ok (.istore 8, 2) := by decide +kernel
theorem dX2_release_145 : decode cX2_release 145 = .ok (.aload_n 0, 1) := by decide +kernel
theorem dX2_release_146 : decode cX2_release 146 = .ok (.iload 5, 2) := by decide +kernel
theorem dX2_release_148 : decode cX2_release 148 = .ok (.ifCond .eq 28, 3) := by decide +kernel
theorem dX2_release_151 : decode cX2_release 151 = .ok (.iload 8, 2) := by decide +kernel
theorem dX2_release_153 : decode cX2_release 153 = .ok (.ifCond .eq 23, 3) := by decide +kernel
theorem dX2_release_156 : decode cX2_release 156 = .ok (.iload 7, 2) := by decide +kernel
theorem dX2_release_158 : decode cX2_release 158 = .ok (.iconst (-1), 1) := by decide +kernel
theorem dX2_release_159 : decode cX2_release 159 = .ok (.if_icmp .ne 17, 3) := by decide +kernel
theorem dX2_release_162 : decode cX2_release 162 = .ok (.aload_n 0, 1) := by decide +kernel
theorem dX2_release_163 : decode cX2_release 163 = .ok (.getfield 58, 3) := by decide +kernel
theorem dX2_release_166 : decode cX2_release 166 = .ok (.sipush 200, 3) := by decide +kernel
theorem dX2_release_169 : decode cX2_release 169 = .ok (.if_icmp .ne 7, 3) := by decide +kernel
theorem dX2_release_172 : decode cX2_release 172 = .ok (.iconst 1, 1) := by decide +kernel
theorem dX2_release_173 : decode cX2_release 173 = .ok (.goto 4, 3) := by decide +kernel
theorem dX2_release_176 : decode cX2_release 176 = .ok (.iconst 0, 1) := by decide +kernel
theorem dX2_release_177 : decode cX2_release 177 = .ok (.iconst 2, 1) := by decide +kernel
theorem dX2_release_178 : decode cX2_release 178 = .ok (.invokevirtual 72, 3) := by decide +kernel
theorem dX2_release_181 : decode cX2_release 181 = .ok (.ifCond .eq 5, 3) := by decide +kernel
theorem dX2_release_184 : decode cX2_release 184 = .ok (.iconst 0, 1) := by decide +kernel
theorem dX2_release_185 : decode cX2_release 185 = .ok (.ireturn, 1) := by decide +kernel
theorem dX2_release_186 : decode cX2_release 186 = .ok (.aload_n 0, 1) := by decide +kernel
theorem dX2_release_187 : decode cX2_release 187 = .ok (.iload_n 1, 1) := by decide +kernel
theorem dX2_release_188 : decode cX2_release 188 = .ok (.invokevirtual 99, 3) := by decide +kernel
theorem dX2_release_191 : decode cX2_release 191 = .ok (.aload_n 0, 1) := by decide +kernel
theorem dX2_release_192 : decode cX2_release 192 = .ok (.getfield 13, 3) := by decide +kernel
theorem dX2_release_195 : decode cX2_release 195 = .ok (.iload_n 1, 1) := by decide +kernel
theorem dX2_release_196 : decode cX2_release 196 = .ok (.baload, 1) := by decide +kernel
theorem dX2_release_197 : decode cX2_release 197 = .ok (.ifCond .ne 5, 3) := by decide +kernel
theorem dX2_release_200 : decode cX2_release 200 = .ok (.iconst (-1), 1) := by decide +kernel
theorem dX2_release_201 : decode cX2_release 201 = .ok (.ireturn, 1) := by decide +kernel
theorem dX2_release_202 : decode cX2_release 202 = .ok (.iload 5, 2) := by decide +kernel
theorem dX2_release_204 : decode cX2_release 204 = .ok (.ifCond .ne 6, 3) := by decide +kernel
theorem dX2_release_207 : decode cX2_release 207 = .ok (.bipush (-2), 2) := by decide +kernel
theorem dX2_release_209 : decode cX2_release 209 = .ok (.ireturn, 1) := by decide +kernel
theorem dX2_release_210 : decode cX2_release 210 = .ok (.iload 6, 2) := by decide +kernel
theorem dX2_release_212 : decode cX2_release 212 = .ok (.iconst (-1), 1) := by decide +kernel
theorem dX2_release_213 : decode cX2_release 213 = .ok (.if_icmp .ne 5, 3) := by decide +kernel
theorem dX2_release_216 : decode cX2_release 216 = .ok (.iconst 0, 1) := by decide +kernel
theorem dX2_release_217 : decode cX2_release 217 = .ok (.ireturn, 1) := by decide +kernel
theorem dX2_release_218 : decode cX2_release 218 = .ok (.iload 8, 2) := by decide +kernel
theorem dX2_release_220 : decode cX2_release 220 = .ok (.ifCond .ne 6, 3) := by decide +kernel
theorem dX2_release_223 : decode cX2_release 223 = .ok (.bipush (-3), 2) := by decide +kernel
theorem dX2_release_225 : decode cX2_release 225 = .ok (.ireturn, 1) := by decide +kernel
theorem dX2_release_226 : decode cX2_release 226 = .ok (.iload 7, 2) := by decide +kernel
theorem dX2_release_228 : decode cX2_release 228 = .ok (.iconst (-1), 1) := by decide +kernel
theorem dX2_release_229 : decode cX2_release 229 = .ok (.if_icmp .ne 15, 3) := by decide +kernel
theorem dX2_release_232 : decode cX2_release 232 = .ok (.aload_n 0, 1) := by decide +kernel
theorem dX2_release_233 : decode cX2_release 233 = .ok (.iload 4, 2) := by decide +kernel
theorem dX2_release_235 : decode cX2_release 235 = .ok (.iload_n 3, 1) := by decide +kernel
theorem dX2_release_236 : decode cX2_release 236 = .ok (.iconst (-1), 1) := by decide +kernel
theorem dX2_release_237 : decode cX2_release 237 = .ok (.iconst 0, 1) := by decide +kernel
theorem dX2_release_238 : decode cX2_release 238 = .ok (.invokevirtual 103, 3) := by decide +kernel
theorem dX2_release_241 : decode cX2_release 241 = .ok (.goto 5, 3) := by decide +kernel
theorem dX2_release_244 : decode cX2_release 244 = .ok (.iload 7, 2) := by decide +kernel
theorem dX2_release_246 : decode cX2_release 246 = .ok (.istore 9, 2) := by decide +kernel
theorem dX2_release_248 : decode cX2_release 248 = .ok (.aload_n 0, 1) := by decide +kernel
theorem dX2_release_249 : decode cX2_release 249 = .ok (.getfield 26, 3) := by decide +kernel
theorem dX2_release_252 : decode cX2_release 252 = .ok (.iload 9, 2) := by decide +kernel
theorem dX2_release_254 : decode cX2_release 254 = .ok (.iconst 0, 1) := by decide +kernel
theorem dX2_release_255 : decode cX2_release 255 = .ok (.bastore, 1) := by decide +kernel
theorem dX2_release_256 : decode cX2_release 256 = .ok (.aload_n 0, 1) := by decide +kernel
theorem dX2_release_257 : decode cX2_release 257 = .ok (.getfield 32, 3) := by decide +kernel
theorem dX2_release_260 : decode cX2_release 260 = .ok (.iload 9, 2) := by decide +kernel
theorem dX2_release_262 : decode cX2_release 262 = .ok (.iconst 0, 1) := by decide +kernel
theorem dX2_release_263 : decode cX2_release 263 = .ok (.iastore, 1) := by decide +kernel
theorem dX2_release_264 : decode cX2_release 264 = .ok (.iconst 0, 1) := by decide +kernel
theorem dX2_release_265 : decode cX2_release 265 = .ok (.istore 10, 2) := by decide +kernel
theorem dX2_release_267 : decode cX2_release 267 = .ok (.iload 10, 2) := by decide +kernel
theorem dX2_release_269 : decode cX2_release 269 = .ok (.aload_n 0, 1) := by decide +kernel
theorem dX2_release_270 : decode cX2_release 270 = .ok (.getfield 32, 3) := by decide +kernel
theorem dX2_release_273 : decode cX2_release 273 = .ok (.iload 6, 2) := by decide +kernel
theorem dX2_release_275 : decode cX2_release 275 = .ok (.iaload, 1) := by decide +kernel
theorem dX2_release_276 : decode cX2_release 276 = .ok (.if_icmp .ge 29, 3) := by decide +kernel
theorem dX2_release_279 : decode cX2_release 279 = .ok (.aload_n 0, 1) := by decide +kernel
theorem dX2_release_280 : decode cX2_release 280 = .ok (.iload 9, 2) := by decide +kernel
theorem dX2_release_282 : decode cX2_release 282 = .ok (.aload_n 0, 1) := by decide +kernel
theorem dX2_release_283 : decode cX2_release 283 = .ok (.getfield 35, 3) := by decide +kernel
theorem dX2_release_286 : decode cX2_release 286 = .ok (.bipush 24, 2) := by decide +kernel
theorem dX2_release_288 : decode cX2_release 288 = .ok (.iload 6, 2) := by decide +kernel
theorem dX2_release_290 : decode cX2_release 290 = .ok (.imul, 1) := by decide +kernel
theorem dX2_release_291 : decode cX2_release 291 = .ok (.iload 10, 2) := by decide +kernel
theorem dX2_release_293 : decode cX2_release 293 = .ok (.iadd, 1) := by decide +kernel
theorem dX2_release_294 : decode cX2_release 294 = .ok (.iaload, 1) := by decide +kernel
theorem dX2_release_295 : decode cX2_release 295 = .ok (.iconst 0, 1) := by decide +kernel
theorem dX2_release_296 : decode cX2_release 296 = .ok (.invokevirtual 107, 3) := by decide +kernel
theorem dX2_release_299 : decode cX2_release 299 = .ok (.iinc 10 1, 3) := by decide +kernel
theorem dX2_release_302 : decode cX2_release 302 = .ok (.goto (-35), 3) := by decide +kernel
theorem dX2_release_305 : decode cX2_release 305 = .ok (.iconst 1, 1) := by decide +kernel
theorem dX2_release_306 : decode cX2_release 306 = .ok (.ireturn, 1) := by decide +kernel
set_option maxRecDepth 20000 in
theorem ggX2_seen_X2_isSubject : GoodIn wsX2_seen wsX2_isSubject := goodIn_r _ [6, 7, 8, 5, 9] (by decide +kernel) (by decide +kernel)
set_option maxRecDepth 20000 in
theorem gX2_seen_X2_isSubject : GoodIn wsX2_seen (va_wsS RX2 65 yX2_isSubject wsX2_isSubject) := goodIn_app (goodIn_of _ (by decide +kernel)) ggX2_seen_X2_isSubject
set_option maxRecDepth 20000 in
theorem ggX2_seen_X2_fails : GoodIn wsX2_seen wsX2_fails := goodIn_r _ [13, 14, 15, 16, 17, 18, 19, 20, 21, 22, 23, 24, 25, 26, 27, 28, 29, 30] (by decide +kernel) (by decide +kernel)
set_option maxRecDepth 20000 in
theorem gX2_seen_X2_fails : GoodIn wsX2_seen (wsV RX2 72 RX2 yX2_fails wsX2_fails) := goodIn_app (goodIn_of _ (by decide +kernel)) ggX2_seen_X2_fails
theorem dX2_seen_0 : decode cX2_seen 0 = .ok (.aload_n 0, 1) := by decide +kernel
theorem dX2_seen_1 : decode cX2_seen 1 = .ok (.iload_n 1, 1) := by decide +kernel
theorem dX2_seen_2 : decode cX2_seen 2 = .ok (.invokestatic 65, 3) := by decide +kernel
theorem dX2_seen_5 : decode cX2_seen 5 = .ok (.ifCond .ne 7, 3) := by decide +kernel
theorem dX2_seen_8 : decode cX2_seen 8 = .ok (.iconst 1, 1) := by decide +kernel
theorem dX2_seen_9 : decode cX2_seen 9 = .ok (.goto 4, 3) := by decide +kernel
theorem dX2_seen_12 : decode cX2_seen 12 = .ok (.iconst 0, 1) := by decide +kernel
theorem dX2_seen_13 : decode cX2_seen 13 = .ok (.iconst 1, 1) := by decide +kernel
theorem dX2_seen_14 : decode cX2_seen 14 = .ok (.invokevirtual 72, 3) := by decide +kernel
theorem dX2_seen_17 : decode cX2_seen 17 = .ok (.ifCond .eq 5, 3) := by decide +kernel
theorem dX2_seen_20 : decode cX2_seen 20 = .ok (.iconst 0, 1) := by decide +kernel
theorem dX2_seen_21 : decode cX2_seen 21 = .ok (.ireturn, 1) := by decide +kernel
theorem dX2_seen_22 : decode cX2_seen 22 = .ok (.iload_n 2, 1) := by decide +kernel
theorem dX2_seen_23 : decode cX2_seen 23 = .ok (.ifCond .lt 28, 3) := by decide +kernel
theorem dX2_seen_26 : decode cX2_seen 26 = .ok (.iload_n 2, 1) := by decide +kernel
theorem dX2_seen_27 : decode cX2_seen 27 = .ok (.aload_n 0, 1) := by decide +kernel
theorem dX2_seen_28 : decode cX2_seen 28 = .ok (.getfield 47, 3) := by decide +kernel
theorem dX2_seen_31 : decode cX2_seen 31 = .ok (.iload_n 1, 1) := by decide +kernel
theorem dX2_seen_32 : decode cX2_seen 32 = .ok (.iaload, 1) := by decide +kernel
theorem dX2_seen_33 : decode cX2_seen 33 = .ok (.if_icmp .ge 18, 3) := by decide +kernel
theorem dX2_seen_36 : decode cX2_seen 36 = .ok (.aload_n 0, 1) := by decide +kernel
theorem dX2_seen_37 : decode cX2_seen 37 = .ok (.getfield 44, 3) := by decide +kernel
theorem dX2_seen_40 : decode cX2_seen 40 = .ok (.sipush 200, 3) := by decide +kernel
theorem dX2_seen_43 : decode cX2_seen 43 = .ok (.iload_n 1, 1) := by decide +kernel
theorem dX2_seen_44 : decode cX2_seen 44 = .ok (.imul, 1) := by decide +kernel
theorem dX2_seen_45 : decode cX2_seen 45 = .ok (.iload_n 2, 1) := by decide +kernel
theorem dX2_seen_46 : decode cX2_seen 46 = .ok (.iadd, 1) := by decide +kernel
theorem dX2_seen_47 : decode cX2_seen 47 = .ok (.iaload, 1) := by decide +kernel
theorem dX2_seen_48 : decode cX2_seen 48 = .ok (.goto 4, 3) := by decide +kernel
theorem dX2_seen_51 : decode cX2_seen 51 = .ok (.iconst 0, 1) := by decide +kernel
theorem dX2_seen_52 : decode cX2_seen 52 = .ok (.ireturn, 1) := by decide +kernel
set_option maxRecDepth 20000 in
theorem ggX2_told_X2_isLabel : GoodIn wsX2_told wsX2_isLabel := goodIn_r _ [8, 9, 10, 7, 11] (by decide +kernel) (by decide +kernel)
set_option maxRecDepth 20000 in
theorem gX2_told_X2_isLabel : GoodIn wsX2_told (va_wsS RX2 69 yX2_isLabel wsX2_isLabel) := goodIn_app (goodIn_of _ (by decide +kernel)) ggX2_told_X2_isLabel
set_option maxRecDepth 20000 in
theorem ggX2_told_X2_within : GoodIn wsX2_told wsX2_within := goodIn_r _ [11] (by decide +kernel) (by decide +kernel)
set_option maxRecDepth 20000 in
theorem gX2_told_X2_within : GoodIn wsX2_told (va_wsS RX2 54 yX2_within wsX2_within) := goodIn_app (goodIn_of _ (by decide +kernel)) ggX2_told_X2_within
set_option maxRecDepth 20000 in
theorem ggX2_told_X2_fails : GoodIn wsX2_told wsX2_fails := goodIn_r _ [15, 16, 28, 29, 30, 31, 32, 33, 34, 35, 36, 37, 38, 39, 40, 41, 42, 43] (by decide +kernel) (by decide +kernel)
set_option maxRecDepth 20000 in
theorem gX2_told_X2_fails : GoodIn wsX2_told (wsV RX2 72 RX2 yX2_fails wsX2_fails) := goodIn_app (goodIn_of _ (by decide +kernel)) ggX2_told_X2_fails
set_option maxRecDepth 20000 in
theorem ggX2_told_X2_uses : GoodIn wsX2_told wsX2_uses := goodIn_r _ [20, 3, 1, 2, 21, 22, 23, 7, 24, 25, 26, 27, 28, 29, 30, 31, 32, 33, 34, 35, 36, 37, 38, 39, 40, 41, 42, 43] (by decide +kernel) (by decide +kernel)
set_option maxRecDepth 20000 in
theorem gX2_told_X2_uses : GoodIn wsX2_told (wsV RX2 86 RX2 yX2_uses wsX2_uses) := goodIn_app (goodIn_of _ (by decide +kernel)) ggX2_told_X2_uses
theorem dX2_told_0 : decode cX2_told 0 = .ok (.aload_n 0, 1) := by decide +kernel
theorem dX2_told_1 : decode cX2_told 1 = .ok (.iload_n 1, 1) := by decide +kernel
theorem dX2_told_2 : decode cX2_told 2 = .ok (.invokestatic 69, 3) := by decide +kernel
theorem dX2_told_5 : decode cX2_told 5 = .ok (.ifCond .eq 11, 3) := by decide +kernel
theorem dX2_told_8 : decode cX2_told 8 = .ok (.iload_n 2, 1) := by decide +kernel
theorem dX2_told_9 : decode cX2_told 9 = .ok (.iconst 4, 1) := by decide +kernel
theorem dX2_told_10 : decode cX2_told 10 = .ok (.invokestatic 54, 3) := by decide +kernel
theorem dX2_told_13 : decode cX2_told 13 = .ok (.ifCond .ne 7, 3) := by decide +kernel
theorem dX2_told_16 : decode cX2_told 16 = .ok (.iconst 1, 1) := by decide +kernel
theorem dX2_told_17 : decode cX2_told 17 = .ok (.goto 4, 3) := by decide +kernel
theorem dX2_told_20 : decode cX2_told 20 = .ok (.iconst 0, 1) := by decide +kernel
theorem dX2_told_21 : decode cX2_told 21 = .ok (.iconst 1, 1) := by decide +kernel
theorem dX2_told_22 : decode cX2_told 22 = .ok (.invokevirtual 72, 3) := by decide +kernel
theorem dX2_told_25 : decode cX2_told 25 = .ok (.ifCond .eq 5, 3) := by decide +kernel
theorem dX2_told_28 : decode cX2_told 28 = .ok (.iconst 0, 1) := by decide +kernel
theorem dX2_told_29 : decode cX2_told 29 = .ok (.ireturn, 1) := by decide +kernel
theorem dX2_told_30 : decode cX2_told 30 = .ok (.iconst 0, 1) := by decide +kernel
theorem dX2_told_31 : decode cX2_told 31 = .ok (.istore_n 3, 1) := by decide +kernel
theorem dX2_told_32 : decode cX2_told 32 = .ok (.iconst 0, 1) := by decide +kernel
theorem dX2_told_33 : decode cX2_told 33 = .ok (.istore 4, 2) := by decide +kernel
theorem dX2_told_35 : decode cX2_told 35 = .ok (.iload 4, 2) := by decide +kernel
theorem dX2_told_37 : decode cX2_told 37 = .ok (.aload_n 0, 1) := by decide +kernel
theorem dX2_told_38 : decode cX2_told 38 = .ok (.getfield 58, 3) := by decide +kernel
theorem dX2_told_41 : decode cX2_told 41 = .ok (.if_icmp .ge 31, 3) := by decide +kernel
theorem dX2_told_44 : decode cX2_told 44 = .ok (.iload_n 3, 1) := by decide +kernel
theorem dX2_told_45 : decode cX2_told 45 = .ok (.aload_n 0, 1) := by decide +kernel
theorem dX2_told_46 : decode cX2_told 46 = .ok (.getfield 23, 3) := by decide +kernel
theorem dX2_told_49 : decode cX2_told 49 = .ok (.iload 4, 2) := by decide +kernel
theorem dX2_told_51 : decode cX2_told 51 = .ok (.iaload, 1) := by decide +kernel
theorem dX2_told_52 : decode cX2_told 52 = .ok (.bipush 16, 2) := by decide +kernel
theorem dX2_told_54 : decode cX2_told 54 = .ok (.idiv, 1) := by decide +kernel
theorem dX2_told_55 : decode cX2_told 55 = .ok (.iload_n 1, 1) := by decide +kernel
theorem dX2_told_56 : decode cX2_told 56 = .ok (.if_icmp .ne 7, 3) := by decide +kernel
theorem dX2_told_59 : decode cX2_told 59 = .ok (.iconst 1, 1) := by decide +kernel
theorem dX2_told_60 : decode cX2_told 60 = .ok (.goto 4, 3) := by decide +kernel
theorem dX2_told_63 : decode cX2_told 63 = .ok (.iconst 0, 1) := by decide +kernel
theorem dX2_told_64 : decode cX2_told 64 = .ok (.iadd, 1) := by decide +kernel
theorem dX2_told_65 : decode cX2_told 65 = .ok (.istore_n 3, 1) := by decide +kernel
theorem dX2_told_66 : decode cX2_told 66 = .ok (.iinc 4 1, 3) := by decide +kernel
theorem dX2_told_69 : decode cX2_told 69 = .ok (.goto (-34), 3) := by decide +kernel
theorem dX2_told_72 : decode cX2_told 72 = .ok (.iload_n 2, 1) := by decide +kernel
theorem dX2_told_73 : decode cX2_told 73 = .ok (.ifCond .ne 11, 3) := by decide +kernel
theorem dX2_told_76 : decode cX2_told 76 = .ok (.aload_n 0, 1) := by decide +kernel
theorem dX2_told_77 : decode cX2_told 77 = .ok (.iload_n 1, 1) := by decide +kernel
theorem dX2_told_78 : decode cX2_told 78 = .ok (.invokevirtual 86, 3) := by decide +kernel
theorem dX2_told_81 : decode cX2_told 81 = .ok (.goto 32, 3) := by decide +kernel
theorem dX2_told_84 : decode cX2_told 84 = .ok (.iload_n 2, 1) := by decide +kernel
theorem dX2_told_85 : decode cX2_told 85 = .ok (.iconst 1, 1) := by decide +kernel
theorem dX2_told_86 : decode cX2_told 86 = .ok (.if_icmp .ne 12, 3) := by decide +kernel
theorem dX2_told_89 : decode cX2_told 89 = .ok (.aload_n 0, 1) := by decide +kernel
theorem dX2_told_90 : decode cX2_told 90 = .ok (.getfield 20, 3) := by decide +kernel
theorem dX2_told_93 : decode cX2_told 93 = .ok (.iload_n 1, 1) := by decide +kernel
theorem dX2_told_94 : decode cX2_told 94 = .ok (.iaload, 1) := by decide +kernel
theorem dX2_told_95 : decode cX2_told 95 = .ok (.goto 18, 3) := by decide +kernel
theorem dX2_told_98 : decode cX2_told 98 = .ok (.iload_n 2, 1) := by decide +kernel
theorem dX2_told_99 : decode cX2_told 99 = .ok (.iconst 2, 1) := by decide +kernel
theorem dX2_told_100 : decode cX2_told 100 = .ok (.if_icmp .ne 12, 3) := by decide +kernel
theorem dX2_told_103 : decode cX2_told 103 = .ok (.aload_n 0, 1) := by decide +kernel
theorem dX2_told_104 : decode cX2_told 104 = .ok (.getfield 17, 3) := by decide +kernel
theorem dX2_told_107 : decode cX2_told 107 = .ok (.iload_n 1, 1) := by decide +kernel
theorem dX2_told_108 : decode cX2_told 108 = .ok (.iaload, 1) := by decide +kernel
theorem dX2_told_109 : decode cX2_told 109 = .ok (.goto 4, 3) := by decide +kernel
theorem dX2_told_112 : decode cX2_told 112 = .ok (.iload_n 3, 1) := by decide +kernel
theorem dX2_told_113 : decode cX2_told 113 = .ok (.ireturn, 1) := by decide +kernel
theorem dJ6_bitCount_0f7a4_0 : decode cJ6_bitCount_0f7a4 0 = .ok (.iload_n 0, 1) := by decide +kernel
theorem dJ6_bitCount_0f7a4_1 : decode cJ6_bitCount_0f7a4 1 = .ok (.iload_n 0, 1) := by decide +kernel
theorem dJ6_bitCount_0f7a4_2 : decode cJ6_bitCount_0f7a4 2 = .ok (.iconst 1, 1) := by decide +kernel
theorem dJ6_bitCount_0f7a4_3 : decode cJ6_bitCount_0f7a4 3 = .ok (.iushr, 1) := by decide +kernel
theorem dJ6_bitCount_0f7a4_4 : decode cJ6_bitCount_0f7a4 4 = .ok (.ldc_w 265, 3) := by decide +kernel
theorem dJ6_bitCount_0f7a4_7 : decode cJ6_bitCount_0f7a4 7 = .ok (.iand, 1) := by decide +kernel
theorem dJ6_bitCount_0f7a4_8 : decode cJ6_bitCount_0f7a4 8 = .ok (.isub, 1) := by decide +kernel
theorem dJ6_bitCount_0f7a4_9 : decode cJ6_bitCount_0f7a4 9 = .ok (.istore_n 0, 1) := by decide +kernel
theorem dJ6_bitCount_0f7a4_10 : decode cJ6_bitCount_0f7a4 10 = .ok (.iload_n 0, 1) := by decide +kernel
theorem dJ6_bitCount_0f7a4_11 : decode cJ6_bitCount_0f7a4 11 = .ok (.ldc_w 266, 3) := by decide +kernel
theorem dJ6_bitCount_0f7a4_14 : decode cJ6_bitCount_0f7a4 14 = .ok (.iand, 1) := by decide +kernel
theorem dJ6_bitCount_0f7a4_15 : decode cJ6_bitCount_0f7a4 15 = .ok (.iload_n 0, 1) := by decide +kernel
theorem dJ6_bitCount_0f7a4_16 : decode cJ6_bitCount_0f7a4 16 = .ok (.iconst 2, 1) := by decide +kernel
theorem dJ6_bitCount_0f7a4_17 : decode cJ6_bitCount_0f7a4 17 = .ok (.iushr, 1) := by decide +kernel
theorem dJ6_bitCount_0f7a4_18 : decode cJ6_bitCount_0f7a4 18 = .ok (.ldc_w 266, 3) := by decide +kernel
theorem dJ6_bitCount_0f7a4_21 : decode cJ6_bitCount_0f7a4 21 = .ok (.iand, 1) := by decide +kernel
theorem dJ6_bitCount_0f7a4_22 : decode cJ6_bitCount_0f7a4 22 = .ok (.iadd, 1) := by decide +kernel
theorem dJ6_bitCount_0f7a4_23 : decode cJ6_bitCount_0f7a4 23 = .ok (.istore_n 0, 1) := by decide +kernel
theorem dJ6_bitCount_0f7a4_24 : decode cJ6_bitCount_0f7a4 24 = .ok (.iload_n 0, 1) := by decide +kernel
theorem dJ6_bitCount_0f7a4_25 : decode cJ6_bitCount_0f7a4 25 = .ok (.iload_n 0, 1) := by decide +kernel
theorem dJ6_bitCount_0f7a4_26 : decode cJ6_bitCount_0f7a4 26 = .ok (.iconst 4, 1) := by decide +kernel
theorem dJ6_bitCount_0f7a4_27 : decode cJ6_bitCount_0f7a4 27 = .ok (.iushr, 1) := by decide +kernel
theorem dJ6_bitCount_0f7a4_28 : decode cJ6_bitCount_0f7a4 28 = .ok (.iadd, 1) := by decide +kernel
theorem dJ6_bitCount_0f7a4_29 : decode cJ6_bitCount_0f7a4 29 = .ok (.ldc_w 267, 3) := by decide +kernel
theorem dJ6_bitCount_0f7a4_32 : decode cJ6_bitCount_0f7a4 32 = .ok (.iand, 1) := by decide +kernel
theorem dJ6_bitCount_0f7a4_33 : decode cJ6_bitCount_0f7a4 33 = .ok (.istore_n 0, 1) := by decide +kernel
theorem dJ6_bitCount_0f7a4_34 : decode cJ6_bitCount_0f7a4 34 = .ok (.iload_n 0, 1) := by decide +kernel
theorem dJ6_bitCount_0f7a4_35 : decode cJ6_bitCount_0f7a4 35 = .ok (.iload_n 0, 1) := by decide +kernel
theorem dJ6_bitCount_0f7a4_36 : decode cJ6_bitCount_0f7a4 36 = .ok (.bipush 8, 2) := by decide +kernel
theorem dJ6_bitCount_0f7a4_38 : decode cJ6_bitCount_0f7a4 38 = .ok (.iushr, 1) := by decide +kernel
theorem dJ6_bitCount_0f7a4_39 : decode cJ6_bitCount_0f7a4 39 = .ok (.iadd, 1) := by decide +kernel
theorem dJ6_bitCount_0f7a4_40 : decode cJ6_bitCount_0f7a4 40 = .ok (.istore_n 0, 1) := by decide +kernel
theorem dJ6_bitCount_0f7a4_41 : decode cJ6_bitCount_0f7a4 41 = .ok (.iload_n 0, 1) := by decide +kernel
theorem dJ6_bitCount_0f7a4_42 : decode cJ6_bitCount_0f7a4 42 = .ok (.iload_n 0, 1) := by decide +kernel
theorem dJ6_bitCount_0f7a4_43 : decode cJ6_bitCount_0f7a4 43 = .ok (.bipush 16, 2) := by decide +kernel
theorem dJ6_bitCount_0f7a4_45 : decode cJ6_bitCount_0f7a4 45 = .ok (.iushr, 1) := by decide +kernel
theorem dJ6_bitCount_0f7a4_46 : decode cJ6_bitCount_0f7a4 46 = .ok (.iadd, 1) := by decide +kernel
theorem dJ6_bitCount_0f7a4_47 : decode cJ6_bitCount_0f7a4 47 = .ok (.istore_n 0, 1) := by decide +kernel
theorem dJ6_bitCount_0f7a4_48 : decode cJ6_bitCount_0f7a4 48 = .ok (.iload_n 0, 1) := by decide +kernel
theorem dJ6_bitCount_0f7a4_49 : decode cJ6_bitCount_0f7a4 49 = .ok (.bipush 63, 2) := by decide +kernel
theorem dJ6_bitCount_0f7a4_51 : decode cJ6_bitCount_0f7a4 51 = .ok (.iand, 1) := by decide +kernel
theorem dJ6_bitCount_0f7a4_52 : decode cJ6_bitCount_0f7a4 52 = .ok (.ireturn, 1) := by decide +kernel
theorem dJ9_max_7cf53_0 : decode cJ9_max_7cf53 0 = .ok (.iload_n 0, 1) := by decide +kernel
theorem dJ9_max_7cf53_1 : decode cJ9_max_7cf53 1 = .ok (.iload_n 1, 1) := by decide +kernel
theorem dJ9_max_7cf53_2 : decode cJ9_max_7cf53 2 = .ok (.if_icmp .lt 7, 3) := by decide +kernel
theorem dJ9_max_7cf53_5 : decode cJ9_max_7cf53 5 = .ok (.iload_n 0, 1) := by decide +kernel
theorem dJ9_max_7cf53_6 : decode cJ9_max_7cf53 6 = .ok (.goto 4, 3) := by decide +kernel
theorem dJ9_max_7cf53_9 : decode cJ9_max_7cf53 9 = .ok (.iload_n 1, 1) := by decide +kernel
theorem dJ9_max_7cf53_10 : decode cJ9_max_7cf53 10 = .ok (.ireturn, 1) := by decide +kernel
theorem dJ9_min_7cf53_0 : decode cJ9_min_7cf53 0 = .ok (.iload_n 0, 1) := by decide +kernel
theorem dJ9_min_7cf53_1 : decode cJ9_min_7cf53 1 = .ok (.iload_n 1, 1) := by decide +kernel
theorem dJ9_min_7cf53_2 : decode cJ9_min_7cf53 2 = .ok (.if_icmp .gt 7, 3) := by decide +kernel
theorem dJ9_min_7cf53_5 : decode cJ9_min_7cf53 5 = .ok (.iload_n 0, 1) := by decide +kernel
theorem dJ9_min_7cf53_6 : decode cJ9_min_7cf53 6 = .ok (.goto 4, 3) := by decide +kernel
theorem dJ9_min_7cf53_9 : decode cJ9_min_7cf53 9 = .ok (.iload_n 1, 1) := by decide +kernel
theorem dJ9_min_7cf53_10 : decode cJ9_min_7cf53 10 = .ok (.ireturn, 1) := by decide +kernel
theorem dJxa1e45_init_da8c8_0 : decode cJxa1e45_init_da8c8 0 = .ok (.aload_n 0, 1) := by decide +kernel
theorem dJxa1e45_init_da8c8_1 : decode cJxa1e45_init_da8c8 1 = .ok (.invokespecial 1, 3) := by decide +kernel
theorem dJxa1e45_init_da8c8_4 : decode cJxa1e45_init_da8c8 4 = .ok (.return_, 1) := by decide +kernel
set_option maxRecDepth 20000 in
theorem ggJxc12de_init_da8c8_Jxa1e45_init_da8c8 : GoodIn wsJxc12de_init_da8c8 wsJxa1e45_init_da8c8 := goodIn_r _ [5, 6, 7, 8] (by decide +kernel) (by decide +kernel)
set_option maxRecDepth 20000 in
theorem gJxc12de_init_da8c8_Jxa1e45_init_da8c8 : GoodIn wsJxc12de_init_da8c8 (wsJxa1e45_init_da8c8) := ggJxc12de_init_da8c8_Jxa1e45_init_da8c8
theorem dJxc12de_init_da8c8_0 : decode cJxc12de_init_da8c8 0 = .ok (.aload_n 0, 1) := by decide +kernel
theorem dJxc12de_init_da8c8_1 : decode cJxc12de_init_da8c8 1 = .ok (.invokespecial 1, 3) := by decide +kernel
theorem dJxc12de_init_da8c8_4 : decode cJxc12de_init_da8c8 4 = .ok (.aload_n 0, 1) := by decide +kernel
theorem dJxc12de_init_da8c8_5 : decode cJxc12de_init_da8c8 5 = .ok (.iconst 0, 1) := by decide +kernel
theorem dJxc12de_init_da8c8_6 : decode cJxc12de_init_da8c8 6 = .ok (.putfield 7, 3) := by decide +kernel
theorem dJxc12de_init_da8c8_9 : decode cJxc12de_init_da8c8 9 = .ok (.return_, 1) := by decide +kernel
set_option maxRecDepth 20000 in
theorem ggJx4a65c_init_da8c8_Jxc12de_init_da8c8 : GoodIn wsJx4a65c_init_da8c8 wsJxc12de_init_da8c8 := goodIn_r _ [6, 7, 8, 9, 10, 11, 12, 13, 14, 15, 16, 17] (by decide +kernel) (by decide +kernel)
set_option maxRecDepth 20000 in
theorem gJx4a65c_init_da8c8_Jxc12de_init_da8c8 : GoodIn wsJx4a65c_init_da8c8 (wsJxc12de_init_da8c8) := ggJx4a65c_init_da8c8_Jxc12de_init_da8c8
theorem dJx4a65c_init_da8c8_0 : decode cJx4a65c_init_da8c8 0 = .ok (.aload_n 0, 1) := by decide +kernel
theorem dJx4a65c_init_da8c8_1 : decode cJx4a65c_init_da8c8 1 = .ok (.invokespecial 1, 3) := by decide +kernel
theorem dJx4a65c_init_da8c8_4 : decode cJx4a65c_init_da8c8 4 = .ok (.aload_n 0, 1) := by decide +kernel
theorem dJx4a65c_init_da8c8_5 : decode cJx4a65c_init_da8c8 5 = .ok (.getstatic 39, 3) := by decide +kernel
theorem dJx4a65c_init_da8c8_8 : decode cJx4a65c_init_da8c8 8 = .ok (.putfield 9, 3) := by decide +kernel
theorem dJx4a65c_init_da8c8_11 : decode cJx4a65c_init_da8c8 11 = .ok (.return_, 1) := by decide +kernel
set_option maxRecDepth 20000 in
theorem ggJx4a65c_grow_92f84_J8_newLength_cabcc : GoodIn wsJx4a65c_grow_92f84 wsJ8_newLength_cabcc := goodIn_r _ [11, 12, 4, 5, 6, 13, 14, 15, 10, 16] (by decide +kernel) (by decide +kernel)
set_option maxRecDepth 20000 in
theorem gJx4a65c_grow_92f84_J8_newLength_cabcc : GoodIn wsJx4a65c_grow_92f84 (va_wsS RJx4a65c 73 yJ8_newLength_cabcc wsJ8_newLength_cabcc) := goodIn_app (goodIn_of _ (by decide +kernel)) ggJx4a65c_grow_92f84_J8_newLength_cabcc
set_option maxRecDepth 20000 in
theorem ggJx4a65c_grow_92f84_J7_copyOf_1904c : GoodIn wsJx4a65c_grow_92f84 wsJ7_copyOf_1904c := goodIn_r _ [20, 21, 22, 23, 24, 25, 26, 19, 27, 28, 29, 30, 31, 5, 32, 33, 34, 35, 36] (by decide +kernel) (by decide +kernel)
set_option maxRecDepth 20000 in
theorem gJx4a65c_grow_92f84_J7_copyOf_1904c : GoodIn wsJx4a65c_grow_92f84 (va_wsS RJx4a65c 66 yJ7_copyOf_1904c wsJ7_copyOf_1904c) := goodIn_app (goodIn_of _ (by decide +kernel)) ggJx4a65c_grow_92f84_J7_copyOf_1904c
theorem dJx4a65c_grow_92f84_0 : decode cJx4a65c_grow_92f84 0 = .ok (.aload_n 0, 1) := by decide +kernel
theorem dJx4a65c_grow_92f84_1 : decode cJx4a65c_grow_92f84 1 = .ok (.getfield 9, 3) := by decide +kernel
theorem dJx4a65c_grow_92f84_4 : decode cJx4a65c_grow_92f84 4 = .ok (.arraylength, 1) := by decide +kernel
theorem dJx4a65c_grow_92f84_5 : decode cJx4a65c_grow_92f84 5 = .ok (.istore_n 2, 1) := by decide +kernel
theorem dJx4a65c_grow_92f84_6 : decode cJx4a65c_grow_92f84 6 = .ok (.iload_n 2, 1) := by decide +kernel
theorem dJx4a65c_grow_92f84_7 : decode cJx4a65c_grow_92f84 7 = .ok (.ifCond .gt 13, 3) := by decide +kernel
theorem dJx4a65c_grow_92f84_10 : decode cJx4a65c_grow_92f84 10 = .ok (.aload_n 0, 1) := by decide +kernel
theorem dJx4a65c_grow_92f84_11 : decode cJx4a65c_grow_92f84 11 = .ok (.getfield 9, 3) := by decide +kernel
theorem dJx4a65c_grow_92f84_14 : decode cJx4a65c_grow_92f84 14 = .ok (.getstatic 39, 3) := by decide +kernel
theorem dJx4a65c_grow_92f84_17 : decode cJx4a65c_grow_92f84 17 = .ok (.if_acmp .eq 28, 3) := by decide +kernel
theorem dJx4a65c_grow_92f84_20 : decode cJx4a65c_grow_92f84 20 = .ok (.iload_n 2, 1) := by decide +kernel
theorem dJx4a65c_grow_92f84_21 : decode cJx4a65c_grow_92f84 21 = .ok (.iload_n 1, 1) := by decide +kernel
theorem dJx4a65c_grow_92f84_22 : decode cJx4a65c_grow_92f84 22 = .ok (.iload_n 2, 1) := by decide +kernel
theorem dJx4a65c_grow_92f84_23 : decode cJx4a65c_grow_92f84 23 = .ok (.isub, 1) := by decide +kernel
theorem dJx4a65c_grow_92f84_24 : decode cJx4a65c_grow_92f84 24 = .ok (.iload_n 2, 1) := by decide +kernel
theorem dJx4a65c_grow_92f84_25 : decode cJx4a65c_grow_92f84 25 = .ok (.iconst 1, 1) := by decide +kernel
theorem dJx4a65c_grow_92f84_26 : decode cJx4a65c_grow_92f84 26 = .ok (.ishr, 1) := by decide +kernel
theorem dJx4a65c_grow_92f84_27 : decode cJx4a65c_grow_92f84 27 = .ok (.invokestatic 73, 3) := by decide +kernel
theorem dJx4a65c_grow_92f84_30 : decode cJx4a65c_grow_92f84 30 = .ok (.istore_n 3, 1) := by decide +kernel
theorem dJx4a65c_grow_92f84_31 : decode cJx4a65c_grow_92f84 31 = .ok (.aload_n 0, 1) := by decide +kernel
theorem dJx4a65c_grow_92f84_32 : decode cJx4a65c_grow_92f84 32 = .ok (.aload_n 0, 1) := by decide +kernel
theorem dJx4a65c_grow_92f84_33 : decode cJx4a65c_grow_92f84 33 = .ok (.getfield 9, 3) := by decide +kernel
theorem dJx4a65c_grow_92f84_36 : decode cJx4a65c_grow_92f84 36 = .ok (.iload_n 3, 1) := by decide +kernel
theorem dJx4a65c_grow_92f84_37 : decode cJx4a65c_grow_92f84 37 = .ok (.invokestatic 66, 3) := by decide +kernel
theorem dJx4a65c_grow_92f84_40 : decode cJx4a65c_grow_92f84 40 = .ok (.dup_x1, 1) := by decide +kernel
theorem dJx4a65c_grow_92f84_41 : decode cJx4a65c_grow_92f84 41 = .ok (.putfield 9, 3) := by decide +kernel
theorem dJx4a65c_grow_92f84_44 : decode cJx4a65c_grow_92f84 44 = .ok (.areturn, 1) := by decide +kernel
theorem dJx4a65c_grow_92f84_45 : decode cJx4a65c_grow_92f84 45 = .ok (.aload_n 0, 1) := by decide +kernel
theorem dJx4a65c_grow_92f84_46 : decode cJx4a65c_grow_92f84 46 = .ok (.bipush 10, 2) := by decide +kernel
theorem dJx4a65c_grow_92f84_48 : decode cJx4a65c_grow_92f84 48 = .ok (.iload_n 1, 1) := by decide +kernel
theorem dJx4a65c_grow_92f84_49 : decode cJx4a65c_grow_92f84 49 = .ok (.invokestatic 79, 3) := by decide +kernel
theorem dJx4a65c_grow_92f84_52 : decode cJx4a65c_grow_92f84 52 = .ok (.anewarray 7, 3) := by decide +kernel
theorem dJx4a65c_grow_92f84_55 : decode cJx4a65c_grow_92f84 55 = .ok (.dup_x1, 1) := by decide +kernel
theorem dJx4a65c_grow_92f84_56 : decode cJx4a65c_grow_92f84 56 = .ok (.putfield 9, 3) := by decide +kernel
theorem dJx4a65c_grow_92f84_59 : decode cJx4a65c_grow_92f84 59 = .ok (.areturn, 1) := by decide +kernel
set_option maxRecDepth 20000 in
theorem ggJx4a65c_grow_d5877_Jx4a65c_grow_92f84 : GoodIn wsJx4a65c_grow_d5877 wsJx4a65c_grow_92f84 := goodIn_r _ [6, 7, 8, 9, 10, 11, 12, 13, 14, 15, 16, 17, 18, 19, 20, 21, 22, 23, 24, 25, 26, 27, 28, 29, 30, 31, 32, 33, 34, 35, 36, 37, 38, 39, 40, 41, 42, 43, 44, 45] (by decide +kernel) (by decide +kernel)
set_option maxRecDepth 20000 in
theorem gJx4a65c_grow_d5877_Jx4a65c_grow_92f84 : GoodIn wsJx4a65c_grow_d5877 (wsV RJx4a65c 69 RJx4a65c yJx4a65c_grow_92f84 wsJx4a65c_grow_92f84) := goodIn_app (goodIn_of _ (by decide +kernel)) ggJx4a65c_grow_d5877_Jx4a65c_grow_92f84
theorem dJx4a65c_grow_d5877_0 : decode cJx4a65c_grow_d5877 0 = .ok (.aload_n 0, 1) := by decide +kernel
theorem dJx4a65c_grow_d5877_1 : decode cJx4a65c_grow_d5877 1 = .ok (.aload_n 0, 1) := by decide +kernel
theorem dJx4a65c_grow_d5877_2 : decode cJx4a65c_grow_d5877 2 = .ok (.getfield 48, 3) := by decide +kernel
theorem dJx4a65c_grow_d5877_5 : decode cJx4a65c_grow_d5877 5 = .ok (.iconst 1, 1) := by decide +kernel
theorem dJx4a65c_grow_d5877_6 : decode cJx4a65c_grow_d5877 6 = .ok (.iadd, 1) := by decide +kernel
theorem dJx4a65c_grow_d5877_7 : decode cJx4a65c_grow_d5877 7 = .ok (.invokevirtual 69, 3) := by decide +kernel
theorem dJx4a65c_grow_d5877_10 : decode cJx4a65c_grow_d5877 10 = .ok (.areturn, 1) := by decide +kernel
theorem dJx4a65c_size_8abf5_0 : decode cJx4a65c_size_8abf5 0 = .ok (.aload_n 0, 1) := by decide +kernel
theorem dJx4a65c_size_8abf5_1 : decode cJx4a65c_size_8abf5 1 = .ok (.getfield 48, 3) := by decide +kernel
theorem dJx4a65c_size_8abf5_4 : decode cJx4a65c_size_8abf5 4 = .ok (.ireturn, 1) := by decide +kernel
theorem dJx4a65c_elementData_915e3_0 : decode cJx4a65c_elementData_915e3 0 = .ok (.aload_n 0, 1) := by decide +kernel
theorem dJx4a65c_elementData_915e3_1 : decode cJx4a65c_elementData_915e3 1 = .ok (.getfield 9, 3) := by decide +kernel
theorem dJx4a65c_elementData_915e3_4 : decode cJx4a65c_elementData_915e3 4 = .ok (.iload_n 1, 1) := by decide +kernel
theorem dJx4a65c_elementData_915e3_5 : decode cJx4a65c_elementData_915e3 5 = .ok (.aaload, 1) := by decide +kernel
theorem dJx4a65c_elementData_915e3_6 : decode cJx4a65c_elementData_915e3 6 = .ok (.areturn, 1) := by decide +kernel
set_option maxRecDepth 20000 in
theorem ggJx4a65c_get_915e3_J15_checkIndex_7cf53 : GoodIn wsJx4a65c_get_915e3 wsJ15_checkIndex_7cf53 := goodIn_r _ [5, 6, 7, 8, 9] (by decide +kernel) (by decide +kernel)
set_option maxRecDepth 20000 in
theorem gJx4a65c_get_915e3_J15_checkIndex_7cf53 : GoodIn wsJx4a65c_get_915e3 (va_wsS RJx4a65c 118 yJ15_checkIndex_7cf53 wsJ15_checkIndex_7cf53) := goodIn_app (goodIn_of _ (by decide +kernel)) ggJx4a65c_get_915e3_J15_checkIndex_7cf53
set_option maxRecDepth 20000 in
theorem ggJx4a65c_get_915e3_Jx4a65c_elementData_915e3 : GoodIn wsJx4a65c_get_915e3 wsJx4a65c_elementData_915e3 := goodIn_r _ [14, 15, 16, 17, 18] (by decide +kernel) (by decide +kernel)
set_option maxRecDepth 20000 in
theorem gJx4a65c_get_915e3_Jx4a65c_elementData_915e3 : GoodIn wsJx4a65c_get_915e3 (wsV RJx4a65c 123 RJx4a65c yJx4a65c_elementData_915e3 wsJx4a65c_elementData_915e3) := goodIn_app (goodIn_of _ (by decide +kernel)) ggJx4a65c_get_915e3_Jx4a65c_elementData_915e3
theorem dJx4a65c_get_915e3_0 : decode cJx4a65c_get_915e3 0 = .ok (.iload_n 1, 1) := by decide +kernel
theorem dJx4a65c_get_915e3_1 : decode cJx4a65c_get_915e3 1 = .ok (.aload_n 0, 1) := by decide +kernel
theorem dJx4a65c_get_915e3_2 : decode cJx4a65c_get_915e3 2 = .ok (.getfield 48, 3) := by decide +kernel
theorem dJx4a65c_get_915e3_5 : decode cJx4a65c_get_915e3 5 = .ok (.invokestatic 118, 3) := by decide +kernel
theorem dJx4a65c_get_915e3_8 : decode cJx4a65c_get_915e3 8 = .ok (.pop, 1) := by decide +kernel
theorem dJx4a65c_get_915e3_9 : decode cJx4a65c_get_915e3 9 = .ok (.aload_n 0, 1) := by decide +kernel
theorem dJx4a65c_get_915e3_10 : decode cJx4a65c_get_915e3 10 = .ok (.iload_n 1, 1) := by decide +kernel
theorem dJx4a65c_get_915e3_11 : decode cJx4a65c_get_915e3 11 = .ok (.invokevirtual 123, 3) := by decide +kernel
theorem dJx4a65c_get_915e3_14 : decode cJx4a65c_get_915e3 14 = .ok (.areturn, 1) := by decide +kernel
set_option maxRecDepth 20000 in
theorem ggJx4a65c_add_7a177_Jx4a65c_rangeCheckForAdd_d00df : GoodIn wsJx4a65c_add_7a177 wsJx4a65c_rangeCheckForAdd_d00df := goodIn_r _ [13, 3, 54, 55, 56] (by decide +kernel) (by decide +kernel)
set_option maxRecDepth 20000 in
theorem gJx4a65c_add_7a177_Jx4a65c_rangeCheckForAdd_d00df : GoodIn wsJx4a65c_add_7a177 (wsV RJx4a65c 135 RJx4a65c yJx4a65c_rangeCheckForAdd_d00df wsJx4a65c_rangeCheckForAdd_d00df) := goodIn_app (goodIn_of _ (by decide +kernel)) ggJx4a65c_add_7a177_Jx4a65c_rangeCheckForAdd_d00df
set_option maxRecDepth 20000 in
theorem ggJx4a65c_add_7a177_Jx4a65c_grow_d5877 : GoodIn wsJx4a65c_add_7a177 wsJx4a65c_grow_d5877 := goodIn_r _ [17, 3, 18, 19, 20, 12, 21, 4, 22, 23, 24, 25, 26, 27, 28, 29, 30, 31, 32, 33, 34, 35, 36, 37, 38, 39, 40, 41, 42, 43, 44, 45, 46, 47, 48, 49, 50, 51, 52, 53, 6, 7, 8, 54, 55, 56] (by decide +kernel) (by decide +kernel)
set_option maxRecDepth 20000 in
theorem gJx4a65c_add_7a177_Jx4a65c_grow_d5877 : GoodIn wsJx4a65c_add_7a177 (wsV RJx4a65c 129 RJx4a65c yJx4a65c_grow_d5877 wsJx4a65c_grow_d5877) := goodIn_app (goodIn_of _ (by decide +kernel)) ggJx4a65c_add_7a177_Jx4a65c_grow_d5877
theorem dJx4a65c_add_7a177_0 : decode cJx4a65c_add_7a177 0 = .ok (.aload_n 0, 1) := by decide +kernel
theorem dJx4a65c_add_7a177_1 : decode cJx4a65c_add_7a177 1 = .ok (.iload_n 1, 1) := by decide +kernel
theorem dJx4a65c_add_7a177_2 : decode cJx4a65c_add_7a177 2 = .ok (.invokevirtual 135, 3) := by decide +kernel
theorem dJx4a65c_add_7a177_5 : decode cJx4a65c_add_7a177 5 = .ok (.aload_n 0, 1) := by decide +kernel
theorem dJx4a65c_add_7a177_6 : decode cJx4a65c_add_7a177 6 = .ok (.dup, 1) := by decide +kernel
theorem dJx4a65c_add_7a177_7 : decode cJx4a65c_add_7a177 7 = .ok (.getfield 63, 3) := by decide +kernel
theorem dJx4a65c_add_7a177_10 : decode cJx4a65c_add_7a177 10 = .ok (.iconst 1, 1) := by decide +kernel
theorem dJx4a65c_add_7a177_11 : decode cJx4a65c_add_7a177 11 = .ok (.iadd, 1) := by decide +kernel
theorem dJx4a65c_add_7a177_12 : decode cJx4a65c_add_7a177 12 = .ok (.putfield 63, 3) := by decide +kernel
theorem dJx4a65c_add_7a177_15 : decode cJx4a65c_add_7a177 15 = .ok (.aload_n 0, 1) := by decide +kernel
theorem dJx4a65c_add_7a177_16 : decode cJx4a65c_add_7a177 16 = .ok (.getfield 48, 3) := by decide +kernel
theorem dJx4a65c_add_7a177_19 : decode cJx4a65c_add_7a177 19 = .ok (.dup, 1) := by decide +kernel
theorem dJx4a65c_add_7a177_20 : decode cJx4a65c_add_7a177 20 = .ok (.istore_n 3, 1) := by decide +kernel
theorem dJx4a65c_add_7a177_21 : decode cJx4a65c_add_7a177 21 = .ok (.aload_n 0, 1) := by decide +kernel
theorem dJx4a65c_add_7a177_22 : decode cJx4a65c_add_7a177 22 = .ok (.getfield 9, 3) := by decide +kernel
theorem dJx4a65c_add_7a177_25 : decode cJx4a65c_add_7a177 25 = .ok (.dup, 1) := by decide +kernel
theorem dJx4a65c_add_7a177_26 : decode cJx4a65c_add_7a177 26 = .ok (.astore 4, 2) := by decide +kernel
theorem dJx4a65c_add_7a177_28 : decode cJx4a65c_add_7a177 28 = .ok (.arraylength, 1) := by decide +kernel
theorem dJx4a65c_add_7a177_29 : decode cJx4a65c_add_7a177 29 = .ok (.if_icmp .ne 9, 3) := by decide +kernel
theorem dJx4a65c_add_7a177_32 : decode cJx4a65c_add_7a177 32 = .ok (.aload_n 0, 1) := by decide +kernel
theorem dJx4a65c_add_7a177_33 : decode cJx4a65c_add_7a177 33 = .ok (.invokevirtual 129, 3) := by decide +kernel
theorem dJx4a65c_add_7a177_36 : decode cJx4a65c_add_7a177 36 = .ok (.astore 4, 2) := by decide +kernel
theorem dJx4a65c_add_7a177_38 : decode cJx4a65c_add_7a177 38 = .ok (.aload 4, 2) := by decide +kernel
theorem dJx4a65c_add_7a177_40 : decode cJx4a65c_add_7a177 40 = .ok (.iload_n 1, 1) := by decide +kernel
theorem dJx4a65c_add_7a177_41 : decode cJx4a65c_add_7a177 41 = .ok (.aload 4, 2) := by decide +kernel
theorem dJx4a65c_add_7a177_43 : decode cJx4a65c_add_7a177 43 = .ok (.iload_n 1, 1) := by decide +kernel
theorem dJx4a65c_add_7a177_44 : decode cJx4a65c_add_7a177 44 = .ok (.iconst 1, 1) := by decide +kernel
theorem dJx4a65c_add_7a177_45 : decode cJx4a65c_add_7a177 45 = .ok (.iadd, 1) := by decide +kernel
theorem dJx4a65c_add_7a177_46 : decode cJx4a65c_add_7a177 46 = .ok (.iload_n 3, 1) := by decide +kernel
theorem dJx4a65c_add_7a177_47 : decode cJx4a65c_add_7a177 47 = .ok (.iload_n 1, 1) := by decide +kernel
theorem dJx4a65c_add_7a177_48 : decode cJx4a65c_add_7a177 48 = .ok (.isub, 1) := by decide +kernel
theorem dJx4a65c_add_7a177_49 : decode cJx4a65c_add_7a177 49 = .ok (.invokestatic 112, 3) := by decide +kernel
theorem dJx4a65c_add_7a177_52 : decode cJx4a65c_add_7a177 52 = .ok (.aload 4, 2) := by decide +kernel
theorem dJx4a65c_add_7a177_54 : decode cJx4a65c_add_7a177 54 = .ok (.iload_n 1, 1) := by decide +kernel
theorem dJx4a65c_add_7a177_55 : decode cJx4a65c_add_7a177 55 = .ok (.aload_n 2, 1) := by decide +kernel
theorem dJx4a65c_add_7a177_56 : decode cJx4a65c_add_7a177 56 = .ok (.aastore, 1) := by decide +kernel
theorem dJx4a65c_add_7a177_57 : decode cJx4a65c_add_7a177 57 = .ok (.aload_n 0, 1) := by decide +kernel
theorem dJx4a65c_add_7a177_58 : decode cJx4a65c_add_7a177 58 = .ok (.iload_n 3, 1) := by decide +kernel
theorem dJx4a65c_add_7a177_59 : decode cJx4a65c_add_7a177 59 = .ok (.iconst 1, 1) := by decide +kernel
theorem dJx4a65c_add_7a177_60 : decode cJx4a65c_add_7a177 60 = .ok (.iadd, 1) := by decide +kernel
theorem dJx4a65c_add_7a177_61 : decode cJx4a65c_add_7a177 61 = .ok (.putfield 48, 3) := by decide +kernel
theorem dJx4a65c_add_7a177_64 : decode cJx4a65c_add_7a177 64 = .ok (.return_, 1) := by decide +kernel
set_option maxRecDepth 20000 in
theorem ggJx4a65c_remove_915e3_J15_checkIndex_7cf53 : GoodIn wsJx4a65c_remove_915e3 wsJ15_checkIndex_7cf53 := goodIn_r _ [6, 7, 8, 9, 10] (by decide +kernel) (by decide +kernel)
set_option maxRecDepth 20000 in
theorem gJx4a65c_remove_915e3_J15_checkIndex_7cf53 : GoodIn wsJx4a65c_remove_915e3 (va_wsS RJx4a65c 118 yJ15_checkIndex_7cf53 wsJ15_checkIndex_7cf53) := goodIn_app (goodIn_of _ (by decide +kernel)) ggJx4a65c_remove_915e3_J15_checkIndex_7cf53
set_option maxRecDepth 20000 in
theorem ggJx4a65c_remove_915e3_Jx4a65c_fastRemove_b59b0 : GoodIn wsJx4a65c_remove_915e3 wsJx4a65c_fastRemove_b59b0 := goodIn_r _ [15, 16, 17, 1, 18, 19, 20, 21, 22, 23, 24] (by decide +kernel) (by decide +kernel)
set_option maxRecDepth 20000 in
theorem gJx4a65c_remove_915e3_Jx4a65c_fastRemove_b59b0 : GoodIn wsJx4a65c_remove_915e3 (wsV RJx4a65c 144 RJx4a65c yJx4a65c_fastRemove_b59b0 wsJx4a65c_fastRemove_b59b0) := goodIn_app (goodIn_of _ (by decide +kernel)) ggJx4a65c_remove_915e3_Jx4a65c_fastRemove_b59b0
theorem dJx4a65c_remove_915e3_0 : decode cJx4a65c_remove_915e3 0 = .ok (.iload_n 1, 1) := by decide +kernel
theorem dJx4a65c_remove_915e3_1 : decode cJx4a65c_remove_915e3 1 = .ok (.aload_n 0, 1) := by decide +kernel
theorem dJx4a65c_remove_915e3_2 : decode cJx4a65c_remove_915e3 2 = .ok (.getfield 48, 3) := by decide +kernel
theorem dJx4a65c_remove_915e3_5 : decode cJx4a65c_remove_915e3 5 = .ok (.invokestatic 118, 3) := by decide +kernel
theorem dJx4a65c_remove_915e3_8 : decode cJx4a65c_remove_915e3 8 = .ok (.pop, 1) := by decide +kernel
theorem dJx4a65c_remove_915e3_9 : decode cJx4a65c_remove_915e3 9 = .ok (.aload_n 0, 1) := by decide +kernel
theorem dJx4a65c_remove_915e3_10 : decode cJx4a65c_remove_915e3 10 = .ok (.getfield 9, 3) := by decide +kernel
theorem dJx4a65c_remove_915e3_13 : decode cJx4a65c_remove_915e3 13 = .ok (.astore_n 2, 1) := by decide +kernel
theorem dJx4a65c_remove_915e3_14 : decode cJx4a65c_remove_915e3 14 = .ok (.aload_n 2, 1) := by decide +kernel
theorem dJx4a65c_remove_915e3_15 : decode cJx4a65c_remove_915e3 15 = .ok (.iload_n 1, 1) := by decide +kernel
theorem dJx4a65c_remove_915e3_16 : decode cJx4a65c_remove_915e3 16 = .ok (.aaload, 1) := by decide +kernel
theorem dJx4a65c_remove_915e3_17 : decode cJx4a65c_remove_915e3 17 = .ok (.astore_n 3, 1) := by decide +kernel
theorem dJx4a65c_remove_915e3_18 : decode cJx4a65c_remove_915e3 18 = .ok (.aload_n 0, 1) := by decide +kernel
theorem dJx4a65c_remove_915e3_19 : decode cJx4a65c_remove_915e3 19 = .ok (.aload_n 2, 1) := by decide +kernel
theorem dJx4a65c_remove_915e3_20 : decode cJx4a65c_remove_915e3 20 = .ok (.iload_n 1, 1) := by decide +kernel
theorem dJx4a65c_remove_915e3_21 : decode cJx4a65c_remove_915e3 21 = .ok (.invokevirtual 144, 3) := by decide +kernel
theorem dJx4a65c_remove_915e3_24 : decode cJx4a65c_remove_915e3 24 = .ok (.aload_n 3, 1) := by decide +kernel
theorem dJx4a65c_remove_915e3_25 : decode cJx4a65c_remove_915e3 25 = .ok (.areturn, 1) := by decide +kernel
theorem dJx4a65c_fastRemove_b59b0_0 : decode cJx4a65c_fastRemove_b59b0 0 = .ok (.aload_n 0, 1) := by decide +kernel
theorem dJx4a65c_fastRemove_b59b0_1 : decode cJx4a65c_fastRemove_b59b0 1 = .ok (.dup, 1) := by decide +kernel
theorem dJx4a65c_fastRemove_b59b0_2 : decode cJx4a65c_fastRemove_b59b0 2 = .ok (.getfield 63, 3) := by decide +kernel
theorem dJx4a65c_fastRemove_b59b0_5 : decode cJx4a65c_fastRemove_b59b0 5 = .ok (.iconst 1, 1) := by decide +kernel
theorem dJx4a65c_fastRemove_b59b0_6 : decode cJx4a65c_fastRemove_b59b0 6 = .ok (.iadd, 1) := by decide +kernel
theorem dJx4a65c_fastRemove_b59b0_7 : decode cJx4a65c_fastRemove_b59b0 7 = .ok (.putfield 63, 3) := by decide +kernel
theorem dJx4a65c_fastRemove_b59b0_10 : decode cJx4a65c_fastRemove_b59b0 10 = .ok (.aload_n 0, 1) := by decide +kernel
theorem dJx4a65c_fastRemove_b59b0_11 : decode cJx4a65c_fastRemove_b59b0 11 = .ok (.getfield 48, 3) := by decide +kernel
theorem dJx4a65c_fastRemove_b59b0_14 : decode cJx4a65c_fastRemove_b59b0 14 = .ok (.iconst 1, 1) := by decide +kernel
theorem dJx4a65c_fastRemove_b59b0_15 : decode cJx4a65c_fastRemove_b59b0 15 = .ok (.isub, 1) := by decide +kernel
theorem dJx4a65c_fastRemove_b59b0_16 : decode cJx4a65c_fastRemove_b59b0 16 = .ok (.dup, 1) := by decide +kernel
theorem dJx4a65c_fastRemove_b59b0_17 : decode cJx4a65c_fastRemove_b59b0 17 = .ok (.istore_n 3, 1) := by decide +kernel
theorem dJx4a65c_fastRemove_b59b0_18 : decode cJx4a65c_fastRemove_b59b0 18 = .ok (.iload_n 2, 1) := by decide +kernel
theorem dJx4a65c_fastRemove_b59b0_19 : decode cJx4a65c_fastRemove_b59b0 19 = .ok (.if_icmp .le 15, 3) := by decide +kernel
theorem dJx4a65c_fastRemove_b59b0_22 : decode cJx4a65c_fastRemove_b59b0 22 = .ok (.aload_n 1, 1) := by decide +kernel
theorem dJx4a65c_fastRemove_b59b0_23 : decode cJx4a65c_fastRemove_b59b0 23 = .ok (.iload_n 2, 1) := by decide +kernel
theorem dJx4a65c_fastRemove_b59b0_24 : decode cJx4a65c_fastRemove_b59b0 24 = .ok (.iconst 1, 1) := by decide +kernel
theorem dJx4a65c_fastRemove_b59b0_25 : decode cJx4a65c_fastRemove_b59b0 25 = .ok (.iadd, 1) := by decide +kernel
theorem dJx4a65c_fastRemove_b59b0_26 : decode cJx4a65c_fastRemove_b59b0 26 = .ok (.aload_n 1, 1) := by decide +kernel
theorem dJx4a65c_fastRemove_b59b0_27 : decode cJx4a65c_fastRemove_b59b0 27 = .ok (.iload_n 2, 1) := by decide +kernel
theorem dJx4a65c_fastRemove_b59b0_28 : decode cJx4a65c_fastRemove_b59b0 28 = .ok (.iload_n 3, 1) := by decide +kernel
theorem dJx4a65c_fastRemove_b59b0_29 : decode cJx4a65c_fastRemove_b59b0 29 = .ok (.iload_n 2, 1) := by decide +kernel
theorem dJx4a65c_fastRemove_b59b0_30 : decode cJx4a65c_fastRemove_b59b0 30 = .ok (.isub, 1) := by decide +kernel
theorem dJx4a65c_fastRemove_b59b0_31 : decode cJx4a65c_fastRemove_b59b0 31 = .ok (.invokestatic 112, 3) := by decide +kernel
theorem dJx4a65c_fastRemove_b59b0_34 : decode cJx4a65c_fastRemove_b59b0 34 = .ok (.aload_n 1, 1) := by decide +kernel
theorem dJx4a65c_fastRemove_b59b0_35 : decode cJx4a65c_fastRemove_b59b0 35 = .ok (.aload_n 0, 1) := by decide +kernel
theorem dJx4a65c_fastRemove_b59b0_36 : decode cJx4a65c_fastRemove_b59b0 36 = .ok (.iload_n 3, 1) := by decide +kernel
theorem dJx4a65c_fastRemove_b59b0_37 : decode cJx4a65c_fastRemove_b59b0 37 = .ok (.dup_x1, 1) := by decide +kernel
theorem dJx4a65c_fastRemove_b59b0_38 : decode cJx4a65c_fastRemove_b59b0 38 = .ok (.putfield 48, 3) := by decide +kernel
theorem dJx4a65c_fastRemove_b59b0_41 : decode cJx4a65c_fastRemove_b59b0 41 = .ok (.aconst_null, 1) := by decide +kernel
theorem dJx4a65c_fastRemove_b59b0_42 : decode cJx4a65c_fastRemove_b59b0 42 = .ok (.aastore, 1) := by decide +kernel
theorem dJx4a65c_fastRemove_b59b0_43 : decode cJx4a65c_fastRemove_b59b0 43 = .ok (.return_, 1) := by decide +kernel
theorem dJx4a65c_rangeCheckForAdd_d00df_0 : decode cJx4a65c_rangeCheckForAdd_d00df 0 = .ok (.iload_n 1, 1) := by decide +kernel
theorem dJx4a65c_rangeCheckForAdd_d00df_1 : decode cJx4a65c_rangeCheckForAdd_d00df 1 = .ok (.aload_n 0, 1) := by decide +kernel
theorem dJx4a65c_rangeCheckForAdd_d00df_2 : decode cJx4a65c_rangeCheckForAdd_d00df 2 = .ok (.getfield 48, 3) := by decide +kernel
theorem dJx4a65c_rangeCheckForAdd_d00df_5 : decode cJx4a65c_rangeCheckForAdd_d00df 5 = .ok (.if_icmp .gt 7, 3) := by decide +kernel
theorem dJx4a65c_rangeCheckForAdd_d00df_8 : decode cJx4a65c_rangeCheckForAdd_d00df 8 = .ok (.iload_n 1, 1) := by decide +kernel
theorem dJx4a65c_rangeCheckForAdd_d00df_9 : decode cJx4a65c_rangeCheckForAdd_d00df 9 = .ok (.ifCond .ge 16, 3) := by decide +kernel
theorem dJx4a65c_rangeCheckForAdd_d00df_12 : decode cJx4a65c_rangeCheckForAdd_d00df 12 = .ok (.new 187, 3) := by decide +kernel
theorem dJx4a65c_rangeCheckForAdd_d00df_15 : decode cJx4a65c_rangeCheckForAdd_d00df 15 = .ok (.dup, 1) := by decide +kernel
theorem dJx4a65c_rangeCheckForAdd_d00df_16 : decode cJx4a65c_rangeCheckForAdd_d00df 16 = .ok (.aload_n 0, 1) := by decide +kernel
theorem dJx4a65c_rangeCheckForAdd_d00df_17 : decode cJx4a65c_rangeCheckForAdd_d00df 17 = .ok (.iload_n 1, 1) := by decide +kernel
theorem dJx4a65c_rangeCheckForAdd_d00df_18 : decode cJx4a65c_rangeCheckForAdd_d00df 18 = .ok (.invokevirtual 198, 3) := by decide +kernel
theorem dJx4a65c_rangeCheckForAdd_d00df_21 : decode cJx4a65c_rangeCheckForAdd_d00df 21 = .ok (.invokespecial 193, 3) := by decide +kernel
theorem dJx4a65c_rangeCheckForAdd_d00df_24 : decode cJx4a65c_rangeCheckForAdd_d00df 24 = .ok (.athrow, 1) := by decide +kernel
theorem dJx4a65c_rangeCheckForAdd_d00df_25 : decode cJx4a65c_rangeCheckForAdd_d00df 25 = .ok (.return_, 1) := by decide +kernel
theorem dJ7_fill_53178_0 : decode cJ7_fill_53178 0 = .ok (.iconst 0, 1) := by decide +kernel
theorem dJ7_fill_53178_1 : decode cJ7_fill_53178 1 = .ok (.istore_n 2, 1) := by decide +kernel
theorem dJ7_fill_53178_2 : decode cJ7_fill_53178 2 = .ok (.aload_n 0, 1) := by decide +kernel
theorem dJ7_fill_53178_3 : decode cJ7_fill_53178 3 = .ok (.arraylength, 1) := by decide +kernel
theorem dJ7_fill_53178_4 : decode cJ7_fill_53178 4 = .ok (.istore_n 3, 1) := by decide +kernel
theorem dJ7_fill_53178_5 : decode cJ7_fill_53178 5 = .ok (.iload_n 2, 1) := by decide +kernel
theorem dJ7_fill_53178_6 : decode cJ7_fill_53178 6 = .ok (.iload_n 3, 1) := by decide +kernel
theorem dJ7_fill_53178_7 : decode cJ7_fill_53178 7 = .ok (.if_icmp .ge 13, 3) := by decide +kernel
theorem dJ7_fill_53178_10 : decode cJ7_fill_53178 10 = .ok (.aload_n 0, 1) := by decide +kernel
theorem dJ7_fill_53178_11 : decode cJ7_fill_53178 11 = .ok (.iload_n 2, 1) := by decide +kernel
theorem dJ7_fill_53178_12 : decode cJ7_fill_53178 12 = .ok (.iload_n 1, 1) := by decide +kernel
theorem dJ7_fill_53178_13 : decode cJ7_fill_53178 13 = .ok (.iastore, 1) := by decide +kernel
theorem dJ7_fill_53178_14 : decode cJ7_fill_53178 14 = .ok (.iinc 2 1, 3) := by decide +kernel
theorem dJ7_fill_53178_17 : decode cJ7_fill_53178 17 = .ok (.goto (-12), 3) := by decide +kernel
theorem dJ7_fill_53178_20 : decode cJ7_fill_53178 20 = .ok (.return_, 1) := by decide +kernel
set_option maxRecDepth 20000 in
theorem ggJ7_copyOf_1904c_J7_copyOf_6403c : GoodIn wsJ7_copyOf_1904c wsJ7_copyOf_6403c := goodIn_r _ [8, 9, 10, 11, 12, 13, 14, 15, 16, 17, 18] (by decide +kernel) (by decide +kernel)
set_option maxRecDepth 20000 in
theorem gJ7_copyOf_1904c_J7_copyOf_6403c : GoodIn wsJ7_copyOf_1904c (va_wsS RJ7 300 yJ7_copyOf_6403c wsJ7_copyOf_6403c) := goodIn_app (goodIn_of _ (by decide +kernel)) ggJ7_copyOf_1904c_J7_copyOf_6403c
theorem dJ7_copyOf_1904c_0 : decode cJ7_copyOf_1904c 0 = .ok (.aload_n 0, 1) := by decide +kernel
theorem dJ7_copyOf_1904c_1 : decode cJ7_copyOf_1904c 1 = .ok (.iload_n 1, 1) := by decide +kernel
theorem dJ7_copyOf_1904c_2 : decode cJ7_copyOf_1904c 2 = .ok (.aload_n 0, 1) := by decide +kernel
theorem dJ7_copyOf_1904c_3 : decode cJ7_copyOf_1904c 3 = .ok (.invokevirtual 86, 3) := by decide +kernel
theorem dJ7_copyOf_1904c_6 : decode cJ7_copyOf_1904c 6 = .ok (.invokestatic 300, 3) := by decide +kernel
theorem dJ7_copyOf_1904c_9 : decode cJ7_copyOf_1904c 9 = .ok (.areturn, 1) := by decide +kernel
theorem dJ7_copyOf_6403c_0 : decode cJ7_copyOf_6403c 0 = .ok (.aload_n 2, 1) := by decide +kernel
theorem dJ7_copyOf_6403c_1 : decode cJ7_copyOf_6403c 1 = .ok (.ldc 110, 2) := by decide +kernel
theorem dJ7_copyOf_6403c_3 : decode cJ7_copyOf_6403c 3 = .ok (.if_acmp .ne 10, 3) := by decide +kernel
theorem dJ7_copyOf_6403c_6 : decode cJ7_copyOf_6403c 6 = .ok (.iload_n 1, 1) := by decide +kernel
theorem dJ7_copyOf_6403c_7 : decode cJ7_copyOf_6403c 7 = .ok (.anewarray 2, 3) := by decide +kernel
theorem dJ7_copyOf_6403c_10 : decode cJ7_copyOf_6403c 10 = .ok (.goto 14, 3) := by decide +kernel
theorem dJ7_copyOf_6403c_13 : decode cJ7_copyOf_6403c 13 = .ok (.aload_n 2, 1) := by decide +kernel
theorem dJ7_copyOf_6403c_14 : decode cJ7_copyOf_6403c 14 = .ok (.invokevirtual 90, 3) := by decide +kernel
theorem dJ7_copyOf_6403c_17 : decode cJ7_copyOf_6403c 17 = .ok (.iload_n 1, 1) := by decide +kernel
theorem dJ7_copyOf_6403c_18 : decode cJ7_copyOf_6403c 18 = .ok (.invokestatic 95, 3) := by decide +kernel
theorem dJ7_copyOf_6403c_21 : decode cJ7_copyOf_6403c 21 = .ok (.checkcast 110, 3) := by decide +kernel
theorem dJ7_copyOf_6403c_24 : decode cJ7_copyOf_6403c 24 = .ok (.astore_n 3, 1) := by decide +kernel
theorem dJ7_copyOf_6403c_25 : decode cJ7_copyOf_6403c 25 = .ok (.aload_n 0, 1) := by decide +kernel
theorem dJ7_copyOf_6403c_26 : decode cJ7_copyOf_6403c 26 = .ok (.iconst 0, 1) := by decide +kernel
theorem dJ7_copyOf_6403c_27 : decode cJ7_copyOf_6403c 27 = .ok (.aload_n 3, 1) := by decide +kernel
theorem dJ7_copyOf_6403c_28 : decode cJ7_copyOf_6403c 28 = .ok (.iconst 0, 1) := by decide +kernel
theorem dJ7_copyOf_6403c_29 : decode cJ7_copyOf_6403c 29 = .ok (.aload_n 0, 1) := by decide +kernel
theorem dJ7_copyOf_6403c_30 : decode cJ7_copyOf_6403c 30 = .ok (.arraylength, 1) := by decide +kernel
theorem dJ7_copyOf_6403c_31 : decode cJ7_copyOf_6403c 31 = .ok (.iload_n 1, 1) := by decide +kernel
theorem dJ7_copyOf_6403c_32 : decode cJ7_copyOf_6403c 32 = .ok (.invokestatic 304, 3) := by decide +kernel
theorem dJ7_copyOf_6403c_35 : decode cJ7_copyOf_6403c 35 = .ok (.invokestatic 150, 3) := by decide +kernel
theorem dJ7_copyOf_6403c_38 : decode cJ7_copyOf_6403c 38 = .ok (.aload_n 3, 1) := by decide +kernel
theorem dJ7_copyOf_6403c_39 : decode cJ7_copyOf_6403c 39 = .ok (.areturn, 1) := by decide +kernel
set_option maxRecDepth 20000 in
theorem ggJ15_checkIndex_7cf53_J3_checkIndex_8e157 : GoodIn wsJ15_checkIndex_7cf53 wsJ3_checkIndex_8e157 := goodIn_r _ [4] (by decide +kernel) (by decide +kernel)
set_option maxRecDepth 20000 in
theorem gJ15_checkIndex_7cf53_J3_checkIndex_8e157 : GoodIn wsJ15_checkIndex_7cf53 (va_wsS RJ15 105 yJ3_checkIndex_8e157 wsJ3_checkIndex_8e157) := goodIn_app (goodIn_of _ (by decide +kernel)) ggJ15_checkIndex_7cf53_J3_checkIndex_8e157
theorem dJ15_checkIndex_7cf53_0 : decode cJ15_checkIndex_7cf53 0 = .ok (.iload_n 0, 1) := by decide +kernel
theorem dJ15_checkIndex_7cf53_1 : decode cJ15_checkIndex_7cf53 1 = .ok (.iload_n 1, 1) := by decide +kernel
theorem dJ15_checkIndex_7cf53_2 : decode cJ15_checkIndex_7cf53 2 = .ok (.aconst_null, 1) := by decide +kernel
theorem dJ15_checkIndex_7cf53_3 : decode cJ15_checkIndex_7cf53 3 = .ok (.invokestatic 105, 3) := by decide +kernel
theorem dJ15_checkIndex_7cf53_6 : decode cJ15_checkIndex_7cf53 6 = .ok (.ireturn, 1) := by decide +kernel
set_option maxRecDepth 20000 in
theorem ggJ8_newLength_cabcc_J8_hugeLength_7cf53 : GoodIn wsJ8_newLength_cabcc wsJ8_hugeLength_7cf53 := goodIn_r _ [9, 5] (by decide +kernel) (by decide +kernel)
set_option maxRecDepth 20000 in
theorem gJ8_newLength_cabcc_J8_hugeLength_7cf53 : GoodIn wsJ8_newLength_cabcc (va_wsS RJ8 201 yJ8_hugeLength_7cf53 wsJ8_hugeLength_7cf53) := goodIn_app (goodIn_of _ (by decide +kernel)) ggJ8_newLength_cabcc_J8_hugeLength_7cf53
theorem dJ8_newLength_cabcc_0 : decode cJ8_newLength_cabcc 0 = .ok (.iload_n 0, 1) := by decide +kernel
theorem dJ8_newLength_cabcc_1 : decode cJ8_newLength_cabcc 1 = .ok (.iload_n 1, 1) := by decide +kernel
theorem dJ8_newLength_cabcc_2 : decode cJ8_newLength_cabcc 2 = .ok (.iload_n 2, 1) := by decide +kernel
theorem dJ8_newLength_cabcc_3 : decode cJ8_newLength_cabcc 3 = .ok (.invokestatic 194, 3) := by decide +kernel
theorem dJ8_newLength_cabcc_6 : decode cJ8_newLength_cabcc 6 = .ok (.iadd, 1) := by decide +kernel
theorem dJ8_newLength_cabcc_7 : decode cJ8_newLength_cabcc 7 = .ok (.istore_n 3, 1) := by decide +kernel
theorem dJ8_newLength_cabcc_8 : decode cJ8_newLength_cabcc 8 = .ok (.iconst 0, 1) := by decide +kernel
theorem dJ8_newLength_cabcc_9 : decode cJ8_newLength_cabcc 9 = .ok (.iload_n 3, 1) := by decide +kernel
theorem dJ8_newLength_cabcc_10 : decode cJ8_newLength_cabcc 10 = .ok (.if_icmp .ge 11, 3) := by decide +kernel
theorem dJ8_newLength_cabcc_13 : decode cJ8_newLength_cabcc 13 = .ok (.iload_n 3, 1) := by decide +kernel
theorem dJ8_newLength_cabcc_14 : decode cJ8_newLength_cabcc 14 = .ok (.ldc 200, 2) := by decide +kernel
theorem dJ8_newLength_cabcc_16 : decode cJ8_newLength_cabcc 16 = .ok (.if_icmp .gt 5, 3) := by decide +kernel
theorem dJ8_newLength_cabcc_19 : decode cJ8_newLength_cabcc 19 = .ok (.iload_n 3, 1) := by decide +kernel
theorem dJ8_newLength_cabcc_20 : decode cJ8_newLength_cabcc 20 = .ok (.ireturn, 1) := by decide +kernel
theorem dJ8_newLength_cabcc_21 : decode cJ8_newLength_cabcc 21 = .ok (.iload_n 0, 1) := by decide +kernel
theorem dJ8_newLength_cabcc_22 : decode cJ8_newLength_cabcc 22 = .ok (.iload_n 1, 1) := by decide +kernel
theorem dJ8_newLength_cabcc_23 : decode cJ8_newLength_cabcc 23 = .ok (.invokestatic 201, 3) := by decide +kernel
theorem dJ8_newLength_cabcc_26 : decode cJ8_newLength_cabcc 26 = .ok (.ireturn, 1) := by decide +kernel
theorem dJ8_hugeLength_7cf53_0 : decode cJ8_hugeLength_7cf53 0 = .ok (.iload_n 0, 1) := by decide +kernel
theorem dJ8_hugeLength_7cf53_1 : decode cJ8_hugeLength_7cf53 1 = .ok (.iload_n 1, 1) := by decide +kernel
theorem dJ8_hugeLength_7cf53_2 : decode cJ8_hugeLength_7cf53 2 = .ok (.iadd, 1) := by decide +kernel
theorem dJ8_hugeLength_7cf53_3 : decode cJ8_hugeLength_7cf53 3 = .ok (.istore_n 2, 1) := by decide +kernel
theorem dJ8_hugeLength_7cf53_4 : decode cJ8_hugeLength_7cf53 4 = .ok (.iload_n 2, 1) := by decide +kernel
theorem dJ8_hugeLength_7cf53_5 : decode cJ8_hugeLength_7cf53 5 = .ok (.ifCond .ge 44, 3) := by decide +kernel
theorem dJ8_hugeLength_7cf53_8 : decode cJ8_hugeLength_7cf53 8 = .ok (.new 204, 3) := by decide +kernel
theorem dJ8_hugeLength_7cf53_11 : decode cJ8_hugeLength_7cf53 11 = .ok (.dup, 1) := by decide +kernel
theorem dJ8_hugeLength_7cf53_12 : decode cJ8_hugeLength_7cf53 12 = .ok (.new 89, 3) := by decide +kernel
theorem dJ8_hugeLength_7cf53_15 : decode cJ8_hugeLength_7cf53 15 = .ok (.dup, 1) := by decide +kernel
theorem dJ8_hugeLength_7cf53_16 : decode cJ8_hugeLength_7cf53 16 = .ok (.invokespecial 91, 3) := by decide +kernel
theorem dJ8_hugeLength_7cf53_19 : decode cJ8_hugeLength_7cf53 19 = .ok (.ldc 206, 2) := by decide +kernel
theorem dJ8_hugeLength_7cf53_21 : decode cJ8_hugeLength_7cf53 21 = .ok (.invokevirtual 94, 3) := by decide +kernel
theorem dJ8_hugeLength_7cf53_24 : decode cJ8_hugeLength_7cf53 24 = .ok (.iload_n 0, 1) := by decide +kernel
theorem dJ8_hugeLength_7cf53_25 : decode cJ8_hugeLength_7cf53 25 = .ok (.invokevirtual 98, 3) := by decide +kernel
theorem dJ8_hugeLength_7cf53_28 : decode cJ8_hugeLength_7cf53 28 = .ok (.ldc 208, 2) := by decide +kernel
theorem dJ8_hugeLength_7cf53_30 : decode cJ8_hugeLength_7cf53 30 = .ok (.invokevirtual 94, 3) := by decide +kernel
theorem dJ8_hugeLength_7cf53_33 : decode cJ8_hugeLength_7cf53 33 = .ok (.iload_n 1, 1) := by decide +kernel
theorem dJ8_hugeLength_7cf53_34 : decode cJ8_hugeLength_7cf53 34 = .ok (.invokevirtual 98, 3) := by decide +kernel
theorem dJ8_hugeLength_7cf53_37 : decode cJ8_hugeLength_7cf53 37 = .ok (.ldc 210, 2) := by decide +kernel
theorem dJ8_hugeLength_7cf53_39 : decode cJ8_hugeLength_7cf53 39 = .ok (.invokevirtual 94, 3) := by decide +kernel
theorem dJ8_hugeLength_7cf53_42 : decode cJ8_hugeLength_7cf53 42 = .ok (.invokevirtual 101, 3) := by decide +kernel
theorem dJ8_hugeLength_7cf53_45 : decode cJ8_hugeLength_7cf53 45 = .ok (.invokespecial 212, 3) := by decide +kernel
theorem dJ8_hugeLength_7cf53_48 : decode cJ8_hugeLength_7cf53 48 = .ok (.athrow, 1) := by decide +kernel
theorem dJ8_hugeLength_7cf53_49 : decode cJ8_hugeLength_7cf53 49 = .ok (.iload_n 2, 1) := by decide +kernel
theorem dJ8_hugeLength_7cf53_50 : decode cJ8_hugeLength_7cf53 50 = .ok (.ldc 200, 2) := by decide +kernel
theorem dJ8_hugeLength_7cf53_52 : decode cJ8_hugeLength_7cf53 52 = .ok (.if_icmp .gt 6, 3) := by decide +kernel
theorem dJ8_hugeLength_7cf53_55 : decode cJ8_hugeLength_7cf53 55 = .ok (.ldc 200, 2) := by decide +kernel
theorem dJ8_hugeLength_7cf53_57 : decode cJ8_hugeLength_7cf53 57 = .ok (.ireturn, 1) := by decide +kernel
theorem dJ8_hugeLength_7cf53_58 : decode cJ8_hugeLength_7cf53 58 = .ok (.iload_n 2, 1) := by decide +kernel
theorem dJ8_hugeLength_7cf53_59 : decode cJ8_hugeLength_7cf53 59 = .ok (.ireturn, 1) := by decide +kernel
theorem dJ3_checkIndex_8e157_0 : decode cJ3_checkIndex_8e157 0 = .ok (.iload_n 0, 1) := by decide +kernel
theorem dJ3_checkIndex_8e157_1 : decode cJ3_checkIndex_8e157 1 = .ok (.ifCond .lt 8, 3) := by decide +kernel
theorem dJ3_checkIndex_8e157_4 : decode cJ3_checkIndex_8e157 4 = .ok (.iload_n 0, 1) := by decide +kernel
theorem dJ3_checkIndex_8e157_5 : decode cJ3_checkIndex_8e157 5 = .ok (.iload_n 1, 1) := by decide +kernel
theorem dJ3_checkIndex_8e157_6 : decode cJ3_checkIndex_8e157 6 = .ok (.if_icmp .lt 10, 3) := by decide +kernel
theorem dJ3_checkIndex_8e157_9 : decode cJ3_checkIndex_8e157 9 = .ok (.aload_n 2, 1) := by decide +kernel
theorem dJ3_checkIndex_8e157_10 : decode cJ3_checkIndex_8e157 10 = .ok (.iload_n 0, 1) := by decide +kernel
theorem dJ3_checkIndex_8e157_11 : decode cJ3_checkIndex_8e157 11 = .ok (.iload_n 1, 1) := by decide +kernel
theorem dJ3_checkIndex_8e157_12 : decode cJ3_checkIndex_8e157 12 = .ok (.invokestatic 95, 3) := by decide +kernel
theorem dJ3_checkIndex_8e157_15 : decode cJ3_checkIndex_8e157 15 = .ok (.athrow, 1) := by decide +kernel
theorem dJ3_checkIndex_8e157_16 : decode cJ3_checkIndex_8e157 16 = .ok (.iload_n 0, 1) := by decide +kernel
theorem dJ3_checkIndex_8e157_17 : decode cJ3_checkIndex_8e157 17 = .ok (.ireturn, 1) := by decide +kernel
set_option maxRecDepth 20000 in
theorem ggL_subject_X1_subject : GoodIn wsL_subject wsX1_subject := goodIn_ca (goodIn_r _ [6, 7, 8, 9, 5, 10, 11, 12, 13, 14, 15, 16, 17, 18, 19, 20, 21, 22, 23] (by decide +kernel) (by decide +kernel)) (goodIn_sub (fun _ h => List.mem_cons_of_mem _ (List.mem_append_right _ h)) (by decide +kernel))
set_option maxRecDepth 20000 in
theorem gL_subject_X1_subject : GoodIn wsL_subject (wsV RL 7 RX1 yX1_subject wsX1_subject) := goodIn_app (goodIn_of _ (by decide +kernel)) ggL_subject_X1_subject
