theorem dX0_init_0 : decode cX0_init 0 = .ok (.aload_n 0, 1) := by decide +kernel
theorem dX0_init_1 : decode cX0_init 1 = .ok (.invokespecial 3, 3) := by decide +kernel
theorem dX0_init_4 : decode cX0_init 4 = .ok (.aload_n 0, 1) := by decide +kernel
theorem dX0_init_5 : decode cX0_init 5 = .ok (.bipush 24, 2) := by decide +kernel
theorem dX0_init_7 : decode cX0_init 7 = .ok (.newarray .int, 2) := by decide +kernel
theorem dX0_init_9 : decode cX0_init 9 = .ok (.putfield 9, 3) := by decide +kernel
theorem dX0_init_12 : decode cX0_init 12 = .ok (.aload_n 0, 1) := by decide +kernel
theorem dX0_init_13 : decode cX0_init 13 = .ok (.iconst 0, 1) := by decide +kernel
theorem dX0_init_14 : decode cX0_init 14 = .ok (.putfield 15, 3) := by decide +kernel
theorem dX0_init_17 : decode cX0_init 17 = .ok (.aload_n 0, 1) := by decide +kernel
theorem dX0_init_18 : decode cX0_init 18 = .ok (.iconst 0, 1) := by decide +kernel
theorem dX0_init_19 : decode cX0_init 19 = .ok (.putfield 19, 3) := by decide +kernel
theorem dX0_init_22 : decode cX0_init 22 = .ok (.aload_n 0, 1) := by decide +kernel
theorem dX0_init_23 : decode cX0_init 23 = .ok (.iload_n 1, 1) := by decide +kernel
theorem dX0_init_24 : decode cX0_init 24 = .ok (.putfield 22, 3) := by decide +kernel
theorem dX0_init_27 : decode cX0_init 27 = .ok (.aload_n 0, 1) := by decide +kernel
theorem dX0_init_28 : decode cX0_init 28 = .ok (.iload_n 2, 1) := by decide +kernel
theorem dX0_init_29 : decode cX0_init 29 = .ok (.putfield 25, 3) := by decide +kernel
theorem dX0_init_32 : decode cX0_init 32 = .ok (.aload_n 0, 1) := by decide +kernel
theorem dX0_init_33 : decode cX0_init 33 = .ok (.iload_n 3, 1) := by decide +kernel
theorem dX0_init_34 : decode cX0_init 34 = .ok (.putfield 28, 3) := by decide +kernel
theorem dX0_init_37 : decode cX0_init 37 = .ok (.return_, 1) := by decide +kernel
set_option maxRecDepth 20000 in
theorem ggX0_use_J6_bitCount_0f7a4 : GoodIn wsX0_use wsJ6_bitCount_0f7a4 := goodIn_r _ [7, 8, 9, 10] (by decide +kernel) (by decide +kernel)
set_option maxRecDepth 20000 in
theorem gX0_use_J6_bitCount_0f7a4 : GoodIn wsX0_use (va_wsS RX0 32 yJ6_bitCount_0f7a4 wsJ6_bitCount_0f7a4) := goodIn_app (goodIn_of _ (by decide +kernel)) ggX0_use_J6_bitCount_0f7a4
theorem dX0_use_0 : decode cX0_use 0 = .ok (.aload_n 0, 1) := by decide +kernel
theorem dX0_use_1 : decode cX0_use 1 = .ok (.getfield 28, 3) := by decide +kernel
theorem dX0_use_4 : decode cX0_use 4 = .ok (.ifCond .eq 7, 3) := by decide +kernel
theorem dX0_use_7 : decode cX0_use 7 = .ok (.iconst 0, 1) := by decide +kernel
theorem dX0_use_8 : decode cX0_use 8 = .ok (.goto 4, 3) := by decide +kernel
theorem dX0_use_11 : decode cX0_use 11 = .ok (.iconst 1, 1) := by decide +kernel
theorem dX0_use_12 : decode cX0_use 12 = .ok (.aload_n 0, 1) := by decide +kernel
theorem dX0_use_13 : decode cX0_use 13 = .ok (.getfield 15, 3) := by decide +kernel
theorem dX0_use_16 : decode cX0_use 16 = .ok (.iadd, 1) := by decide +kernel
theorem dX0_use_17 : decode cX0_use 17 = .ok (.aload_n 0, 1) := by decide +kernel
theorem dX0_use_18 : decode cX0_use 18 = .ok (.getfield 19, 3) := by decide +kernel
theorem dX0_use_21 : decode cX0_use 21 = .ok (.invokestatic 32, 3) := by decide +kernel
theorem dX0_use_24 : decode cX0_use 24 = .ok (.isub, 1) := by decide +kernel
theorem dX0_use_25 : decode cX0_use 25 = .ok (.ireturn, 1) := by decide +kernel
theorem dX0_append_0 : decode cX0_append 0 = .ok (.aload_n 0, 1) := by decide +kernel
theorem dX0_append_1 : decode cX0_append 1 = .ok (.getfield 15, 3) := by decide +kernel
theorem dX0_append_4 : decode cX0_append 4 = .ok (.bipush 24, 2) := by decide +kernel
theorem dX0_append_6 : decode cX0_append 6 = .ok (.if_icmp .lt 4, 3) := by decide +kernel
theorem dX0_append_9 : decode cX0_append 9 = .ok (.return_, 1) := by decide +kernel
theorem dX0_append_10 : decode cX0_append 10 = .ok (.aload_n 0, 1) := by decide +kernel
theorem dX0_append_11 : decode cX0_append 11 = .ok (.getfield 9, 3) := by decide +kernel
theorem dX0_append_14 : decode cX0_append 14 = .ok (.aload_n 0, 1) := by decide +kernel
theorem dX0_append_15 : decode cX0_append 15 = .ok (.getfield 15, 3) := by decide +kernel
theorem dX0_append_18 : decode cX0_append 18 = .ok (.iload_n 1, 1) := by decide +kernel
theorem dX0_append_19 : decode cX0_append 19 = .ok (.iastore, 1) := by decide +kernel
theorem dX0_append_20 : decode cX0_append 20 = .ok (.iload_n 2, 1) := by decide +kernel
theorem dX0_append_21 : decode cX0_append 21 = .ok (.ifCond .eq 18, 3) := by decide +kernel
theorem dX0_append_24 : decode cX0_append 24 = .ok (.aload_n 0, 1) := by decide +kernel
theorem dX0_append_25 : decode cX0_append 25 = .ok (.dup, 1) := by decide +kernel
theorem dX0_append_26 : decode cX0_append 26 = .ok (.getfield 19, 3) := by decide +kernel
theorem dX0_append_29 : decode cX0_append 29 = .ok (.iconst 1, 1) := by decide +kernel
theorem dX0_append_30 : decode cX0_append 30 = .ok (.aload_n 0, 1) := by decide +kernel
theorem dX0_append_31 : decode cX0_append 31 = .ok (.getfield 15, 3) := by decide +kernel
theorem dX0_append_34 : decode cX0_append 34 = .ok (.ishl, 1) := by decide +kernel
theorem dX0_append_35 : decode cX0_append 35 = .ok (.ior, 1) := by decide +kernel
theorem dX0_append_36 : decode cX0_append 36 = .ok (.putfield 19, 3) := by decide +kernel
theorem dX0_append_39 : decode cX0_append 39 = .ok (.aload_n 0, 1) := by decide +kernel
theorem dX0_append_40 : decode cX0_append 40 = .ok (.dup, 1) := by decide +kernel
theorem dX0_append_41 : decode cX0_append 41 = .ok (.getfield 15, 3) := by decide +kernel
theorem dX0_append_44 : decode cX0_append 44 = .ok (.iconst 1, 1) := by decide +kernel
theorem dX0_append_45 : decode cX0_append 45 = .ok (.iadd, 1) := by decide +kernel
theorem dX0_append_46 : decode cX0_append 46 = .ok (.putfield 15, 3) := by decide +kernel
theorem dX0_append_49 : decode cX0_append 49 = .ok (.return_, 1) := by decide +kernel
theorem dX0_cutTo_0 : decode cX0_cutTo 0 = .ok (.iload_n 1, 1) := by decide +kernel
theorem dX0_cutTo_1 : decode cX0_cutTo 1 = .ok (.aload_n 0, 1) := by decide +kernel
theorem dX0_cutTo_2 : decode cX0_cutTo 2 = .ok (.getfield 15, 3) := by decide +kernel
theorem dX0_cutTo_5 : decode cX0_cutTo 5 = .ok (.if_icmp .lt 5, 3) := by decide +kernel
theorem dX0_cutTo_8 : decode cX0_cutTo 8 = .ok (.iconst 0, 1) := by decide +kernel
theorem dX0_cutTo_9 : decode cX0_cutTo 9 = .ok (.ireturn, 1) := by decide +kernel
theorem dX0_cutTo_10 : decode cX0_cutTo 10 = .ok (.aload_n 0, 1) := by decide +kernel
theorem dX0_cutTo_11 : decode cX0_cutTo 11 = .ok (.getfield 15, 3) := by decide +kernel
theorem dX0_cutTo_14 : decode cX0_cutTo 14 = .ok (.iload_n 1, 1) := by decide +kernel
theorem dX0_cutTo_15 : decode cX0_cutTo 15 = .ok (.isub, 1) := by decide +kernel
theorem dX0_cutTo_16 : decode cX0_cutTo 16 = .ok (.istore_n 2, 1) := by decide +kernel
theorem dX0_cutTo_17 : decode cX0_cutTo 17 = .ok (.aload_n 0, 1) := by decide +kernel
theorem dX0_cutTo_18 : decode cX0_cutTo 18 = .ok (.iload_n 1, 1) := by decide +kernel
theorem dX0_cutTo_19 : decode cX0_cutTo 19 = .ok (.putfield 15, 3) := by decide +kernel
theorem dX0_cutTo_22 : decode cX0_cutTo 22 = .ok (.aload_n 0, 1) := by decide +kernel
theorem dX0_cutTo_23 : decode cX0_cutTo 23 = .ok (.dup, 1) := by decide +kernel
theorem dX0_cutTo_24 : decode cX0_cutTo 24 = .ok (.getfield 19, 3) := by decide +kernel
theorem dX0_cutTo_27 : decode cX0_cutTo 27 = .ok (.iconst 1, 1) := by decide +kernel
theorem dX0_cutTo_28 : decode cX0_cutTo 28 = .ok (.iload_n 1, 1) := by decide +kernel
theorem dX0_cutTo_29 : decode cX0_cutTo 29 = .ok (.ishl, 1) := by decide +kernel
theorem dX0_cutTo_30 : decode cX0_cutTo 30 = .ok (.iconst 1, 1) := by decide +kernel
theorem dX0_cutTo_31 : decode cX0_cutTo 31 = .ok (.isub, 1) := by decide +kernel
theorem dX0_cutTo_32 : decode cX0_cutTo 32 = .ok (.iand, 1) := by decide +kernel
theorem dX0_cutTo_33 : decode cX0_cutTo 33 = .ok (.putfield 19, 3) := by decide +kernel
theorem dX0_cutTo_36 : decode cX0_cutTo 36 = .ok (.iload_n 2, 1) := by decide +kernel
theorem dX0_cutTo_37 : decode cX0_cutTo 37 = .ok (.ireturn, 1) := by decide +kernel
theorem dX0_becomeCopyOf_0 : decode cX0_becomeCopyOf 0 = .ok (.aload_n 1, 1) := by decide +kernel
theorem dX0_becomeCopyOf_1 : decode cX0_becomeCopyOf 1 = .ok (.getfield 9, 3) := by decide +kernel
theorem dX0_becomeCopyOf_4 : decode cX0_becomeCopyOf 4 = .ok (.iconst 0, 1) := by decide +kernel
theorem dX0_becomeCopyOf_5 : decode cX0_becomeCopyOf 5 = .ok (.aload_n 0, 1) := by decide +kernel
theorem dX0_becomeCopyOf_6 : decode cX0_becomeCopyOf 6 = .ok (.getfield 9, 3) := by decide +kernel
theorem dX0_becomeCopyOf_9 : decode cX0_becomeCopyOf 9 = .ok (.iconst 0, 1) := by decide +kernel
theorem dX0_becomeCopyOf_10 : decode cX0_becomeCopyOf 10 = .ok (.aload_n 1, 1) := by decide +kernel
theorem dX0_becomeCopyOf_11 : decode cX0_becomeCopyOf 11 = .ok (.getfield 15, 3) := by decide +kernel
theorem dX0_becomeCopyOf_14 : decode cX0_becomeCopyOf 14 = .ok (.invokestatic 38, 3) := by decide +kernel
theorem dX0_becomeCopyOf_17 : decode cX0_becomeCopyOf 17 = .ok (.aload_n 0, 1) := by decide +kernel
theorem dX0_becomeCopyOf_18 : decode cX0_becomeCopyOf 18 = .ok (.aload_n 1, 1) := by decide +kernel
theorem dX0_becomeCopyOf_19 : decode cX0_becomeCopyOf 19 = .ok (.getfield 15, 3) := by decide +kernel
theorem dX0_becomeCopyOf_22 : decode cX0_becomeCopyOf 22 = .ok (.putfield 15, 3) := by decide +kernel
theorem dX0_becomeCopyOf_25 : decode cX0_becomeCopyOf 25 = .ok (.aload_n 0, 1) := by decide +kernel
theorem dX0_becomeCopyOf_26 : decode cX0_becomeCopyOf 26 = .ok (.iconst 0, 1) := by decide +kernel
theorem dX0_becomeCopyOf_27 : decode cX0_becomeCopyOf 27 = .ok (.putfield 28, 3) := by decide +kernel
theorem dX0_becomeCopyOf_30 : decode cX0_becomeCopyOf 30 = .ok (.aload_n 0, 1) := by decide +kernel
theorem dX0_becomeCopyOf_31 : decode cX0_becomeCopyOf 31 = .ok (.iconst 0, 1) := by decide +kernel
theorem dX0_becomeCopyOf_32 : decode cX0_becomeCopyOf 32 = .ok (.putfield 19, 3) := by decide +kernel
theorem dX0_becomeCopyOf_35 : decode cX0_becomeCopyOf 35 = .ok (.return_, 1) := by decide +kernel
set_option maxRecDepth 20000 in
theorem ggX1_init_Jx4a65c_init_da8c8 : GoodIn wsX1_init wsJx4a65c_init_da8c8 := goodIn_r _ [19, 20, 21, 22, 23, 24, 25, 26, 27, 28, 29, 30, 31, 2, 3, 44, 45, 46] (by decide +kernel) (by decide +kernel)
set_option maxRecDepth 20000 in
theorem gX1_init_Jx4a65c_init_da8c8 : GoodIn wsX1_init (wsJx4a65c_init_da8c8) := ggX1_init_Jx4a65c_init_da8c8
set_option maxRecDepth 20000 in
theorem ggX1_init_J7_fill_53178 : GoodIn wsX1_init wsJ7_fill_53178 := goodIn_r _ [35] (by decide +kernel) (by decide +kernel)
set_option maxRecDepth 20000 in
theorem gX1_init_J7_fill_53178 : GoodIn wsX1_init (va_wsS RX1 41 yJ7_fill_53178 wsJ7_fill_53178) := goodIn_app (goodIn_of _ (by decide +kernel)) ggX1_init_J7_fill_53178
theorem dX1_init_0 : decode cX1_init 0 = .ok (.aload_n 0, 1) := by decide +kernel
theorem dX1_init_1 : decode cX1_init 1 = .ok (.invokespecial 1, 3) := by decide +kernel
theorem dX1_init_4 : decode cX1_init 4 = .ok (.aload_n 0, 1) := by decide +kernel
theorem dX1_init_5 : decode cX1_init 5 = .ok (.bipush 16, 2) := by decide +kernel
theorem dX1_init_7 : decode cX1_init 7 = .ok (.newarray .int, 2) := by decide +kernel
theorem dX1_init_9 : decode cX1_init 9 = .ok (.putfield 9, 3) := by decide +kernel
theorem dX1_init_12 : decode cX1_init 12 = .ok (.aload_n 0, 1) := by decide +kernel
theorem dX1_init_13 : decode cX1_init 13 = .ok (.sipush 1024, 3) := by decide +kernel
theorem dX1_init_16 : decode cX1_init 16 = .ok (.newarray .int, 2) := by decide +kernel
theorem dX1_init_18 : decode cX1_init 18 = .ok (.putfield 13, 3) := by decide +kernel
theorem dX1_init_21 : decode cX1_init 21 = .ok (.aload_n 0, 1) := by decide +kernel
theorem dX1_init_22 : decode cX1_init 22 = .ok (.sipush 1024, 3) := by decide +kernel
theorem dX1_init_25 : decode cX1_init 25 = .ok (.newarray .int, 2) := by decide +kernel
theorem dX1_init_27 : decode cX1_init 27 = .ok (.putfield 16, 3) := by decide +kernel
theorem dX1_init_30 : decode cX1_init 30 = .ok (.aload_n 0, 1) := by decide +kernel
theorem dX1_init_31 : decode cX1_init 31 = .ok (.new 19, 3) := by decide +kernel
theorem dX1_init_34 : decode cX1_init 34 = .ok (.dup, 1) := by decide +kernel
theorem dX1_init_35 : decode cX1_init 35 = .ok (.invokespecial 21, 3) := by decide +kernel
theorem dX1_init_38 : decode cX1_init 38 = .ok (.putfield 22, 3) := by decide +kernel
theorem dX1_init_41 : decode cX1_init 41 = .ok (.aload_n 0, 1) := by decide +kernel
theorem dX1_init_42 : decode cX1_init 42 = .ok (.bipush 32, 2) := by decide +kernel
theorem dX1_init_44 : decode cX1_init 44 = .ok (.newarray .int, 2) := by decide +kernel
theorem dX1_init_46 : decode cX1_init 46 = .ok (.putfield 26, 3) := by decide +kernel
theorem dX1_init_49 : decode cX1_init 49 = .ok (.aload_n 0, 1) := by decide +kernel
theorem dX1_init_50 : decode cX1_init 50 = .ok (.iconst 0, 1) := by decide +kernel
theorem dX1_init_51 : decode cX1_init 51 = .ok (.putfield 29, 3) := by decide +kernel
theorem dX1_init_54 : decode cX1_init 54 = .ok (.aload_n 0, 1) := by decide +kernel
theorem dX1_init_55 : decode cX1_init 55 = .ok (.bipush 16, 2) := by decide +kernel
theorem dX1_init_57 : decode cX1_init 57 = .ok (.sipush 200, 3) := by decide +kernel
theorem dX1_init_60 : decode cX1_init 60 = .ok (.multianewarray 33 2, 4) := by decide +kernel
theorem dX1_init_64 : decode cX1_init 64 = .ok (.putfield 35, 3) := by decide +kernel
theorem dX1_init_67 : decode cX1_init 67 = .ok (.aload_n 0, 1) := by decide +kernel
theorem dX1_init_68 : decode cX1_init 68 = .ok (.bipush 16, 2) := by decide +kernel
theorem dX1_init_70 : decode cX1_init 70 = .ok (.newarray .int, 2) := by decide +kernel
theorem dX1_init_72 : decode cX1_init 72 = .ok (.putfield 38, 3) := by decide +kernel
theorem dX1_init_75 : decode cX1_init 75 = .ok (.aload_n 0, 1) := by decide +kernel
theorem dX1_init_76 : decode cX1_init 76 = .ok (.getfield 9, 3) := by decide +kernel
theorem dX1_init_79 : decode cX1_init 79 = .ok (.iconst (-1), 1) := by decide +kernel
theorem dX1_init_80 : decode cX1_init 80 = .ok (.invokestatic 41, 3) := by decide +kernel
theorem dX1_init_83 : decode cX1_init 83 = .ok (.aload_n 0, 1) := by decide +kernel
theorem dX1_init_84 : decode cX1_init 84 = .ok (.getfield 13, 3) := by decide +kernel
theorem dX1_init_87 : decode cX1_init 87 = .ok (.bipush 40, 2) := by decide +kernel
theorem dX1_init_89 : decode cX1_init 89 = .ok (.invokestatic 41, 3) := by decide +kernel
theorem dX1_init_92 : decode cX1_init 92 = .ok (.return_, 1) := by decide +kernel
set_option maxRecDepth 20000 in
theorem ggX1_subject_X1_requireSubject : GoodIn wsX1_subject wsX1_requireSubject := goodIn_ca (goodIn_r _ [5, 6, 7] (by decide +kernel) (by decide +kernel)) (goodIn_sub (fun _ h => List.mem_cons_of_mem _ (List.mem_append_right _ h)) (by decide +kernel))
set_option maxRecDepth 20000 in
theorem gX1_subject_X1_requireSubject : GoodIn wsX1_subject (va_wsS RX1 47 yX1_requireSubject wsX1_requireSubject) := goodIn_app (goodIn_of _ (by decide +kernel)) ggX1_subject_X1_requireSubject
set_option maxRecDepth 20000 in
theorem ggX1_subject_X1_requireLabel : GoodIn wsX1_subject wsX1_requireLabel := goodIn_ca (goodIn_r _ [10, 6, 7] (by decide +kernel) (by decide +kernel)) (goodIn_sub (fun _ h => List.mem_cons_of_mem _ (List.mem_append_right _ h)) (by decide +kernel))
set_option maxRecDepth 20000 in
theorem gX1_subject_X1_requireLabel : GoodIn wsX1_subject (va_wsS RX1 51 yX1_requireLabel wsX1_requireLabel) := goodIn_app (goodIn_of _ (by decide +kernel)) ggX1_subject_X1_requireLabel
theorem dX1_subject_0 : decode cX1_subject 0 = .ok (.iload_n 1, 1) := by decide +kernel
theorem dX1_subject_1 : decode cX1_subject 1 = .ok (.invokestatic 47, 3) := by decide +kernel
theorem dX1_subject_4 : decode cX1_subject 4 = .ok (.iload_n 2, 1) := by decide +kernel
theorem dX1_subject_5 : decode cX1_subject 5 = .ok (.invokestatic 51, 3) := by decide +kernel
theorem dX1_subject_8 : decode cX1_subject 8 = .ok (.aload_n 0, 1) := by decide +kernel
theorem dX1_subject_9 : decode cX1_subject 9 = .ok (.getfield 9, 3) := by decide +kernel
theorem dX1_subject_12 : decode cX1_subject 12 = .ok (.iload_n 1, 1) := by decide +kernel
theorem dX1_subject_13 : decode cX1_subject 13 = .ok (.iaload, 1) := by decide +kernel
theorem dX1_subject_14 : decode cX1_subject 14 = .ok (.iconst (-1), 1) := by decide +kernel
theorem dX1_subject_15 : decode cX1_subject 15 = .ok (.if_icmp .eq 5, 3) := by decide +kernel
theorem dX1_subject_18 : decode cX1_subject 18 = .ok (.iconst 0, 1) := by decide +kernel
theorem dX1_subject_19 : decode cX1_subject 19 = .ok (.ireturn, 1) := by decide +kernel
theorem dX1_subject_20 : decode cX1_subject 20 = .ok (.aload_n 0, 1) := by decide +kernel
theorem dX1_subject_21 : decode cX1_subject 21 = .ok (.getfield 9, 3) := by decide +kernel
theorem dX1_subject_24 : decode cX1_subject 24 = .ok (.iload_n 1, 1) := by decide +kernel
theorem dX1_subject_25 : decode cX1_subject 25 = .ok (.iload_n 2, 1) := by decide +kernel
theorem dX1_subject_26 : decode cX1_subject 26 = .ok (.iastore, 1) := by decide +kernel
theorem dX1_subject_27 : decode cX1_subject 27 = .ok (.iconst 1, 1) := by decide +kernel
theorem dX1_subject_28 : decode cX1_subject 28 = .ok (.ireturn, 1) := by decide +kernel
set_option maxRecDepth 20000 in
theorem ggX1_quota_X1_requireLabel : GoodIn wsX1_quota wsX1_requireLabel := goodIn_ca (goodIn_r _ [5, 6, 7] (by decide +kernel) (by decide +kernel)) (goodIn_sub (fun _ h => List.mem_cons_of_mem _ (List.mem_append_right _ h)) (by decide +kernel))
set_option maxRecDepth 20000 in
theorem gX1_quota_X1_requireLabel : GoodIn wsX1_quota (va_wsS RX1 51 yX1_requireLabel wsX1_requireLabel) := goodIn_app (goodIn_of _ (by decide +kernel)) ggX1_quota_X1_requireLabel
set_option maxRecDepth 20000 in
theorem ggX1_quota_X1_requireAtMost : GoodIn wsX1_quota wsX1_requireAtMost := goodIn_ca (goodIn_r _ [10, 6, 7] (by decide +kernel) (by decide +kernel)) (goodIn_sub (fun _ h => List.mem_cons_of_mem _ (List.mem_append_right _ h)) (by decide +kernel))
set_option maxRecDepth 20000 in
theorem gX1_quota_X1_requireAtMost : GoodIn wsX1_quota (va_wsS RX1 54 yX1_requireAtMost wsX1_requireAtMost) := goodIn_app (goodIn_of _ (by decide +kernel)) ggX1_quota_X1_requireAtMost
theorem dX1_quota_0 : decode cX1_quota 0 = .ok (.iload_n 1, 1) := by decide +kernel
theorem dX1_quota_1 : decode cX1_quota 1 = .ok (.invokestatic 51, 3) := by decide +kernel
theorem dX1_quota_4 : decode cX1_quota 4 = .ok (.sipush 1000, 3) := by decide +kernel
theorem dX1_quota_7 : decode cX1_quota 7 = .ok (.iload_n 2, 1) := by decide +kernel
theorem dX1_quota_8 : decode cX1_quota 8 = .ok (.invokestatic 54, 3) := by decide +kernel
theorem dX1_quota_11 : decode cX1_quota 11 = .ok (.aload_n 0, 1) := by decide +kernel
theorem dX1_quota_12 : decode cX1_quota 12 = .ok (.getfield 13, 3) := by decide +kernel
theorem dX1_quota_15 : decode cX1_quota 15 = .ok (.iload_n 1, 1) := by decide +kernel
theorem dX1_quota_16 : decode cX1_quota 16 = .ok (.iaload, 1) := by decide +kernel
theorem dX1_quota_17 : decode cX1_quota 17 = .ok (.istore_n 3, 1) := by decide +kernel
theorem dX1_quota_18 : decode cX1_quota 18 = .ok (.aload_n 0, 1) := by decide +kernel
theorem dX1_quota_19 : decode cX1_quota 19 = .ok (.getfield 13, 3) := by decide +kernel
theorem dX1_quota_22 : decode cX1_quota 22 = .ok (.iload_n 1, 1) := by decide +kernel
theorem dX1_quota_23 : decode cX1_quota 23 = .ok (.iload_n 2, 1) := by decide +kernel
theorem dX1_quota_24 : decode cX1_quota 24 = .ok (.iastore, 1) := by decide +kernel
theorem dX1_quota_25 : decode cX1_quota 25 = .ok (.iload_n 3, 1) := by decide +kernel
theorem dX1_quota_26 : decode cX1_quota 26 = .ok (.ireturn, 1) := by decide +kernel
set_option maxRecDepth 20000 in
theorem ggX1_list_X1_requireSubject : GoodIn wsX1_list wsX1_requireSubject := goodIn_ca (goodIn_r _ [9, 1, 2] (by decide +kernel) (by decide +kernel)) (goodIn_sub (fun _ h => List.mem_cons_of_mem _ (List.mem_append_left _ (List.mem_append_right _ h))) (by decide +kernel))
set_option maxRecDepth 20000 in
theorem gX1_list_X1_requireSubject : GoodIn wsX1_list (va_wsS RX1 47 yX1_requireSubject wsX1_requireSubject) := goodIn_app (goodIn_of _ (by decide +kernel)) ggX1_list_X1_requireSubject
set_option maxRecDepth 20000 in
theorem ggX1_list_X1_requireLabel : GoodIn wsX1_list wsX1_requireLabel := goodIn_ca (goodIn_r _ [12, 1, 2] (by decide +kernel) (by decide +kernel)) (goodIn_sub (fun _ h => List.mem_cons_of_mem _ (List.mem_append_left _ (List.mem_append_right _ h))) (by decide +kernel))
set_option maxRecDepth 20000 in
theorem gX1_list_X1_requireLabel : GoodIn wsX1_list (va_wsS RX1 51 yX1_requireLabel wsX1_requireLabel) := goodIn_app (goodIn_of _ (by decide +kernel)) ggX1_list_X1_requireLabel
set_option maxRecDepth 20000 in
theorem ggX1_list_X1_listingOf : GoodIn wsX1_list wsX1_listingOf := goodIn_r _ [15] (by decide +kernel) (by decide +kernel)
set_option maxRecDepth 20000 in
theorem gX1_list_X1_listingOf : GoodIn wsX1_list (va_wsS RX1 65 yX1_listingOf wsX1_listingOf) := goodIn_app (goodIn_of _ (by decide +kernel)) ggX1_list_X1_listingOf
set_option maxRecDepth 20000 in
theorem ggX1_list_X1_isListed : GoodIn wsX1_list wsX1_isListed := goodIn_r _ [19, 5, 20, 29, 30, 31, 32, 33, 34, 35, 36] (by decide +kernel) (by decide +kernel)
set_option maxRecDepth 20000 in
theorem gX1_list_X1_isListed : GoodIn wsX1_list (wsV RX1 69 RX1 yX1_isListed wsX1_isListed) := goodIn_app (goodIn_of _ (by decide +kernel)) ggX1_list_X1_isListed
set_option maxRecDepth 20000 in
theorem ggX1_list_X1_addListing : GoodIn wsX1_list wsX1_addListing := goodIn_r _ [24, 20, 5, 29, 30, 31, 32, 33, 34, 35, 36] (by decide +kernel) (by decide +kernel)
set_option maxRecDepth 20000 in
theorem gX1_list_X1_addListing : GoodIn wsX1_list (wsV RX1 78 RX1 yX1_addListing wsX1_addListing) := goodIn_app (goodIn_of _ (by decide +kernel)) ggX1_list_X1_addListing
set_option maxRecDepth 20000 in
theorem ggX1_list_X1_dropListing : GoodIn wsX1_list wsX1_dropListing := goodIn_r _ [28, 5, 20, 29, 30, 31, 32, 33, 34, 35, 36] (by decide +kernel) (by decide +kernel)
set_option maxRecDepth 20000 in
theorem gX1_list_X1_dropListing : GoodIn wsX1_list (wsV RX1 81 RX1 yX1_dropListing wsX1_dropListing) := goodIn_app (goodIn_of _ (by decide +kernel)) ggX1_list_X1_dropListing
theorem dX1_list_0 : decode cX1_list 0 = .ok (.iload_n 1, 1) := by decide +kernel
theorem dX1_list_1 : decode cX1_list 1 = .ok (.invokestatic 47, 3) := by decide +kernel
theorem dX1_list_4 : decode cX1_list 4 = .ok (.iload_n 2, 1) := by decide +kernel
theorem dX1_list_5 : decode cX1_list 5 = .ok (.invokestatic 51, 3) := by decide +kernel
theorem dX1_list_8 : decode cX1_list 8 = .ok (.iload_n 3, 1) := by decide +kernel
theorem dX1_list_9 : decode cX1_list 9 = .ok (.invokestatic 51, 3) := by decide +kernel
theorem dX1_list_12 : decode cX1_list 12 = .ok (.iload_n 2, 1) := by decide +kernel
theorem dX1_list_13 : decode cX1_list 13 = .ok (.iload_n 3, 1) := by decide +kernel
theorem dX1_list_14 : decode cX1_list 14 = .ok (.if_icmp .ne 13, 3) := by decide +kernel
theorem dX1_list_17 : decode cX1_list 17 = .ok (.new 58, 3) := by decide +kernel
theorem dX1_list_20 : decode cX1_list 20 = .ok (.dup, 1) := by decide +kernel
theorem dX1_list_21 : decode cX1_list 21 = .ok (.ldc 60, 2) := by decide +kernel
theorem dX1_list_23 : decode cX1_list 23 = .ok (.invokespecial 62, 3) := by decide +kernel
theorem dX1_list_26 : decode cX1_list 26 = .ok (.athrow, 1) := by decide +kernel
theorem dX1_list_27 : decode cX1_list 27 = .ok (.iload_n 1, 1) := by decide +kernel
theorem dX1_list_28 : decode cX1_list 28 = .ok (.iload_n 2, 1) := by decide +kernel
theorem dX1_list_29 : decode cX1_list 29 = .ok (.iload_n 3, 1) := by decide +kernel
theorem dX1_list_30 : decode cX1_list 30 = .ok (.invokestatic 65, 3) := by decide +kernel
theorem dX1_list_33 : decode cX1_list 33 = .ok (.istore 5, 2) := by decide +kernel
theorem dX1_list_35 : decode cX1_list 35 = .ok (.aload_n 0, 1) := by decide +kernel
theorem dX1_list_36 : decode cX1_list 36 = .ok (.iload 5, 2) := by decide +kernel
theorem dX1_list_38 : decode cX1_list 38 = .ok (.invokevirtual 69, 3) := by decide +kernel
theorem dX1_list_41 : decode cX1_list 41 = .ok (.istore 6, 2) := by decide +kernel
theorem dX1_list_43 : decode cX1_list 43 = .ok (.iload 4, 2) := by decide +kernel
theorem dX1_list_45 : decode cX1_list 45 = .ok (.ifCond .eq 33, 3) := by decide +kernel
theorem dX1_list_48 : decode cX1_list 48 = .ok (.iload 6, 2) := by decide +kernel
theorem dX1_list_50 : decode cX1_list 50 = .ok (.ifCond .ne 28, 3) := by decide +kernel
theorem dX1_list_53 : decode cX1_list 53 = .ok (.aload_n 0, 1) := by decide +kernel
theorem dX1_list_54 : decode cX1_list 54 = .ok (.getfield 29, 3) := by decide +kernel
theorem dX1_list_57 : decode cX1_list 57 = .ok (.bipush 32, 2) := by decide +kernel
theorem dX1_list_59 : decode cX1_list 59 = .ok (.if_icmp .lt 13, 3) := by decide +kernel
theorem dX1_list_62 : decode cX1_list 62 = .ok (.new 73, 3) := by decide +kernel
theorem dX1_list_65 : decode cX1_list 65 = .ok (.dup, 1) := by decide +kernel
theorem dX1_list_66 : decode cX1_list 66 = .ok (.ldc 75, 2) := by decide +kernel
theorem dX1_list_68 : decode cX1_list 68 = .ok (.invokespecial 77, 3) := by decide +kernel
theorem dX1_list_71 : decode cX1_list 71 = .ok (.athrow, 1) := by decide +kernel
theorem dX1_list_72 : decode cX1_list 72 = .ok (.aload_n 0, 1) := by decide +kernel
theorem dX1_list_73 : decode cX1_list 73 = .ok (.iload 5, 2) := by decide +kernel
theorem dX1_list_75 : decode cX1_list 75 = .ok (.invokevirtual 78, 3) := by decide +kernel
theorem dX1_list_78 : decode cX1_list 78 = .ok (.iload 4, 2) := by decide +kernel
theorem dX1_list_80 : decode cX1_list 80 = .ok (.ifCond .ne 9, 3) := by decide +kernel
theorem dX1_list_83 : decode cX1_list 83 = .ok (.aload_n 0, 1) := by decide +kernel
theorem dX1_list_84 : decode cX1_list 84 = .ok (.iload 5, 2) := by decide +kernel
theorem dX1_list_86 : decode cX1_list 86 = .ok (.invokevirtual 81, 3) := by decide +kernel
theorem dX1_list_89 : decode cX1_list 89 = .ok (.iload 6, 2) := by decide +kernel
theorem dX1_list_91 : decode cX1_list 91 = .ok (.ireturn, 1) := by decide +kernel
set_option maxRecDepth 20000 in
theorem ggX1_flows_X1_requireLabel : GoodIn wsX1_flows wsX1_requireLabel := goodIn_ca (goodIn_r _ [4, 5, 6] (by decide +kernel) (by decide +kernel)) (goodIn_sub (fun _ h => List.mem_cons_of_mem _ (List.mem_append_right _ h)) (by decide +kernel))
set_option maxRecDepth 20000 in
theorem gX1_flows_X1_requireLabel : GoodIn wsX1_flows (va_wsS RX1 51 yX1_requireLabel wsX1_requireLabel) := goodIn_app (goodIn_of _ (by decide +kernel)) ggX1_flows_X1_requireLabel
set_option maxRecDepth 20000 in
theorem ggX1_flows_X1_mayFlow : GoodIn wsX1_flows wsX1_mayFlow := goodIn_r _ [9, 10, 11, 3, 12, 13, 14, 15, 16, 17, 18, 19, 20, 21, 22, 23, 24] (by decide +kernel) (by decide +kernel)
set_option maxRecDepth 20000 in
theorem gX1_flows_X1_mayFlow : GoodIn wsX1_flows (va_wsS RX1 84 yX1_mayFlow wsX1_mayFlow) := goodIn_app (goodIn_of _ (by decide +kernel)) ggX1_flows_X1_mayFlow
theorem dX1_flows_0 : decode cX1_flows 0 = .ok (.iload_n 1, 1) := by decide +kernel
theorem dX1_flows_1 : decode cX1_flows 1 = .ok (.invokestatic 51, 3) := by decide +kernel
theorem dX1_flows_4 : decode cX1_flows 4 = .ok (.iload_n 2, 1) := by decide +kernel
theorem dX1_flows_5 : decode cX1_flows 5 = .ok (.invokestatic 51, 3) := by decide +kernel
theorem dX1_flows_8 : decode cX1_flows 8 = .ok (.iload_n 1, 1) := by decide +kernel
theorem dX1_flows_9 : decode cX1_flows 9 = .ok (.iload_n 2, 1) := by decide +kernel
theorem dX1_flows_10 : decode cX1_flows 10 = .ok (.invokestatic 84, 3) := by decide +kernel
theorem dX1_flows_13 : decode cX1_flows 13 = .ok (.ireturn, 1) := by decide +kernel
set_option maxRecDepth 20000 in
theorem ggX1_make_X1_requireSubject : GoodIn wsX1_make wsX1_requireSubject := goodIn_ca (goodIn_r _ [6, 7, 8] (by decide +kernel) (by decide +kernel)) (goodIn_sub (fun _ h => List.mem_cons_of_mem _ (List.mem_append_right _ h)) (by decide +kernel))
set_option maxRecDepth 20000 in
theorem gX1_make_X1_requireSubject : GoodIn wsX1_make (va_wsS RX1 47 yX1_requireSubject wsX1_requireSubject) := goodIn_app (goodIn_of _ (by decide +kernel)) ggX1_make_X1_requireSubject
set_option maxRecDepth 20000 in
theorem ggX1_make_X1_requireFile : GoodIn wsX1_make wsX1_requireFile := goodIn_ca (goodIn_r _ [11, 12, 13, 5, 14, 7, 8, 15, 16, 17] (by decide +kernel) (by decide +kernel)) (goodIn_sub (fun _ h => List.mem_cons_of_mem _ (List.mem_append_right _ h)) (by decide +kernel))
set_option maxRecDepth 20000 in
theorem gX1_make_X1_requireFile : GoodIn wsX1_make (va_wsS RX1 88 yX1_requireFile wsX1_requireFile) := goodIn_app (goodIn_of _ (by decide +kernel)) ggX1_make_X1_requireFile
set_option maxRecDepth 20000 in
theorem ggX1_make_X1_requireFolder : GoodIn wsX1_make wsX1_requireFolder := goodIn_ca (goodIn_r _ [20, 7, 8] (by decide +kernel) (by decide +kernel)) (goodIn_sub (fun _ h => List.mem_cons_of_mem _ (List.mem_append_right _ h)) (by decide +kernel))
set_option maxRecDepth 20000 in
theorem gX1_make_X1_requireFolder : GoodIn wsX1_make (va_wsS RX1 91 yX1_requireFolder wsX1_requireFolder) := goodIn_app (goodIn_of _ (by decide +kernel)) ggX1_make_X1_requireFolder
set_option maxRecDepth 20000 in
theorem ggX1_make_X1_answerMake : GoodIn wsX1_make wsX1_answerMake := goodIn_r _ [24, 25, 26, 27, 5, 28, 29, 30, 31, 32, 33, 34, 35, 36, 37, 38, 39, 40, 41, 42, 43, 44, 45, 46, 47, 48, 49, 50, 51, 52, 53, 54, 55, 56, 57, 58, 59, 60, 61, 62, 63, 64, 65, 66, 67, 68, 69, 70, 71, 72, 73, 74, 75, 76, 77, 78, 79, 80, 81, 82, 83, 84, 85, 86, 87, 88, 89, 90, 91, 92, 93, 94, 95, 96, 97, 98, 99, 100, 101, 102, 103, 104, 105, 106, 107, 108, 109, 110, 111, 112, 113, 114, 115, 116, 117, 118, 119, 120, 121, 122, 123, 124, 125, 126, 127, 128, 129, 130, 131, 132, 133, 134, 135, 136, 137, 138, 139, 140, 141, 142, 143, 144, 145, 146, 147, 148, 149, 150, 151, 152, 153, 154, 155, 156, 157, 158, 159, 160, 161, 162, 163, 164, 165, 166, 167, 168, 169, 170, 171, 172, 173, 174, 175, 176, 177, 178, 179, 180, 181, 182, 183, 184, 185, 186, 192, 193, 194, 195, 196, 197, 198, 199, 200, 201, 202, 203, 204, 205, 206, 207, 208] (by decide +kernel) (by decide +kernel)
set_option maxRecDepth 20000 in
theorem gX1_make_X1_answerMake : GoodIn wsX1_make (wsV RX1 94 RX1 yX1_answerMake wsX1_answerMake) := goodIn_app (goodIn_of _ (by decide +kernel)) ggX1_make_X1_answerMake
set_option maxRecDepth 20000 in
theorem ggX1_make_X1_forgetSeen : GoodIn wsX1_make wsX1_forgetSeen := goodIn_r _ [190, 191, 192, 193, 194, 195, 196, 197, 198, 199] (by decide +kernel) (by decide +kernel)
set_option maxRecDepth 20000 in
theorem gX1_make_X1_forgetSeen : GoodIn wsX1_make (wsV RX1 100 RX1 yX1_forgetSeen wsX1_forgetSeen) := goodIn_app (goodIn_of _ (by decide +kernel)) ggX1_make_X1_forgetSeen
theorem dX1_make_0 : decode cX1_make 0 = .ok (.iload_n 1, 1) := by decide +kernel
theorem dX1_make_1 : decode cX1_make 1 = .ok (.invokestatic 47, 3) := by decide +kernel
theorem dX1_make_4 : decode cX1_make 4 = .ok (.iload_n 2, 1) := by decide +kernel
theorem dX1_make_5 : decode cX1_make 5 = .ok (.iload_n 3, 1) := by decide +kernel
theorem dX1_make_6 : decode cX1_make 6 = .ok (.invokestatic 88, 3) := by decide +kernel
theorem dX1_make_9 : decode cX1_make 9 = .ok (.iload 4, 2) := by decide +kernel
theorem dX1_make_11 : decode cX1_make 11 = .ok (.invokestatic 91, 3) := by decide +kernel
theorem dX1_make_14 : decode cX1_make 14 = .ok (.aload_n 0, 1) := by decide +kernel
theorem dX1_make_15 : decode cX1_make 15 = .ok (.iload_n 1, 1) := by decide +kernel
theorem dX1_make_16 : decode cX1_make 16 = .ok (.iload_n 2, 1) := by decide +kernel
theorem dX1_make_17 : decode cX1_make 17 = .ok (.iload_n 3, 1) := by decide +kernel
theorem dX1_make_18 : decode cX1_make 18 = .ok (.iload 4, 2) := by decide +kernel
theorem dX1_make_20 : decode cX1_make 20 = .ok (.invokevirtual 94, 3) := by decide +kernel
theorem dX1_make_23 : decode cX1_make 23 = .ok (.istore 5, 2) := by decide +kernel
theorem dX1_make_25 : decode cX1_make 25 = .ok (.iload 5, 2) := by decide +kernel
theorem dX1_make_27 : decode cX1_make 27 = .ok (.bipush (-4), 2) := by decide +kernel
theorem dX1_make_29 : decode cX1_make 29 = .ok (.if_icmp .ne 13, 3) := by decide +kernel
theorem dX1_make_32 : decode cX1_make 32 = .ok (.new 73, 3) := by decide +kernel
theorem dX1_make_35 : decode cX1_make 35 = .ok (.dup, 1) := by decide +kernel
theorem dX1_make_36 : decode cX1_make 36 = .ok (.ldc 98, 2) := by decide +kernel
theorem dX1_make_38 : decode cX1_make 38 = .ok (.invokespecial 77, 3) := by decide +kernel
theorem dX1_make_41 : decode cX1_make 41 = .ok (.athrow, 1) := by decide +kernel
theorem dX1_make_42 : decode cX1_make 42 = .ok (.aload_n 0, 1) := by decide +kernel
theorem dX1_make_43 : decode cX1_make 43 = .ok (.iload_n 1, 1) := by decide +kernel
theorem dX1_make_44 : decode cX1_make 44 = .ok (.invokevirtual 100, 3) := by decide +kernel
theorem dX1_make_47 : decode cX1_make 47 = .ok (.iload 5, 2) := by decide +kernel
theorem dX1_make_49 : decode cX1_make 49 = .ok (.ireturn, 1) := by decide +kernel
set_option maxRecDepth 20000 in
theorem ggX1_set_X1_requireSubject : GoodIn wsX1_set wsX1_requireSubject := goodIn_ca (goodIn_r _ [7, 8, 9] (by decide +kernel) (by decide +kernel)) (goodIn_sub (fun _ h => List.mem_cons_of_mem _ (List.mem_append_right _ h)) (by decide +kernel))
set_option maxRecDepth 20000 in
theorem gX1_set_X1_requireSubject : GoodIn wsX1_set (va_wsS RX1 47 yX1_requireSubject wsX1_requireSubject) := goodIn_app (goodIn_of _ (by decide +kernel)) ggX1_set_X1_requireSubject
set_option maxRecDepth 20000 in
theorem ggX1_set_X1_requireNumber : GoodIn wsX1_set wsX1_requireNumber := goodIn_ca (goodIn_r _ [12, 8, 9] (by decide +kernel) (by decide +kernel)) (goodIn_sub (fun _ h => List.mem_cons_of_mem _ (List.mem_append_right _ h)) (by decide +kernel))
set_option maxRecDepth 20000 in
theorem gX1_set_X1_requireNumber : GoodIn wsX1_set (va_wsS RX1 103 yX1_requireNumber wsX1_requireNumber) := goodIn_app (goodIn_of _ (by decide +kernel)) ggX1_set_X1_requireNumber
set_option maxRecDepth 20000 in
theorem ggX1_set_X1_requireCell : GoodIn wsX1_set wsX1_requireCell := goodIn_ca (goodIn_r _ [15, 8, 9] (by decide +kernel) (by decide +kernel)) (goodIn_sub (fun _ h => List.mem_cons_of_mem _ (List.mem_append_right _ h)) (by decide +kernel))
set_option maxRecDepth 20000 in
theorem gX1_set_X1_requireCell : GoodIn wsX1_set (va_wsS RX1 106 yX1_requireCell wsX1_requireCell) := goodIn_app (goodIn_of _ (by decide +kernel)) ggX1_set_X1_requireCell
set_option maxRecDepth 20000 in
theorem ggX1_set_X1_forgetSeen : GoodIn wsX1_set wsX1_forgetSeen := goodIn_r _ [19, 20, 91, 92, 93, 94, 95, 96, 97, 98] (by decide +kernel) (by decide +kernel)
set_option maxRecDepth 20000 in
theorem gX1_set_X1_forgetSeen : GoodIn wsX1_set (wsV RX1 100 RX1 yX1_forgetSeen wsX1_forgetSeen) := goodIn_app (goodIn_of _ (by decide +kernel)) ggX1_set_X1_forgetSeen
set_option maxRecDepth 20000 in
theorem ggX1_set_X1_find : GoodIn wsX1_set wsX1_find := goodIn_r _ [24, 25, 26, 27, 28, 6, 29, 30, 31, 32, 33, 34, 35, 36, 37, 38, 39, 40, 41, 42, 43, 44, 45, 46, 47, 48, 49, 50, 51, 52, 53, 54, 55, 56, 57, 91, 92, 93, 94, 95, 96, 97, 98, 99, 100, 101, 102, 103, 104, 105, 106, 107] (by decide +kernel) (by decide +kernel)
set_option maxRecDepth 20000 in
theorem gX1_set_X1_find : GoodIn wsX1_set (wsV RX1 109 RX1 yX1_find wsX1_find) := goodIn_app (goodIn_of _ (by decide +kernel)) ggX1_set_X1_find
set_option maxRecDepth 20000 in
theorem ggX1_set_X1_hasRoom : GoodIn wsX1_set wsX1_hasRoom := goodIn_r _ [61, 62, 63, 64, 65, 6, 66, 67, 25, 26, 34, 35, 36, 37, 38, 39, 40, 41, 42, 43, 44, 45, 46, 47, 48, 49, 50, 51, 52, 53, 54, 55, 56, 57, 68, 69, 70, 71, 72, 73, 74, 75, 76, 77, 78, 79, 80, 81, 82, 83, 84, 85, 91, 92, 93, 94, 95, 96, 97, 98, 99, 100, 101, 102, 103, 104, 105, 106, 107] (by decide +kernel) (by decide +kernel)
set_option maxRecDepth 20000 in
theorem gX1_set_X1_hasRoom : GoodIn wsX1_set (wsV RX1 121 RX1 yX1_hasRoom wsX1_hasRoom) := goodIn_app (goodIn_of _ (by decide +kernel)) ggX1_set_X1_hasRoom
set_option maxRecDepth 20000 in
theorem ggX1_set_X0_append : GoodIn wsX1_set wsX0_append := goodIn_r _ [89, 77, 90, 78, 99, 100, 101, 102, 103, 104] (by decide +kernel) (by decide +kernel)
set_option maxRecDepth 20000 in
theorem gX1_set_X0_append : GoodIn wsX1_set (wsV RX1 124 RX0 yX0_append wsX0_append) := goodIn_app (goodIn_of _ (by decide +kernel)) ggX1_set_X0_append
theorem dX1_set_0 : decode cX1_set 0 = .ok (.iload_n 1, 1) := by decide +kernel
theorem dX1_set_1 : decode cX1_set 1 = .ok (.invokestatic 47, 3) := by decide +kernel
theorem dX1_set_4 : decode cX1_set 4 = .ok (.iload_n 2, 1) := by decide +kernel
theorem dX1_set_5 : decode cX1_set 5 = .ok (.invokestatic 103, 3) := by decide +kernel
theorem dX1_set_8 : decode cX1_set 8 = .ok (.iload_n 3, 1) := by decide +kernel
theorem dX1_set_9 : decode cX1_set 9 = .ok (.invokestatic 106, 3) := by decide +kernel
theorem dX1_set_12 : decode cX1_set 12 = .ok (.aload_n 0, 1) := by decide +kernel
theorem dX1_set_13 : decode cX1_set 13 = .ok (.iload_n 1, 1) := by decide +kernel
theorem dX1_set_14 : decode cX1_set 14 = .ok (.invokevirtual 100, 3) := by decide +kernel
theorem dX1_set_17 : decode cX1_set 17 = .ok (.aload_n 0, 1) := by decide +kernel
theorem dX1_set_18 : decode cX1_set 18 = .ok (.getfield 9, 3) := by decide +kernel
theorem dX1_set_21 : decode cX1_set 21 = .ok (.iload_n 1, 1) := by decide +kernel
theorem dX1_set_22 : decode cX1_set 22 = .ok (.iaload, 1) := by decide +kernel
theorem dX1_set_23 : decode cX1_set 23 = .ok (.istore 5, 2) := by decide +kernel
theorem dX1_set_25 : decode cX1_set 25 = .ok (.iload 5, 2) := by decide +kernel
theorem dX1_set_27 : decode cX1_set 27 = .ok (.iconst (-1), 1) := by decide +kernel
theorem dX1_set_28 : decode cX1_set 28 = .ok (.if_icmp .ne 5, 3) := by decide +kernel
theorem dX1_set_31 : decode cX1_set 31 = .ok (.iconst (-1), 1) := by decide +kernel
theorem dX1_set_32 : decode cX1_set 32 = .ok (.ireturn, 1) := by decide +kernel
theorem dX1_set_33 : decode cX1_set 33 = .ok (.aload_n 0, 1) := by decide +kernel
theorem dX1_set_34 : decode cX1_set 34 = .ok (.iload 5, 2) := by decide +kernel
theorem dX1_set_36 : decode cX1_set 36 = .ok (.iload_n 2, 1) := by decide +kernel
theorem dX1_set_37 : decode cX1_set 37 = .ok (.invokevirtual 109, 3) := by decide +kernel
theorem dX1_set_40 : decode cX1_set 40 = .ok (.astore 6, 2) := by decide +kernel
theorem dX1_set_42 : decode cX1_set 42 = .ok (.aload 6, 2) := by decide +kernel
theorem dX1_set_44 : decode cX1_set 44 = .ok (.ifnull 12, 3) := by decide +kernel
theorem dX1_set_47 : decode cX1_set 47 = .ok (.iload_n 3, 1) := by decide +kernel
theorem dX1_set_48 : decode cX1_set 48 = .ok (.aload 6, 2) := by decide +kernel
theorem dX1_set_50 : decode cX1_set 50 = .ok (.getfield 113, 3) := by decide +kernel
theorem dX1_set_53 : decode cX1_set 53 = .ok (.if_icmp .le 5, 3) := by decide +kernel
theorem dX1_set_56 : decode cX1_set 56 = .ok (.iconst 0, 1) := by decide +kernel
theorem dX1_set_57 : decode cX1_set 57 = .ok (.ireturn, 1) := by decide +kernel
theorem dX1_set_58 : decode cX1_set 58 = .ok (.iload_n 3, 1) := by decide +kernel
theorem dX1_set_59 : decode cX1_set 59 = .ok (.aload 6, 2) := by decide +kernel
theorem dX1_set_61 : decode cX1_set 61 = .ok (.getfield 113, 3) := by decide +kernel
theorem dX1_set_64 : decode cX1_set 64 = .ok (.if_icmp .ge 14, 3) := by decide +kernel
theorem dX1_set_67 : decode cX1_set 67 = .ok (.aload 6, 2) := by decide +kernel
theorem dX1_set_69 : decode cX1_set 69 = .ok (.getfield 118, 3) := by decide +kernel
theorem dX1_set_72 : decode cX1_set 72 = .ok (.iload_n 3, 1) := by decide +kernel
theorem dX1_set_73 : decode cX1_set 73 = .ok (.iload 4, 2) := by decide +kernel
theorem dX1_set_75 : decode cX1_set 75 = .ok (.iastore, 1) := by decide +kernel
theorem dX1_set_76 : decode cX1_set 76 = .ok (.iconst 1, 1) := by decide +kernel
theorem dX1_set_77 : decode cX1_set 77 = .ok (.ireturn, 1) := by decide +kernel
theorem dX1_set_78 : decode cX1_set 78 = .ok (.aload_n 0, 1) := by decide +kernel
theorem dX1_set_79 : decode cX1_set 79 = .ok (.iload 5, 2) := by decide +kernel
theorem dX1_set_81 : decode cX1_set 81 = .ok (.iconst 1, 1) := by decide +kernel
theorem dX1_set_82 : decode cX1_set 82 = .ok (.invokevirtual 121, 3) := by decide +kernel
theorem dX1_set_85 : decode cX1_set 85 = .ok (.ifCond .ne 6, 3) := by decide +kernel
theorem dX1_set_88 : decode cX1_set 88 = .ok (.bipush (-3), 2) := by decide +kernel
theorem dX1_set_90 : decode cX1_set 90 = .ok (.ireturn, 1) := by decide +kernel
theorem dX1_set_91 : decode cX1_set 91 = .ok (.aload 6, 2) := by decide +kernel
theorem dX1_set_93 : decode cX1_set 93 = .ok (.iload 4, 2) := by decide +kernel
theorem dX1_set_95 : decode cX1_set 95 = .ok (.iconst 0, 1) := by decide +kernel
theorem dX1_set_96 : decode cX1_set 96 = .ok (.invokevirtual 124, 3) := by decide +kernel
theorem dX1_set_99 : decode cX1_set 99 = .ok (.iconst 1, 1) := by decide +kernel
theorem dX1_set_100 : decode cX1_set 100 = .ok (.ireturn, 1) := by decide +kernel
set_option maxRecDepth 20000 in
theorem ggX1_give_X1_requireSubject : GoodIn wsX1_give wsX1_requireSubject := goodIn_ca (goodIn_r _ [6, 7, 8] (by decide +kernel) (by decide +kernel)) (goodIn_sub (fun _ h => List.mem_cons_of_mem _ (List.mem_append_right _ h)) (by decide +kernel))
set_option maxRecDepth 20000 in
theorem gX1_give_X1_requireSubject : GoodIn wsX1_give (va_wsS RX1 47 yX1_requireSubject wsX1_requireSubject) := goodIn_app (goodIn_of _ (by decide +kernel)) ggX1_give_X1_requireSubject
set_option maxRecDepth 20000 in
theorem ggX1_give_X1_requireFile : GoodIn wsX1_give wsX1_requireFile := goodIn_ca (goodIn_r _ [11, 12, 13, 5, 14, 7, 8, 15, 16, 17] (by decide +kernel) (by decide +kernel)) (goodIn_sub (fun _ h => List.mem_cons_of_mem _ (List.mem_append_right _ h)) (by decide +kernel))
set_option maxRecDepth 20000 in
theorem gX1_give_X1_requireFile : GoodIn wsX1_give (va_wsS RX1 88 yX1_requireFile wsX1_requireFile) := goodIn_app (goodIn_of _ (by decide +kernel)) ggX1_give_X1_requireFile
set_option maxRecDepth 20000 in
theorem ggX1_give_X1_forgetSeen : GoodIn wsX1_give wsX1_forgetSeen := goodIn_r _ [21, 22, 110, 111, 112, 113, 114, 115, 116, 117] (by decide +kernel) (by decide +kernel)
set_option maxRecDepth 20000 in
theorem gX1_give_X1_forgetSeen : GoodIn wsX1_give (wsV RX1 100 RX1 yX1_forgetSeen wsX1_forgetSeen) := goodIn_app (goodIn_of _ (by decide +kernel)) ggX1_give_X1_forgetSeen
set_option maxRecDepth 20000 in
theorem ggX1_give_X1_mayFlow : GoodIn wsX1_give wsX1_mayFlow := goodIn_r _ [25, 26, 27, 5, 28, 29, 30, 31, 32, 33, 34, 35, 36, 37, 38, 39, 40] (by decide +kernel) (by decide +kernel)
set_option maxRecDepth 20000 in
theorem gX1_give_X1_mayFlow : GoodIn wsX1_give (va_wsS RX1 84 yX1_mayFlow wsX1_mayFlow) := goodIn_app (goodIn_of _ (by decide +kernel)) ggX1_give_X1_mayFlow
set_option maxRecDepth 20000 in
theorem ggX1_give_X1_hasRoom : GoodIn wsX1_give wsX1_hasRoom := goodIn_r _ [44, 45, 46, 47, 48, 5, 49, 2, 50, 51, 52, 53, 54, 55, 56, 57, 58, 59, 60, 61, 62, 63, 64, 65, 66, 67, 68, 69, 70, 71, 72, 73, 74, 75, 76, 77, 78, 79, 80, 81, 82, 83, 84, 85, 86, 87, 88, 89, 90, 91, 92, 93, 110, 111, 112, 113, 114, 115, 116, 117, 118, 119, 120, 121, 122, 123, 124, 125, 126] (by decide +kernel) (by decide +kernel)
set_option maxRecDepth 20000 in
theorem gX1_give_X1_hasRoom : GoodIn wsX1_give (wsV RX1 121 RX1 yX1_hasRoom wsX1_hasRoom) := goodIn_app (goodIn_of _ (by decide +kernel)) ggX1_give_X1_hasRoom
set_option maxRecDepth 20000 in
theorem ggX1_give_X1_find : GoodIn wsX1_give wsX1_find := goodIn_r _ [97, 50, 51, 98, 99, 5, 100, 101, 102, 103, 104, 52, 53, 54, 55, 56, 57, 58, 59, 60, 61, 62, 63, 64, 65, 66, 67, 68, 69, 70, 71, 72, 73, 74, 75, 110, 111, 112, 113, 114, 115, 116, 117, 118, 119, 120, 121, 122, 123, 124, 125, 126] (by decide +kernel) (by decide +kernel)
set_option maxRecDepth 20000 in
theorem gX1_give_X1_find : GoodIn wsX1_give (wsV RX1 109 RX1 yX1_find wsX1_find) := goodIn_app (goodIn_of _ (by decide +kernel)) ggX1_give_X1_find
set_option maxRecDepth 20000 in
theorem ggX1_give_X0_append : GoodIn wsX1_give wsX0_append := goodIn_r _ [108, 85, 109, 86, 118, 119, 120, 121, 122, 123] (by decide +kernel) (by decide +kernel)
set_option maxRecDepth 20000 in
theorem gX1_give_X0_append : GoodIn wsX1_give (wsV RX1 124 RX0 yX0_append wsX0_append) := goodIn_app (goodIn_of _ (by decide +kernel)) ggX1_give_X0_append
theorem dX1_give_0 : decode cX1_give 0 = .ok (.iload_n 1, 1) := by decide +kernel
theorem dX1_give_1 : decode cX1_give 1 = .ok (.invokestatic 47, 3) := by decide +kernel
theorem dX1_give_4 : decode cX1_give 4 = .ok (.iload_n 2, 1) := by decide +kernel
theorem dX1_give_5 : decode cX1_give 5 = .ok (.iload_n 3, 1) := by decide +kernel
theorem dX1_give_6 : decode cX1_give 6 = .ok (.invokestatic 88, 3) := by decide +kernel
theorem dX1_give_9 : decode cX1_give 9 = .ok (.aload_n 0, 1) := by decide +kernel
theorem dX1_give_10 : decode cX1_give 10 = .ok (.iload_n 1, 1) := by decide +kernel
theorem dX1_give_11 : decode cX1_give 11 = .ok (.invokevirtual 100, 3) := by decide +kernel
theorem dX1_give_14 : decode cX1_give 14 = .ok (.aload_n 0, 1) := by decide +kernel
theorem dX1_give_15 : decode cX1_give 15 = .ok (.getfield 9, 3) := by decide +kernel
theorem dX1_give_18 : decode cX1_give 18 = .ok (.iload_n 1, 1) := by decide +kernel
theorem dX1_give_19 : decode cX1_give 19 = .ok (.iaload, 1) := by decide +kernel
theorem dX1_give_20 : decode cX1_give 20 = .ok (.istore 5, 2) := by decide +kernel
theorem dX1_give_22 : decode cX1_give 22 = .ok (.iload 5, 2) := by decide +kernel
theorem dX1_give_24 : decode cX1_give 24 = .ok (.iconst (-1), 1) := by decide +kernel
theorem dX1_give_25 : decode cX1_give 25 = .ok (.if_icmp .ne 5, 3) := by decide +kernel
theorem dX1_give_28 : decode cX1_give 28 = .ok (.iconst (-1), 1) := by decide +kernel
theorem dX1_give_29 : decode cX1_give 29 = .ok (.ireturn, 1) := by decide +kernel
theorem dX1_give_30 : decode cX1_give 30 = .ok (.iload 5, 2) := by decide +kernel
theorem dX1_give_32 : decode cX1_give 32 = .ok (.iload_n 2, 1) := by decide +kernel
theorem dX1_give_33 : decode cX1_give 33 = .ok (.if_icmp .eq 12, 3) := by decide +kernel
theorem dX1_give_36 : decode cX1_give 36 = .ok (.iload 5, 2) := by decide +kernel
theorem dX1_give_38 : decode cX1_give 38 = .ok (.iload_n 2, 1) := by decide +kernel
theorem dX1_give_39 : decode cX1_give 39 = .ok (.invokestatic 84, 3) := by decide +kernel
theorem dX1_give_42 : decode cX1_give 42 = .ok (.ifCond .ne 6, 3) := by decide +kernel
theorem dX1_give_45 : decode cX1_give 45 = .ok (.bipush (-2), 2) := by decide +kernel
theorem dX1_give_47 : decode cX1_give 47 = .ok (.ireturn, 1) := by decide +kernel
theorem dX1_give_48 : decode cX1_give 48 = .ok (.aload_n 0, 1) := by decide +kernel
theorem dX1_give_49 : decode cX1_give 49 = .ok (.iload 5, 2) := by decide +kernel
theorem dX1_give_51 : decode cX1_give 51 = .ok (.iconst 1, 1) := by decide +kernel
theorem dX1_give_52 : decode cX1_give 52 = .ok (.invokevirtual 121, 3) := by decide +kernel
theorem dX1_give_55 : decode cX1_give 55 = .ok (.ifCond .ne 6, 3) := by decide +kernel
theorem dX1_give_58 : decode cX1_give 58 = .ok (.bipush (-3), 2) := by decide +kernel
theorem dX1_give_60 : decode cX1_give 60 = .ok (.ireturn, 1) := by decide +kernel
theorem dX1_give_61 : decode cX1_give 61 = .ok (.aload_n 0, 1) := by decide +kernel
theorem dX1_give_62 : decode cX1_give 62 = .ok (.getfield 16, 3) := by decide +kernel
theorem dX1_give_65 : decode cX1_give 65 = .ok (.iload 5, 2) := by decide +kernel
theorem dX1_give_67 : decode cX1_give 67 = .ok (.dup2, 1) := by decide +kernel
theorem dX1_give_68 : decode cX1_give 68 = .ok (.iaload, 1) := by decide +kernel
theorem dX1_give_69 : decode cX1_give 69 = .ok (.iconst 1, 1) := by decide +kernel
theorem dX1_give_70 : decode cX1_give 70 = .ok (.iadd, 1) := by decide +kernel
theorem dX1_give_71 : decode cX1_give 71 = .ok (.iastore, 1) := by decide +kernel
theorem dX1_give_72 : decode cX1_give 72 = .ok (.aload_n 0, 1) := by decide +kernel
theorem dX1_give_73 : decode cX1_give 73 = .ok (.iload_n 2, 1) := by decide +kernel
theorem dX1_give_74 : decode cX1_give 74 = .ok (.iload_n 3, 1) := by decide +kernel
theorem dX1_give_75 : decode cX1_give 75 = .ok (.invokevirtual 109, 3) := by decide +kernel
theorem dX1_give_78 : decode cX1_give 78 = .ok (.astore 6, 2) := by decide +kernel
theorem dX1_give_80 : decode cX1_give 80 = .ok (.aload 6, 2) := by decide +kernel
theorem dX1_give_82 : decode cX1_give 82 = .ok (.ifnull 11, 3) := by decide +kernel
theorem dX1_give_85 : decode cX1_give 85 = .ok (.aload 6, 2) := by decide +kernel
theorem dX1_give_87 : decode cX1_give 87 = .ok (.iload 4, 2) := by decide +kernel
theorem dX1_give_89 : decode cX1_give 89 = .ok (.iconst 1, 1) := by decide +kernel
theorem dX1_give_90 : decode cX1_give 90 = .ok (.invokevirtual 124, 3) := by decide +kernel
theorem dX1_give_93 : decode cX1_give 93 = .ok (.iconst 2, 1) := by decide +kernel
theorem dX1_give_94 : decode cX1_give 94 = .ok (.ireturn, 1) := by decide +kernel
set_option maxRecDepth 20000 in
theorem ggX1_trim_X1_requireSubject : GoodIn wsX1_trim wsX1_requireSubject := goodIn_ca (goodIn_r _ [5, 6, 7] (by decide +kernel) (by decide +kernel)) (goodIn_sub (fun _ h => List.mem_cons_of_mem _ (List.mem_append_right _ h)) (by decide +kernel))
set_option maxRecDepth 20000 in
theorem gX1_trim_X1_requireSubject : GoodIn wsX1_trim (va_wsS RX1 47 yX1_requireSubject wsX1_requireSubject) := goodIn_app (goodIn_of _ (by decide +kernel)) ggX1_trim_X1_requireSubject
set_option maxRecDepth 20000 in
theorem ggX1_trim_X1_requireNumber : GoodIn wsX1_trim wsX1_requireNumber := goodIn_ca (goodIn_r _ [10, 6, 7] (by decide +kernel) (by decide +kernel)) (goodIn_sub (fun _ h => List.mem_cons_of_mem _ (List.mem_append_right _ h)) (by decide +kernel))
set_option maxRecDepth 20000 in
theorem gX1_trim_X1_requireNumber : GoodIn wsX1_trim (va_wsS RX1 103 yX1_requireNumber wsX1_requireNumber) := goodIn_app (goodIn_of _ (by decide +kernel)) ggX1_trim_X1_requireNumber
set_option maxRecDepth 20000 in
theorem ggX1_trim_X1_requireAtMost : GoodIn wsX1_trim wsX1_requireAtMost := goodIn_ca (goodIn_r _ [13, 6, 7] (by decide +kernel) (by decide +kernel)) (goodIn_sub (fun _ h => List.mem_cons_of_mem _ (List.mem_append_right _ h)) (by decide +kernel))
set_option maxRecDepth 20000 in
theorem gX1_trim_X1_requireAtMost : GoodIn wsX1_trim (va_wsS RX1 54 yX1_requireAtMost wsX1_requireAtMost) := goodIn_app (goodIn_of _ (by decide +kernel)) ggX1_trim_X1_requireAtMost
set_option maxRecDepth 20000 in
theorem ggX1_trim_X1_forgetSeen : GoodIn wsX1_trim wsX1_forgetSeen := goodIn_r _ [17, 18, 63, 64, 65, 66, 67, 68, 69, 70] (by decide +kernel) (by decide +kernel)
set_option maxRecDepth 20000 in
theorem gX1_trim_X1_forgetSeen : GoodIn wsX1_trim (wsV RX1 100 RX1 yX1_forgetSeen wsX1_forgetSeen) := goodIn_app (goodIn_of _ (by decide +kernel)) ggX1_trim_X1_forgetSeen
set_option maxRecDepth 20000 in
theorem ggX1_trim_X1_find : GoodIn wsX1_trim wsX1_find := goodIn_r _ [22, 23, 24, 25, 26, 4, 27, 28, 29, 30, 31, 32, 33, 34, 35, 36, 37, 38, 39, 40, 41, 42, 43, 44, 45, 46, 47, 48, 49, 50, 51, 52, 53, 54, 55, 63, 64, 65, 66, 67, 68, 69, 70, 71, 72, 73, 74, 75, 76, 77, 78, 79] (by decide +kernel) (by decide +kernel)
set_option maxRecDepth 20000 in
theorem gX1_trim_X1_find : GoodIn wsX1_trim (wsV RX1 109 RX1 yX1_find wsX1_find) := goodIn_app (goodIn_of _ (by decide +kernel)) ggX1_trim_X1_find
set_option maxRecDepth 20000 in
theorem ggX1_trim_X0_cutTo : GoodIn wsX1_trim wsX0_cutTo := goodIn_r _ [60, 61, 62, 71, 72, 73, 74, 75, 76] (by decide +kernel) (by decide +kernel)
set_option maxRecDepth 20000 in
theorem gX1_trim_X0_cutTo : GoodIn wsX1_trim (wsV RX1 128 RX0 yX0_cutTo wsX0_cutTo) := goodIn_app (goodIn_of _ (by decide +kernel)) ggX1_trim_X0_cutTo
theorem dX1_trim_0 : decode cX1_trim 0 = .ok (.iload_n 1, 1) := by decide +kernel
theorem dX1_trim_1 : decode cX1_trim 1 = .ok (.invokestatic 47, 3) := by decide +kernel
theorem dX1_trim_4 : decode cX1_trim 4 = .ok (.iload_n 2, 1) := by decide +kernel
theorem dX1_trim_5 : decode cX1_trim 5 = .ok (.invokestatic 103, 3) := by decide +kernel
theorem dX1_trim_8 : decode cX1_trim 8 = .ok (.bipush 24, 2) := by decide +kernel
theorem dX1_trim_10 : decode cX1_trim 10 = .ok (.iload_n 3, 1) := by decide +kernel
theorem dX1_trim_11 : decode cX1_trim 11 = .ok (.invokestatic 54, 3) := by decide +kernel
theorem dX1_trim_14 : decode cX1_trim 14 = .ok (.aload_n 0, 1) := by decide +kernel
theorem dX1_trim_15 : decode cX1_trim 15 = .ok (.iload_n 1, 1) := by decide +kernel
theorem dX1_trim_16 : decode cX1_trim 16 = .ok (.invokevirtual 100, 3) := by decide +kernel
theorem dX1_trim_19 : decode cX1_trim 19 = .ok (.aload_n 0, 1) := by decide +kernel
theorem dX1_trim_20 : decode cX1_trim 20 = .ok (.getfield 9, 3) := by decide +kernel
theorem dX1_trim_23 : decode cX1_trim 23 = .ok (.iload_n 1, 1) := by decide +kernel
theorem dX1_trim_24 : decode cX1_trim 24 = .ok (.iaload, 1) := by decide +kernel
theorem dX1_trim_25 : decode cX1_trim 25 = .ok (.istore 4, 2) := by decide +kernel
theorem dX1_trim_27 : decode cX1_trim 27 = .ok (.iload 4, 2) := by decide +kernel
theorem dX1_trim_29 : decode cX1_trim 29 = .ok (.iconst (-1), 1) := by decide +kernel
theorem dX1_trim_30 : decode cX1_trim 30 = .ok (.if_icmp .ne 5, 3) := by decide +kernel
theorem dX1_trim_33 : decode cX1_trim 33 = .ok (.iconst (-1), 1) := by decide +kernel
theorem dX1_trim_34 : decode cX1_trim 34 = .ok (.ireturn, 1) := by decide +kernel
theorem dX1_trim_35 : decode cX1_trim 35 = .ok (.aload_n 0, 1) := by decide +kernel
theorem dX1_trim_36 : decode cX1_trim 36 = .ok (.iload 4, 2) := by decide +kernel
theorem dX1_trim_38 : decode cX1_trim 38 = .ok (.iload_n 2, 1) := by decide +kernel
theorem dX1_trim_39 : decode cX1_trim 39 = .ok (.invokevirtual 109, 3) := by decide +kernel
theorem dX1_trim_42 : decode cX1_trim 42 = .ok (.astore 5, 2) := by decide +kernel
theorem dX1_trim_44 : decode cX1_trim 44 = .ok (.aload 5, 2) := by decide +kernel
theorem dX1_trim_46 : decode cX1_trim 46 = .ok (.ifnonnull 7, 3) := by decide +kernel
theorem dX1_trim_49 : decode cX1_trim 49 = .ok (.iconst 0, 1) := by decide +kernel
theorem dX1_trim_50 : decode cX1_trim 50 = .ok (.goto 9, 3) := by decide +kernel
theorem dX1_trim_53 : decode cX1_trim 53 = .ok (.aload 5, 2) := by decide +kernel
theorem dX1_trim_55 : decode cX1_trim 55 = .ok (.iload_n 3, 1) := by decide +kernel
theorem dX1_trim_56 : decode cX1_trim 56 = .ok (.invokevirtual 128, 3) := by decide +kernel
theorem dX1_trim_59 : decode cX1_trim 59 = .ok (.ireturn, 1) := by decide +kernel
set_option maxRecDepth 20000 in
theorem ggX1_remove_X1_requireSubject : GoodIn wsX1_remove wsX1_requireSubject := goodIn_ca (goodIn_r _ [6, 7, 8] (by decide +kernel) (by decide +kernel)) (goodIn_sub (fun _ h => List.mem_cons_of_mem _ (List.mem_append_right _ h)) (by decide +kernel))
set_option maxRecDepth 20000 in
theorem gX1_remove_X1_requireSubject : GoodIn wsX1_remove (va_wsS RX1 47 yX1_requireSubject wsX1_requireSubject) := goodIn_app (goodIn_of _ (by decide +kernel)) ggX1_remove_X1_requireSubject
set_option maxRecDepth 20000 in
theorem ggX1_remove_X1_requireNumber : GoodIn wsX1_remove wsX1_requireNumber := goodIn_ca (goodIn_r _ [11, 7, 8] (by decide +kernel) (by decide +kernel)) (goodIn_sub (fun _ h => List.mem_cons_of_mem _ (List.mem_append_right _ h)) (by decide +kernel))
set_option maxRecDepth 20000 in
theorem gX1_remove_X1_requireNumber : GoodIn wsX1_remove (va_wsS RX1 103 yX1_requireNumber wsX1_requireNumber) := goodIn_app (goodIn_of _ (by decide +kernel)) ggX1_remove_X1_requireNumber
set_option maxRecDepth 20000 in
theorem ggX1_remove_X1_forgetSeen : GoodIn wsX1_remove wsX1_forgetSeen := goodIn_r _ [15, 16, 63, 64, 65, 66, 67, 68, 69, 70] (by decide +kernel) (by decide +kernel)
set_option maxRecDepth 20000 in
theorem gX1_remove_X1_forgetSeen : GoodIn wsX1_remove (wsV RX1 100 RX1 yX1_forgetSeen wsX1_forgetSeen) := goodIn_app (goodIn_of _ (by decide +kernel)) ggX1_remove_X1_forgetSeen
set_option maxRecDepth 20000 in
theorem ggX1_remove_X1_addressOf : GoodIn wsX1_remove wsX1_addressOf := goodIn_r _ [19] (by decide +kernel) (by decide +kernel)
set_option maxRecDepth 20000 in
theorem gX1_remove_X1_addressOf : GoodIn wsX1_remove (va_wsS RX1 132 yX1_addressOf wsX1_addressOf) := goodIn_app (goodIn_of _ (by decide +kernel)) ggX1_remove_X1_addressOf
set_option maxRecDepth 20000 in
theorem ggX1_remove_X1_placeOf : GoodIn wsX1_remove wsX1_placeOf := goodIn_r _ [23, 2, 24, 25, 26, 27, 28, 29, 30, 31, 32, 33, 34, 35, 36, 37, 38, 39, 40, 41, 42, 43, 44, 45, 46, 47, 48, 63, 64, 65, 66, 67, 68, 69, 70, 71, 72, 73, 74, 75, 76, 77, 78, 79] (by decide +kernel) (by decide +kernel)
set_option maxRecDepth 20000 in
theorem gX1_remove_X1_placeOf : GoodIn wsX1_remove (wsV RX1 136 RX1 yX1_placeOf wsX1_placeOf) := goodIn_app (goodIn_of _ (by decide +kernel)) ggX1_remove_X1_placeOf
set_option maxRecDepth 20000 in
theorem ggX1_remove_Jx4a65c_remove_915e3 : GoodIn wsX1_remove wsJx4a65c_remove_915e3 := goodIn_r _ [52, 31, 48, 36, 37, 38, 39, 40, 41, 42, 43, 53, 54, 55, 29, 56, 57, 58, 59, 60, 61, 62, 77, 78, 79] (by decide +kernel) (by decide +kernel)
set_option maxRecDepth 20000 in
theorem gX1_remove_Jx4a65c_remove_915e3 : GoodIn wsX1_remove (wsV RX1 139 RJx4a65c yJx4a65c_remove_915e3 wsJx4a65c_remove_915e3) := goodIn_app (goodIn_of _ (by decide +kernel)) ggX1_remove_Jx4a65c_remove_915e3
theorem dX1_remove_0 : decode cX1_remove 0 = .ok (.iload_n 1, 1) := by decide +kernel
theorem dX1_remove_1 : decode cX1_remove 1 = .ok (.invokestatic 47, 3) := by decide +kernel
theorem dX1_remove_4 : decode cX1_remove 4 = .ok (.iload_n 2, 1) := by decide +kernel
theorem dX1_remove_5 : decode cX1_remove 5 = .ok (.invokestatic 103, 3) := by decide +kernel
theorem dX1_remove_8 : decode cX1_remove 8 = .ok (.aload_n 0, 1) := by decide +kernel
theorem dX1_remove_9 : decode cX1_remove 9 = .ok (.iload_n 1, 1) := by decide +kernel
theorem dX1_remove_10 : decode cX1_remove 10 = .ok (.invokevirtual 100, 3) := by decide +kernel
theorem dX1_remove_13 : decode cX1_remove 13 = .ok (.aload_n 0, 1) := by decide +kernel
theorem dX1_remove_14 : decode cX1_remove 14 = .ok (.getfield 9, 3) := by decide +kernel
theorem dX1_remove_17 : decode cX1_remove 17 = .ok (.iload_n 1, 1) := by decide +kernel
theorem dX1_remove_18 : decode cX1_remove 18 = .ok (.iaload, 1) := by decide +kernel
theorem dX1_remove_19 : decode cX1_remove 19 = .ok (.istore_n 3, 1) := by decide +kernel
theorem dX1_remove_20 : decode cX1_remove 20 = .ok (.iload_n 3, 1) := by decide +kernel
theorem dX1_remove_21 : decode cX1_remove 21 = .ok (.iconst (-1), 1) := by decide +kernel
theorem dX1_remove_22 : decode cX1_remove 22 = .ok (.if_icmp .ne 5, 3) := by decide +kernel
theorem dX1_remove_25 : decode cX1_remove 25 = .ok (.iconst (-1), 1) := by decide +kernel
theorem dX1_remove_26 : decode cX1_remove 26 = .ok (.ireturn, 1) := by decide +kernel
theorem dX1_remove_27 : decode cX1_remove 27 = .ok (.aload_n 0, 1) := by decide +kernel
theorem dX1_remove_28 : decode cX1_remove 28 = .ok (.iload_n 3, 1) := by decide +kernel
theorem dX1_remove_29 : decode cX1_remove 29 = .ok (.iload_n 2, 1) := by decide +kernel
theorem dX1_remove_30 : decode cX1_remove 30 = .ok (.invokestatic 132, 3) := by decide +kernel
theorem dX1_remove_33 : decode cX1_remove 33 = .ok (.invokevirtual 136, 3) := by decide +kernel
theorem dX1_remove_36 : decode cX1_remove 36 = .ok (.istore 4, 2) := by decide +kernel
theorem dX1_remove_38 : decode cX1_remove 38 = .ok (.iload 4, 2) := by decide +kernel
theorem dX1_remove_40 : decode cX1_remove 40 = .ok (.iconst (-1), 1) := by decide +kernel
theorem dX1_remove_41 : decode cX1_remove 41 = .ok (.if_icmp .ne 5, 3) := by decide +kernel
theorem dX1_remove_44 : decode cX1_remove 44 = .ok (.iconst 0, 1) := by decide +kernel
theorem dX1_remove_45 : decode cX1_remove 45 = .ok (.ireturn, 1) := by decide +kernel
theorem dX1_remove_46 : decode cX1_remove 46 = .ok (.aload_n 0, 1) := by decide +kernel
theorem dX1_remove_47 : decode cX1_remove 47 = .ok (.getfield 22, 3) := by decide +kernel
theorem dX1_remove_50 : decode cX1_remove 50 = .ok (.iload 4, 2) := by decide +kernel
theorem dX1_remove_52 : decode cX1_remove 52 = .ok (.invokevirtual 139, 3) := by decide +kernel
theorem dX1_remove_55 : decode cX1_remove 55 = .ok (.pop, 1) := by decide +kernel
theorem dX1_remove_56 : decode cX1_remove 56 = .ok (.iconst 1, 1) := by decide +kernel
theorem dX1_remove_57 : decode cX1_remove 57 = .ok (.ireturn, 1) := by decide +kernel
set_option maxRecDepth 20000 in
theorem ggX1_read_X1_requireSubject : GoodIn wsX1_read wsX1_requireSubject := goodIn_ca (goodIn_r _ [6, 7, 8] (by decide +kernel) (by decide +kernel)) (goodIn_sub (fun _ h => List.mem_cons_of_mem _ (List.mem_append_right _ h)) (by decide +kernel))
set_option maxRecDepth 20000 in
theorem gX1_read_X1_requireSubject : GoodIn wsX1_read (va_wsS RX1 47 yX1_requireSubject wsX1_requireSubject) := goodIn_app (goodIn_of _ (by decide +kernel)) ggX1_read_X1_requireSubject
set_option maxRecDepth 20000 in
theorem ggX1_read_X1_requireFile : GoodIn wsX1_read wsX1_requireFile := goodIn_ca (goodIn_r _ [11, 12, 13, 5, 14, 7, 8, 15, 16, 17] (by decide +kernel) (by decide +kernel)) (goodIn_sub (fun _ h => List.mem_cons_of_mem _ (List.mem_append_right _ h)) (by decide +kernel))
set_option maxRecDepth 20000 in
theorem gX1_read_X1_requireFile : GoodIn wsX1_read (va_wsS RX1 88 yX1_requireFile wsX1_requireFile) := goodIn_app (goodIn_of _ (by decide +kernel)) ggX1_read_X1_requireFile
set_option maxRecDepth 20000 in
theorem ggX1_read_X1_requireCell : GoodIn wsX1_read wsX1_requireCell := goodIn_ca (goodIn_r _ [20, 7, 8] (by decide +kernel) (by decide +kernel)) (goodIn_sub (fun _ h => List.mem_cons_of_mem _ (List.mem_append_right _ h)) (by decide +kernel))
set_option maxRecDepth 20000 in
theorem gX1_read_X1_requireCell : GoodIn wsX1_read (va_wsS RX1 106 yX1_requireCell wsX1_requireCell) := goodIn_app (goodIn_of _ (by decide +kernel)) ggX1_read_X1_requireCell
set_option maxRecDepth 20000 in
theorem ggX1_read_X1_forgetSeen : GoodIn wsX1_read wsX1_forgetSeen := goodIn_r _ [24, 25, 97, 98, 99, 100, 101, 102, 103, 104] (by decide +kernel) (by decide +kernel)
set_option maxRecDepth 20000 in
theorem gX1_read_X1_forgetSeen : GoodIn wsX1_read (wsV RX1 100 RX1 yX1_forgetSeen wsX1_forgetSeen) := goodIn_app (goodIn_of _ (by decide +kernel)) ggX1_read_X1_forgetSeen
set_option maxRecDepth 20000 in
theorem ggX1_read_X1_verdictOnReading : GoodIn wsX1_read wsX1_verdictOnReading := goodIn_r _ [29, 30, 31, 32, 5, 33, 34, 35, 36, 37, 38, 39, 40, 41, 42, 43, 44, 45, 46, 47, 48, 97, 98, 99, 100, 101, 102, 103, 104] (by decide +kernel) (by decide +kernel)
set_option maxRecDepth 20000 in
theorem gX1_read_X1_verdictOnReading : GoodIn wsX1_read (wsV RX1 143 RX1 yX1_verdictOnReading wsX1_verdictOnReading) := goodIn_app (goodIn_of _ (by decide +kernel)) ggX1_read_X1_verdictOnReading
set_option maxRecDepth 20000 in
theorem ggX1_read_X1_find : GoodIn wsX1_read wsX1_find := goodIn_r _ [52, 53, 54, 55, 56, 5, 57, 58, 59, 60, 61, 62, 63, 64, 65, 66, 67, 68, 69, 70, 71, 72, 73, 74, 75, 76, 77, 78, 79, 80, 81, 82, 83, 84, 85, 97, 98, 99, 100, 101, 102, 103, 104, 91, 92, 93, 94, 95, 96, 105, 106, 107] (by decide +kernel) (by decide +kernel)
set_option maxRecDepth 20000 in
theorem gX1_read_X1_find : GoodIn wsX1_read (wsV RX1 109 RX1 yX1_find wsX1_find) := goodIn_app (goodIn_of _ (by decide +kernel)) ggX1_read_X1_find
set_option maxRecDepth 20000 in
theorem ggX1_read_X1_show : GoodIn wsX1_read wsX1_show := goodIn_r _ [89, 25, 90, 97, 98, 99, 100, 101, 102, 103, 104] (by decide +kernel) (by decide +kernel)
set_option maxRecDepth 20000 in
theorem gX1_read_X1_show : GoodIn wsX1_read (wsV RX1 146 RX1 yX1_show wsX1_show) := goodIn_app (goodIn_of _ (by decide +kernel)) ggX1_read_X1_show
theorem dX1_read_0 : decode cX1_read 0 = .ok (.iload_n 1, 1) := by decide +kernel
theorem dX1_read_1 : decode cX1_read 1 = .ok (.invokestatic 47, 3) := by decide +kernel
theorem dX1_read_4 : decode cX1_read 4 = .ok (.iload_n 2, 1) := by decide +kernel
theorem dX1_read_5 : decode cX1_read 5 = .ok (.iload_n 3, 1) := by decide +kernel
theorem dX1_read_6 : decode cX1_read 6 = .ok (.invokestatic 88, 3) := by decide +kernel
theorem dX1_read_9 : decode cX1_read 9 = .ok (.iload 4, 2) := by decide +kernel
theorem dX1_read_11 : decode cX1_read 11 = .ok (.invokestatic 106, 3) := by decide +kernel
theorem dX1_read_14 : decode cX1_read 14 = .ok (.aload_n 0, 1) := by decide +kernel
theorem dX1_read_15 : decode cX1_read 15 = .ok (.iload_n 1, 1) := by decide +kernel
theorem dX1_read_16 : decode cX1_read 16 = .ok (.invokevirtual 100, 3) := by decide +kernel
theorem dX1_read_19 : decode cX1_read 19 = .ok (.aload_n 0, 1) := by decide +kernel
theorem dX1_read_20 : decode cX1_read 20 = .ok (.iload_n 1, 1) := by decide +kernel
theorem dX1_read_21 : decode cX1_read 21 = .ok (.iload_n 2, 1) := by decide +kernel
theorem dX1_read_22 : decode cX1_read 22 = .ok (.invokevirtual 143, 3) := by decide +kernel
theorem dX1_read_25 : decode cX1_read 25 = .ok (.istore 5, 2) := by decide +kernel
theorem dX1_read_27 : decode cX1_read 27 = .ok (.iload 5, 2) := by decide +kernel
theorem dX1_read_29 : decode cX1_read 29 = .ok (.ifCond .eq 6, 3) := by decide +kernel
theorem dX1_read_32 : decode cX1_read 32 = .ok (.iload 5, 2) := by decide +kernel
theorem dX1_read_34 : decode cX1_read 34 = .ok (.ireturn, 1) := by decide +kernel
theorem dX1_read_35 : decode cX1_read 35 = .ok (.aload_n 0, 1) := by decide +kernel
theorem dX1_read_36 : decode cX1_read 36 = .ok (.iload_n 2, 1) := by decide +kernel
theorem dX1_read_37 : decode cX1_read 37 = .ok (.iload_n 3, 1) := by decide +kernel
theorem dX1_read_38 : decode cX1_read 38 = .ok (.invokevirtual 109, 3) := by decide +kernel
theorem dX1_read_41 : decode cX1_read 41 = .ok (.astore 6, 2) := by decide +kernel
theorem dX1_read_43 : decode cX1_read 43 = .ok (.aload 6, 2) := by decide +kernel
theorem dX1_read_45 : decode cX1_read 45 = .ok (.ifnull 13, 3) := by decide +kernel
theorem dX1_read_48 : decode cX1_read 48 = .ok (.iload 4, 2) := by decide +kernel
theorem dX1_read_50 : decode cX1_read 50 = .ok (.aload 6, 2) := by decide +kernel
theorem dX1_read_52 : decode cX1_read 52 = .ok (.getfield 113, 3) := by decide +kernel
theorem dX1_read_55 : decode cX1_read 55 = .ok (.if_icmp .lt 5, 3) := by decide +kernel
theorem dX1_read_58 : decode cX1_read 58 = .ok (.iconst 0, 1) := by decide +kernel
theorem dX1_read_59 : decode cX1_read 59 = .ok (.ireturn, 1) := by decide +kernel
theorem dX1_read_60 : decode cX1_read 60 = .ok (.aload_n 0, 1) := by decide +kernel
theorem dX1_read_61 : decode cX1_read 61 = .ok (.iload_n 1, 1) := by decide +kernel
theorem dX1_read_62 : decode cX1_read 62 = .ok (.aload 6, 2) := by decide +kernel
theorem dX1_read_64 : decode cX1_read 64 = .ok (.getfield 118, 3) := by decide +kernel
theorem dX1_read_67 : decode cX1_read 67 = .ok (.iload 4, 2) := by decide +kernel
theorem dX1_read_69 : decode cX1_read 69 = .ok (.iaload, 1) := by decide +kernel
theorem dX1_read_70 : decode cX1_read 70 = .ok (.invokevirtual 146, 3) := by decide +kernel
theorem dX1_read_73 : decode cX1_read 73 = .ok (.iconst 1, 1) := by decide +kernel
theorem dX1_read_74 : decode cX1_read 74 = .ok (.ireturn, 1) := by decide +kernel
set_option maxRecDepth 20000 in
theorem ggX1_size_X1_requireSubject : GoodIn wsX1_size wsX1_requireSubject := goodIn_ca (goodIn_r _ [5, 6, 7] (by decide +kernel) (by decide +kernel)) (goodIn_sub (fun _ h => List.mem_cons_of_mem _ (List.mem_append_right _ h)) (by decide +kernel))
set_option maxRecDepth 20000 in
theorem gX1_size_X1_requireSubject : GoodIn wsX1_size (va_wsS RX1 47 yX1_requireSubject wsX1_requireSubject) := goodIn_app (goodIn_of _ (by decide +kernel)) ggX1_size_X1_requireSubject
set_option maxRecDepth 20000 in
theorem ggX1_size_X1_requireFile : GoodIn wsX1_size wsX1_requireFile := goodIn_ca (goodIn_r _ [10, 11, 12, 4, 13, 6, 7, 14, 15, 16] (by decide +kernel) (by decide +kernel)) (goodIn_sub (fun _ h => List.mem_cons_of_mem _ (List.mem_append_right _ h)) (by decide +kernel))
set_option maxRecDepth 20000 in
theorem gX1_size_X1_requireFile : GoodIn wsX1_size (va_wsS RX1 88 yX1_requireFile wsX1_requireFile) := goodIn_app (goodIn_of _ (by decide +kernel)) ggX1_size_X1_requireFile
set_option maxRecDepth 20000 in
theorem ggX1_size_X1_forgetSeen : GoodIn wsX1_size wsX1_forgetSeen := goodIn_r _ [20, 21, 88, 89, 90, 91, 92, 93, 94, 95] (by decide +kernel) (by decide +kernel)
set_option maxRecDepth 20000 in
theorem gX1_size_X1_forgetSeen : GoodIn wsX1_size (wsV RX1 100 RX1 yX1_forgetSeen wsX1_forgetSeen) := goodIn_app (goodIn_of _ (by decide +kernel)) ggX1_size_X1_forgetSeen
set_option maxRecDepth 20000 in
theorem ggX1_size_X1_verdictOnReading : GoodIn wsX1_size wsX1_verdictOnReading := goodIn_r _ [25, 26, 27, 28, 4, 29, 30, 31, 32, 33, 34, 35, 36, 37, 38, 39, 40, 41, 42, 43, 44, 88, 89, 90, 91, 92, 93, 94, 95] (by decide +kernel) (by decide +kernel)
set_option maxRecDepth 20000 in
theorem gX1_size_X1_verdictOnReading : GoodIn wsX1_size (wsV RX1 143 RX1 yX1_verdictOnReading wsX1_verdictOnReading) := goodIn_app (goodIn_of _ (by decide +kernel)) ggX1_size_X1_verdictOnReading
set_option maxRecDepth 20000 in
theorem ggX1_size_X1_find : GoodIn wsX1_size wsX1_find := goodIn_r _ [48, 49, 50, 51, 52, 4, 53, 54, 55, 56, 57, 58, 59, 60, 61, 62, 63, 64, 65, 66, 67, 68, 69, 70, 71, 72, 73, 74, 75, 76, 77, 78, 79, 80, 81, 88, 89, 90, 91, 92, 93, 94, 95, 82, 83, 84, 85, 86, 87, 96, 97, 98] (by decide +kernel) (by decide +kernel)
set_option maxRecDepth 20000 in
theorem gX1_size_X1_find : GoodIn wsX1_size (wsV RX1 109 RX1 yX1_find wsX1_find) := goodIn_app (goodIn_of _ (by decide +kernel)) ggX1_size_X1_find
theorem dX1_size_0 : decode cX1_size 0 = .ok (.iload_n 1, 1) := by decide +kernel
theorem dX1_size_1 : decode cX1_size 1 = .ok (.invokestatic 47, 3) := by decide +kernel
theorem dX1_size_4 : decode cX1_size 4 = .ok (.iload_n 2, 1) := by decide +kernel
theorem dX1_size_5 : decode cX1_size 5 = .ok (.iload_n 3, 1) := by decide +kernel
theorem dX1_size_6 : decode cX1_size 6 = .ok (.invokestatic 88, 3) := by decide +kernel
theorem dX1_size_9 : decode cX1_size 9 = .ok (.aload_n 0, 1) := by decide +kernel
theorem dX1_size_10 : decode cX1_size 10 = .ok (.iload_n 1, 1) := by decide +kernel
theorem dX1_size_11 : decode cX1_size 11 = .ok (.invokevirtual 100, 3) := by decide +kernel
theorem dX1_size_14 : decode cX1_size 14 = .ok (.aload_n 0, 1) := by decide +kernel
theorem dX1_size_15 : decode cX1_size 15 = .ok (.iload_n 1, 1) := by decide +kernel
theorem dX1_size_16 : decode cX1_size 16 = .ok (.iload_n 2, 1) := by decide +kernel
theorem dX1_size_17 : decode cX1_size 17 = .ok (.invokevirtual 143, 3) := by decide +kernel
theorem dX1_size_20 : decode cX1_size 20 = .ok (.istore 4, 2) := by decide +kernel
theorem dX1_size_22 : decode cX1_size 22 = .ok (.iload 4, 2) := by decide +kernel
theorem dX1_size_24 : decode cX1_size 24 = .ok (.ifCond .eq 6, 3) := by decide +kernel
theorem dX1_size_27 : decode cX1_size 27 = .ok (.iload 4, 2) := by decide +kernel
theorem dX1_size_29 : decode cX1_size 29 = .ok (.ireturn, 1) := by decide +kernel
theorem dX1_size_30 : decode cX1_size 30 = .ok (.aload_n 0, 1) := by decide +kernel
theorem dX1_size_31 : decode cX1_size 31 = .ok (.iload_n 2, 1) := by decide +kernel
theorem dX1_size_32 : decode cX1_size 32 = .ok (.iload_n 3, 1) := by decide +kernel
theorem dX1_size_33 : decode cX1_size 33 = .ok (.invokevirtual 109, 3) := by decide +kernel
theorem dX1_size_36 : decode cX1_size 36 = .ok (.astore 5, 2) := by decide +kernel
theorem dX1_size_38 : decode cX1_size 38 = .ok (.aload 5, 2) := by decide +kernel
theorem dX1_size_40 : decode cX1_size 40 = .ok (.ifnonnull 7, 3) := by decide +kernel
theorem dX1_size_43 : decode cX1_size 43 = .ok (.iconst 0, 1) := by decide +kernel
theorem dX1_size_44 : decode cX1_size 44 = .ok (.goto 8, 3) := by decide +kernel
theorem dX1_size_47 : decode cX1_size 47 = .ok (.aload 5, 2) := by decide +kernel
theorem dX1_size_49 : decode cX1_size 49 = .ok (.getfield 113, 3) := by decide +kernel
theorem dX1_size_52 : decode cX1_size 52 = .ok (.ireturn, 1) := by decide +kernel
set_option maxRecDepth 20000 in
theorem ggX1_there_X1_requireSubject : GoodIn wsX1_there wsX1_requireSubject := goodIn_ca (goodIn_r _ [4, 5, 6] (by decide +kernel) (by decide +kernel)) (goodIn_sub (fun _ h => List.mem_cons_of_mem _ (List.mem_append_right _ h)) (by decide +kernel))
set_option maxRecDepth 20000 in
theorem gX1_there_X1_requireSubject : GoodIn wsX1_there (va_wsS RX1 47 yX1_requireSubject wsX1_requireSubject) := goodIn_app (goodIn_of _ (by decide +kernel)) ggX1_there_X1_requireSubject
set_option maxRecDepth 20000 in
theorem ggX1_there_X1_requireFile : GoodIn wsX1_there wsX1_requireFile := goodIn_ca (goodIn_r _ [9, 10, 11, 3, 12, 5, 6, 13, 14, 15] (by decide +kernel) (by decide +kernel)) (goodIn_sub (fun _ h => List.mem_cons_of_mem _ (List.mem_append_right _ h)) (by decide +kernel))
set_option maxRecDepth 20000 in
theorem gX1_there_X1_requireFile : GoodIn wsX1_there (va_wsS RX1 88 yX1_requireFile wsX1_requireFile) := goodIn_app (goodIn_of _ (by decide +kernel)) ggX1_there_X1_requireFile
set_option maxRecDepth 20000 in
theorem ggX1_there_X1_forgetSeen : GoodIn wsX1_there wsX1_forgetSeen := goodIn_r _ [19, 20, 81, 82, 83, 84, 85, 86, 87, 88] (by decide +kernel) (by decide +kernel)
set_option maxRecDepth 20000 in
theorem gX1_there_X1_forgetSeen : GoodIn wsX1_there (wsV RX1 100 RX1 yX1_forgetSeen wsX1_forgetSeen) := goodIn_app (goodIn_of _ (by decide +kernel)) ggX1_there_X1_forgetSeen
set_option maxRecDepth 20000 in
theorem ggX1_there_X1_verdictOnReading : GoodIn wsX1_there wsX1_verdictOnReading := goodIn_r _ [24, 25, 26, 27, 3, 28, 29, 30, 31, 32, 33, 34, 35, 36, 37, 38, 39, 40, 41, 42, 43, 81, 82, 83, 84, 85, 86, 87, 88] (by decide +kernel) (by decide +kernel)
set_option maxRecDepth 20000 in
theorem gX1_there_X1_verdictOnReading : GoodIn wsX1_there (wsV RX1 143 RX1 yX1_verdictOnReading wsX1_verdictOnReading) := goodIn_app (goodIn_of _ (by decide +kernel)) ggX1_there_X1_verdictOnReading
set_option maxRecDepth 20000 in
theorem ggX1_there_X1_find : GoodIn wsX1_there wsX1_find := goodIn_r _ [47, 48, 49, 50, 51, 3, 52, 53, 54, 55, 56, 57, 58, 59, 60, 61, 62, 63, 64, 65, 66, 67, 68, 69, 70, 71, 72, 73, 74, 75, 76, 77, 78, 79, 80, 81, 82, 83, 84, 85, 86, 87, 88, 89, 90, 91, 92, 93, 94, 95, 96, 97] (by decide +kernel) (by decide +kernel)
set_option maxRecDepth 20000 in
theorem gX1_there_X1_find : GoodIn wsX1_there (wsV RX1 109 RX1 yX1_find wsX1_find) := goodIn_app (goodIn_of _ (by decide +kernel)) ggX1_there_X1_find
theorem dX1_there_0 : decode cX1_there 0 = .ok (.iload_n 1, 1) := by decide +kernel
theorem dX1_there_1 : decode cX1_there 1 = .ok (.invokestatic 47, 3) := by decide +kernel
theorem dX1_there_4 : decode cX1_there 4 = .ok (.iload_n 2, 1) := by decide +kernel
theorem dX1_there_5 : decode cX1_there 5 = .ok (.iload_n 3, 1) := by decide +kernel
theorem dX1_there_6 : decode cX1_there 6 = .ok (.invokestatic 88, 3) := by decide +kernel
theorem dX1_there_9 : decode cX1_there 9 = .ok (.aload_n 0, 1) := by decide +kernel
theorem dX1_there_10 : decode cX1_there 10 = .ok (.iload_n 1, 1) := by decide +kernel
theorem dX1_there_11 : decode cX1_there 11 = .ok (.invokevirtual 100, 3) := by decide +kernel
theorem dX1_there_14 : decode cX1_there 14 = .ok (.aload_n 0, 1) := by decide +kernel
theorem dX1_there_15 : decode cX1_there 15 = .ok (.iload_n 1, 1) := by decide +kernel
theorem dX1_there_16 : decode cX1_there 16 = .ok (.iload_n 2, 1) := by decide +kernel
theorem dX1_there_17 : decode cX1_there 17 = .ok (.invokevirtual 143, 3) := by decide +kernel
theorem dX1_there_20 : decode cX1_there 20 = .ok (.istore 4, 2) := by decide +kernel
theorem dX1_there_22 : decode cX1_there 22 = .ok (.iload 4, 2) := by decide +kernel
theorem dX1_there_24 : decode cX1_there 24 = .ok (.ifCond .eq 6, 3) := by decide +kernel
theorem dX1_there_27 : decode cX1_there 27 = .ok (.iload 4, 2) := by decide +kernel
theorem dX1_there_29 : decode cX1_there 29 = .ok (.ireturn, 1) := by decide +kernel
theorem dX1_there_30 : decode cX1_there 30 = .ok (.aload_n 0, 1) := by decide +kernel
theorem dX1_there_31 : decode cX1_there 31 = .ok (.iload_n 2, 1) := by decide +kernel
theorem dX1_there_32 : decode cX1_there 32 = .ok (.iload_n 3, 1) := by decide +kernel
theorem dX1_there_33 : decode cX1_there 33 = .ok (.invokevirtual 109, 3) := by decide +kernel
theorem dX1_there_36 : decode cX1_there 36 = .ok (.ifnonnull 7, 3) := by decide +kernel
theorem dX1_there_39 : decode cX1_there 39 = .ok (.iconst 0, 1) := by decide +kernel
theorem dX1_there_40 : decode cX1_there 40 = .ok (.goto 4, 3) := by decide +kernel
theorem dX1_there_43 : decode cX1_there 43 = .ok (.iconst 1, 1) := by decide +kernel
theorem dX1_there_44 : decode cX1_there 44 = .ok (.ireturn, 1) := by decide +kernel
set_option maxRecDepth 20000 in
theorem ggX1_listed_X1_requireSubject : GoodIn wsX1_listed wsX1_requireSubject := goodIn_ca (goodIn_r _ [5, 6, 7] (by decide +kernel) (by decide +kernel)) (goodIn_sub (fun _ h => List.mem_cons_of_mem _ (List.mem_append_right _ h)) (by decide +kernel))
set_option maxRecDepth 20000 in
theorem gX1_listed_X1_requireSubject : GoodIn wsX1_listed (va_wsS RX1 47 yX1_requireSubject wsX1_requireSubject) := goodIn_app (goodIn_of _ (by decide +kernel)) ggX1_listed_X1_requireSubject
set_option maxRecDepth 20000 in
theorem ggX1_listed_X1_requireFile : GoodIn wsX1_listed wsX1_requireFile := goodIn_ca (goodIn_r _ [10, 11, 12, 4, 13, 6, 7, 14, 15, 16] (by decide +kernel) (by decide +kernel)) (goodIn_sub (fun _ h => List.mem_cons_of_mem _ (List.mem_append_right _ h)) (by decide +kernel))
set_option maxRecDepth 20000 in
theorem gX1_listed_X1_requireFile : GoodIn wsX1_listed (va_wsS RX1 88 yX1_requireFile wsX1_requireFile) := goodIn_app (goodIn_of _ (by decide +kernel)) ggX1_listed_X1_requireFile
set_option maxRecDepth 20000 in
theorem ggX1_listed_X1_forgetSeen : GoodIn wsX1_listed wsX1_forgetSeen := goodIn_r _ [20, 1, 86, 87, 88, 89, 90, 91, 92, 93] (by decide +kernel) (by decide +kernel)
set_option maxRecDepth 20000 in
theorem gX1_listed_X1_forgetSeen : GoodIn wsX1_listed (wsV RX1 100 RX1 yX1_forgetSeen wsX1_forgetSeen) := goodIn_app (goodIn_of _ (by decide +kernel)) ggX1_listed_X1_forgetSeen
set_option maxRecDepth 20000 in
theorem ggX1_listed_X1_verdictOnReading : GoodIn wsX1_listed wsX1_verdictOnReading := goodIn_r _ [24, 25, 26, 27, 4, 28, 29, 30, 31, 32, 33, 34, 35, 36, 37, 38, 39, 40, 41, 42, 43, 86, 87, 88, 89, 90, 91, 92, 93] (by decide +kernel) (by decide +kernel)
set_option maxRecDepth 20000 in
theorem gX1_listed_X1_verdictOnReading : GoodIn wsX1_listed (wsV RX1 143 RX1 yX1_verdictOnReading wsX1_verdictOnReading) := goodIn_app (goodIn_of _ (by decide +kernel)) ggX1_listed_X1_verdictOnReading
set_option maxRecDepth 20000 in
theorem ggX1_listed_X1_addressOf : GoodIn wsX1_listed wsX1_addressOf := goodIn_r _ [46] (by decide +kernel) (by decide +kernel)
set_option maxRecDepth 20000 in
theorem gX1_listed_X1_addressOf : GoodIn wsX1_listed (va_wsS RX1 132 yX1_addressOf wsX1_addressOf) := goodIn_app (goodIn_of _ (by decide +kernel)) ggX1_listed_X1_addressOf
set_option maxRecDepth 20000 in
theorem ggX1_listed_X1_showFilesIn : GoodIn wsX1_listed wsX1_showFilesIn := goodIn_r _ [50, 25, 51, 52, 53, 54, 55, 56, 57, 58, 59, 60, 61, 62, 63, 64, 65, 66, 67, 68, 69, 70, 71, 72, 73, 74, 75, 76, 77, 78, 79, 4, 80, 26, 27, 28, 29, 30, 31, 32, 33, 34, 35, 36, 37, 38, 39, 40, 41, 42, 43, 81, 82, 83, 84, 1, 85, 86, 87, 88, 89, 90, 91, 92, 93, 94, 95, 96, 97, 98, 99, 100, 101, 102] (by decide +kernel) (by decide +kernel)
set_option maxRecDepth 20000 in
theorem gX1_listed_X1_showFilesIn : GoodIn wsX1_listed (wsV RX1 149 RX1 yX1_showFilesIn wsX1_showFilesIn) := goodIn_app (goodIn_of _ (by decide +kernel)) ggX1_listed_X1_showFilesIn
theorem dX1_listed_0 : decode cX1_listed 0 = .ok (.iload_n 1, 1) := by decide +kernel
theorem dX1_listed_1 : decode cX1_listed 1 = .ok (.invokestatic 47, 3) := by decide +kernel
theorem dX1_listed_4 : decode cX1_listed 4 = .ok (.iload_n 2, 1) := by decide +kernel
theorem dX1_listed_5 : decode cX1_listed 5 = .ok (.iload_n 3, 1) := by decide +kernel
theorem dX1_listed_6 : decode cX1_listed 6 = .ok (.invokestatic 88, 3) := by decide +kernel
theorem dX1_listed_9 : decode cX1_listed 9 = .ok (.aload_n 0, 1) := by decide +kernel
theorem dX1_listed_10 : decode cX1_listed 10 = .ok (.iload_n 1, 1) := by decide +kernel
theorem dX1_listed_11 : decode cX1_listed 11 = .ok (.invokevirtual 100, 3) := by decide +kernel
theorem dX1_listed_14 : decode cX1_listed 14 = .ok (.aload_n 0, 1) := by decide +kernel
theorem dX1_listed_15 : decode cX1_listed 15 = .ok (.iload_n 1, 1) := by decide +kernel
theorem dX1_listed_16 : decode cX1_listed 16 = .ok (.iload_n 2, 1) := by decide +kernel
theorem dX1_listed_17 : decode cX1_listed 17 = .ok (.invokevirtual 143, 3) := by decide +kernel
theorem dX1_listed_20 : decode cX1_listed 20 = .ok (.istore 4, 2) := by decide +kernel
theorem dX1_listed_22 : decode cX1_listed 22 = .ok (.iload 4, 2) := by decide +kernel
theorem dX1_listed_24 : decode cX1_listed 24 = .ok (.ifCond .eq 6, 3) := by decide +kernel
theorem dX1_listed_27 : decode cX1_listed 27 = .ok (.iload 4, 2) := by decide +kernel
theorem dX1_listed_29 : decode cX1_listed 29 = .ok (.ireturn, 1) := by decide +kernel
theorem dX1_listed_30 : decode cX1_listed 30 = .ok (.aload_n 0, 1) := by decide +kernel
theorem dX1_listed_31 : decode cX1_listed 31 = .ok (.iload_n 2, 1) := by decide +kernel
theorem dX1_listed_32 : decode cX1_listed 32 = .ok (.iload_n 3, 1) := by decide +kernel
theorem dX1_listed_33 : decode cX1_listed 33 = .ok (.invokestatic 132, 3) := by decide +kernel
theorem dX1_listed_36 : decode cX1_listed 36 = .ok (.iload_n 1, 1) := by decide +kernel
theorem dX1_listed_37 : decode cX1_listed 37 = .ok (.invokevirtual 149, 3) := by decide +kernel
theorem dX1_listed_40 : decode cX1_listed 40 = .ok (.aload_n 0, 1) := by decide +kernel
theorem dX1_listed_41 : decode cX1_listed 41 = .ok (.getfield 38, 3) := by decide +kernel
theorem dX1_listed_44 : decode cX1_listed 44 = .ok (.iload_n 1, 1) := by decide +kernel
theorem dX1_listed_45 : decode cX1_listed 45 = .ok (.iaload, 1) := by decide +kernel
theorem dX1_listed_46 : decode cX1_listed 46 = .ok (.ireturn, 1) := by decide +kernel
set_option maxRecDepth 20000 in
theorem ggX1_release_X1_requireSubject : GoodIn wsX1_release wsX1_requireSubject := goodIn_ca (goodIn_r _ [6, 7, 8] (by decide +kernel) (by decide +kernel)) (goodIn_sub (fun _ h => List.mem_cons_of_mem _ (List.mem_append_right _ h)) (by decide +kernel))
set_option maxRecDepth 20000 in
theorem gX1_release_X1_requireSubject : GoodIn wsX1_release (va_wsS RX1 47 yX1_requireSubject wsX1_requireSubject) := goodIn_app (goodIn_of _ (by decide +kernel)) ggX1_release_X1_requireSubject
set_option maxRecDepth 20000 in
theorem ggX1_release_X1_requireFile : GoodIn wsX1_release wsX1_requireFile := goodIn_ca (goodIn_r _ [11, 12, 13, 5, 14, 7, 8, 15, 16, 17] (by decide +kernel) (by decide +kernel)) (goodIn_sub (fun _ h => List.mem_cons_of_mem _ (List.mem_append_right _ h)) (by decide +kernel))
set_option maxRecDepth 20000 in
theorem gX1_release_X1_requireFile : GoodIn wsX1_release (va_wsS RX1 88 yX1_requireFile wsX1_requireFile) := goodIn_app (goodIn_of _ (by decide +kernel)) ggX1_release_X1_requireFile
set_option maxRecDepth 20000 in
theorem ggX1_release_X1_requireLabel : GoodIn wsX1_release wsX1_requireLabel := goodIn_ca (goodIn_r _ [14, 7, 8] (by decide +kernel) (by decide +kernel)) (goodIn_sub (fun _ h => List.mem_cons_of_mem _ (List.mem_append_right _ h)) (by decide +kernel))
set_option maxRecDepth 20000 in
theorem gX1_release_X1_requireLabel : GoodIn wsX1_release (va_wsS RX1 51 yX1_requireLabel wsX1_requireLabel) := goodIn_app (goodIn_of _ (by decide +kernel)) ggX1_release_X1_requireLabel
set_option maxRecDepth 20000 in
theorem ggX1_release_X1_answerRelease : GoodIn wsX1_release wsX1_answerRelease := goodIn_r _ [21, 22, 23, 24, 25, 26, 27, 28, 5, 29, 30, 31, 32, 33, 34, 35, 36, 37, 38, 39, 40, 41, 42, 43, 44, 45, 46, 47, 48, 49, 50, 51, 52, 53, 54, 55, 56, 57, 58, 59, 60, 61, 62, 63, 64, 65, 66, 67, 68, 69, 70, 71, 72, 73, 74, 75, 76, 77, 78, 79, 80, 81, 82, 83, 84, 85, 86, 87, 88, 89, 90, 91, 92, 93, 94, 95, 96, 97, 98, 99, 100, 101, 102, 103, 104, 105, 106, 107, 108, 109, 110, 111, 112, 113, 114, 115, 116, 117, 118, 119, 120, 121, 122, 123, 124, 125, 126, 127, 128, 129, 130, 131, 132, 133, 134, 135, 136, 137, 138, 139, 140, 141, 142, 143, 144, 145, 146, 147, 148, 149, 150, 151, 152, 153, 154, 155, 156, 157, 158, 159, 160, 161, 162, 163, 164, 165, 166, 167, 168, 169, 170, 171, 172, 173, 174, 175, 176, 182, 183, 184, 185, 186, 187, 188, 189, 190, 191, 192, 193, 194, 195, 196, 197, 198] (by decide +kernel) (by decide +kernel)
set_option maxRecDepth 20000 in
theorem gX1_release_X1_answerRelease : GoodIn wsX1_release (wsV RX1 152 RX1 yX1_answerRelease wsX1_answerRelease) := goodIn_app (goodIn_of _ (by decide +kernel)) ggX1_release_X1_answerRelease
set_option maxRecDepth 20000 in
theorem ggX1_release_X1_forgetSeen : GoodIn wsX1_release wsX1_forgetSeen := goodIn_r _ [180, 181, 182, 183, 184, 185, 186, 187, 188, 189] (by decide +kernel) (by decide +kernel)
set_option maxRecDepth 20000 in
theorem gX1_release_X1_forgetSeen : GoodIn wsX1_release (wsV RX1 100 RX1 yX1_forgetSeen wsX1_forgetSeen) := goodIn_app (goodIn_of _ (by decide +kernel)) ggX1_release_X1_forgetSeen
theorem dX1_release_0 : decode cX1_release 0 = .ok (.iload_n 1, 1) := by decide +kernel
theorem dX1_release_1 : decode cX1_release 1 = .ok (.invokestatic 47, 3) := by decide +kernel
theorem dX1_release_4 : decode cX1_release 4 = .ok (.iload_n 2, 1) := by decide +kernel
theorem dX1_release_5 : decode cX1_release 5 = .ok (.iload_n 3, 1) := by decide +kernel
theorem dX1_release_6 : decode cX1_release 6 = .ok (.invokestatic 88, 3) := by decide +kernel
theorem dX1_release_9 : decode cX1_release 9 = .ok (.iload 4, 2) := by decide +kernel
theorem dX1_release_11 : decode cX1_release 11 = .ok (.invokestatic 51, 3) := by decide +kernel
theorem dX1_release_14 : decode cX1_release 14 = .ok (.aload_n 0, 1) := by decide +kernel
theorem dX1_release_15 : decode cX1_release 15 = .ok (.iload_n 1, 1) := by decide +kernel
theorem dX1_release_16 : decode cX1_release 16 = .ok (.iload_n 2, 1) := by decide +kernel
theorem dX1_release_17 : decode cX1_release 17 = .ok (.iload_n 3, 1) := by decide +kernel
theorem dX1_release_18 : decode cX1_release 18 = .ok (.iload 4, 2) := by decide +kernel
theorem dX1_release_20 : decode cX1_release 20 = .ok (.invokevirtual 152, 3) := by decide +kernel
theorem dX1_release_23 : decode cX1_release 23 = .ok (.istore 5, 2) := by decide +kernel
theorem dX1_release_25 : decode cX1_release 25 = .ok (.iload 5, 2) := by decide +kernel
theorem dX1_release_27 : decode cX1_release 27 = .ok (.bipush (-4), 2) := by decide +kernel
theorem dX1_release_29 : decode cX1_release 29 = .ok (.if_icmp .ne 13, 3) := by decide +kernel
theorem dX1_release_32 : decode cX1_release 32 = .ok (.new 73, 3) := by decide +kernel
theorem dX1_release_35 : decode cX1_release 35 = .ok (.dup, 1) := by decide +kernel
theorem dX1_release_36 : decode cX1_release 36 = .ok (.ldc 98, 2) := by decide +kernel
theorem dX1_release_38 : decode cX1_release 38 = .ok (.invokespecial 77, 3) := by decide +kernel
theorem dX1_release_41 : decode cX1_release 41 = .ok (.athrow, 1) := by decide +kernel
theorem dX1_release_42 : decode cX1_release 42 = .ok (.aload_n 0, 1) := by decide +kernel
theorem dX1_release_43 : decode cX1_release 43 = .ok (.iload_n 1, 1) := by decide +kernel
theorem dX1_release_44 : decode cX1_release 44 = .ok (.invokevirtual 100, 3) := by decide +kernel
theorem dX1_release_47 : decode cX1_release 47 = .ok (.iload 5, 2) := by decide +kernel
theorem dX1_release_49 : decode cX1_release 49 = .ok (.ireturn, 1) := by decide +kernel
set_option maxRecDepth 20000 in
theorem ggX1_seen_X1_requireSubject : GoodIn wsX1_seen wsX1_requireSubject := goodIn_ca (goodIn_r _ [6, 7, 8] (by decide +kernel) (by decide +kernel)) (goodIn_sub (fun _ h => List.mem_cons_of_mem _ (List.mem_append_right _ h)) (by decide +kernel))
set_option maxRecDepth 20000 in
theorem gX1_seen_X1_requireSubject : GoodIn wsX1_seen (va_wsS RX1 47 yX1_requireSubject wsX1_requireSubject) := goodIn_app (goodIn_of _ (by decide +kernel)) ggX1_seen_X1_requireSubject
theorem dX1_seen_0 : decode cX1_seen 0 = .ok (.iload_n 1, 1) := by decide +kernel
theorem dX1_seen_1 : decode cX1_seen 1 = .ok (.invokestatic 47, 3) := by decide +kernel
theorem dX1_seen_4 : decode cX1_seen 4 = .ok (.iload_n 2, 1) := by decide +kernel
theorem dX1_seen_5 : decode cX1_seen 5 = .ok (.ifCond .lt 24, 3) := by decide +kernel
theorem dX1_seen_8 : decode cX1_seen 8 = .ok (.iload_n 2, 1) := by decide +kernel
theorem dX1_seen_9 : decode cX1_seen 9 = .ok (.aload_n 0, 1) := by decide +kernel
theorem dX1_seen_10 : decode cX1_seen 10 = .ok (.getfield 38, 3) := by decide +kernel
theorem dX1_seen_13 : decode cX1_seen 13 = .ok (.iload_n 1, 1) := by decide +kernel
theorem dX1_seen_14 : decode cX1_seen 14 = .ok (.iaload, 1) := by decide +kernel
theorem dX1_seen_15 : decode cX1_seen 15 = .ok (.if_icmp .ge 14, 3) := by decide +kernel
theorem dX1_seen_18 : decode cX1_seen 18 = .ok (.aload_n 0, 1) := by decide +kernel
theorem dX1_seen_19 : decode cX1_seen 19 = .ok (.getfield 35, 3) := by decide +kernel
theorem dX1_seen_22 : decode cX1_seen 22 = .ok (.iload_n 1, 1) := by decide +kernel
theorem dX1_seen_23 : decode cX1_seen 23 = .ok (.aaload, 1) := by decide +kernel
theorem dX1_seen_24 : decode cX1_seen 24 = .ok (.iload_n 2, 1) := by decide +kernel
theorem dX1_seen_25 : decode cX1_seen 25 = .ok (.iaload, 1) := by decide +kernel
theorem dX1_seen_26 : decode cX1_seen 26 = .ok (.goto 4, 3) := by decide +kernel
theorem dX1_seen_29 : decode cX1_seen 29 = .ok (.iconst 0, 1) := by decide +kernel
theorem dX1_seen_30 : decode cX1_seen 30 = .ok (.ireturn, 1) := by decide +kernel
set_option maxRecDepth 20000 in
theorem ggX1_told_X1_requireLabel : GoodIn wsX1_told wsX1_requireLabel := goodIn_ca (goodIn_r _ [8, 1, 2] (by decide +kernel) (by decide +kernel)) (goodIn_sub (fun _ h => List.mem_cons_of_mem _ (List.mem_append_right _ h)) (by decide +kernel))
set_option maxRecDepth 20000 in
theorem gX1_told_X1_requireLabel : GoodIn wsX1_told (va_wsS RX1 51 yX1_requireLabel wsX1_requireLabel) := goodIn_app (goodIn_of _ (by decide +kernel)) ggX1_told_X1_requireLabel
set_option maxRecDepth 20000 in
theorem ggX1_told_X1_usedBy : GoodIn wsX1_told wsX1_usedBy := goodIn_r _ [12, 3, 13, 14, 15, 16, 17, 18, 19, 20, 21, 22, 23, 24, 25, 26, 27, 28, 29, 30, 31, 32, 33, 34, 35, 36, 37, 38, 39, 40, 7, 41, 42, 43, 44, 45, 46, 47, 48, 49, 50, 51, 52, 53, 54, 55, 56, 61, 62, 63, 64, 65, 66, 67, 68, 69, 70, 71, 72, 73, 74, 75, 76, 77] (by decide +kernel) (by decide +kernel)
set_option maxRecDepth 20000 in
theorem gX1_told_X1_usedBy : GoodIn wsX1_told (wsV RX1 155 RX1 yX1_usedBy wsX1_usedBy) := goodIn_app (goodIn_of _ (by decide +kernel)) ggX1_told_X1_usedBy
set_option maxRecDepth 20000 in
theorem ggX1_told_X1_countFilesAt : GoodIn wsX1_told wsX1_countFilesAt := goodIn_r _ [60, 13, 14, 15, 16, 17, 18, 19, 20, 21, 22, 23, 24, 25, 26, 27, 28, 29, 30, 31, 32, 33, 34, 35, 36, 37, 38, 39, 40, 7, 41, 61, 62, 63, 64, 65, 66, 67, 68, 69, 70, 71, 72, 73, 74, 75, 76, 77] (by decide +kernel) (by decide +kernel)
set_option maxRecDepth 20000 in
theorem gX1_told_X1_countFilesAt : GoodIn wsX1_told (wsV RX1 158 RX1 yX1_countFilesAt wsX1_countFilesAt) := goodIn_app (goodIn_of _ (by decide +kernel)) ggX1_told_X1_countFilesAt
theorem dX1_told_0 : decode cX1_told 0 = .ok (.iload_n 1, 1) := by decide +kernel
theorem dX1_told_1 : decode cX1_told 1 = .ok (.invokestatic 51, 3) := by decide +kernel
theorem dX1_told_4 : decode cX1_told 4 = .ok (.iload_n 2, 1) := by decide +kernel
theorem dX1_told_5 : decode cX1_told 5 = .ok (.tableswitch 57 0 3 #[31, 37, 44, 51], 31) := by decide +kernel
theorem dX1_told_36 : decode cX1_told 36 = .ok (.aload_n 0, 1) := by decide +kernel
theorem dX1_told_37 : decode cX1_told 37 = .ok (.iload_n 1, 1) := by decide +kernel
theorem dX1_told_38 : decode cX1_told 38 = .ok (.invokevirtual 155, 3) := by decide +kernel
theorem dX1_told_41 : decode cX1_told 41 = .ok (.ireturn, 1) := by decide +kernel
theorem dX1_told_42 : decode cX1_told 42 = .ok (.aload_n 0, 1) := by decide +kernel
theorem dX1_told_43 : decode cX1_told 43 = .ok (.getfield 16, 3) := by decide +kernel
theorem dX1_told_46 : decode cX1_told 46 = .ok (.iload_n 1, 1) := by decide +kernel
theorem dX1_told_47 : decode cX1_told 47 = .ok (.iaload, 1) := by decide +kernel
theorem dX1_told_48 : decode cX1_told 48 = .ok (.ireturn, 1) := by decide +kernel
theorem dX1_told_49 : decode cX1_told 49 = .ok (.aload_n 0, 1) := by decide +kernel
theorem dX1_told_50 : decode cX1_told 50 = .ok (.getfield 13, 3) := by decide +kernel
theorem dX1_told_53 : decode cX1_told 53 = .ok (.iload_n 1, 1) := by decide +kernel
theorem dX1_told_54 : decode cX1_told 54 = .ok (.iaload, 1) := by decide +kernel
theorem dX1_told_55 : decode cX1_told 55 = .ok (.ireturn, 1) := by decide +kernel
theorem dX1_told_56 : decode cX1_told 56 = .ok (.aload_n 0, 1) := by decide +kernel
theorem dX1_told_57 : decode cX1_told 57 = .ok (.iload_n 1, 1) := by decide +kernel
theorem dX1_told_58 : decode cX1_told 58 = .ok (.invokevirtual 158, 3) := by decide +kernel
theorem dX1_told_61 : decode cX1_told 61 = .ok (.ireturn, 1) := by decide +kernel
theorem dX1_told_62 : decode cX1_told 62 = .ok (.new 58, 3) := by decide +kernel
theorem dX1_told_65 : decode cX1_told 65 = .ok (.dup, 1) := by decide +kernel
theorem dX1_told_66 : decode cX1_told 66 = .ok (.ldc 161, 2) := by decide +kernel
theorem dX1_told_68 : decode cX1_told 68 = .ok (.invokespecial 62, 3) := by decide +kernel
theorem dX1_told_71 : decode cX1_told 71 = .ok (.athrow, 1) := by decide +kernel
theorem dX1_requireSubject_0 : decode cX1_requireSubject 0 = .ok (.iload_n 0, 1) := by decide +kernel
theorem dX1_requireSubject_1 : decode cX1_requireSubject 1 = .ok (.ifCond .lt 9, 3) := by decide +kernel
theorem dX1_requireSubject_4 : decode cX1_requireSubject 4 = .ok (.iload_n 0, 1) := by decide +kernel
theorem dX1_requireSubject_5 : decode cX1_requireSubject 5 = .ok (.bipush 16, 2) := by decide +kernel
theorem dX1_requireSubject_7 : decode cX1_requireSubject 7 = .ok (.if_icmp .lt 13, 3) := by decide +kernel
theorem dX1_requireSubject_10 : decode cX1_requireSubject 10 = .ok (.new 58, 3) := by decide +kernel
theorem dX1_requireSubject_13 : decode cX1_requireSubject 13 = .ok (.dup, 1) := by decide +kernel
theorem dX1_requireSubject_14 : decode cX1_requireSubject 14 = .ok (.ldc 163, 2) := by decide +kernel
theorem dX1_requireSubject_16 : decode cX1_requireSubject 16 = .ok (.invokespecial 62, 3) := by decide +kernel
theorem dX1_requireSubject_19 : decode cX1_requireSubject 19 = .ok (.athrow, 1) := by decide +kernel
theorem dX1_requireSubject_20 : decode cX1_requireSubject 20 = .ok (.return_, 1) := by decide +kernel
theorem dX1_requireLabel_0 : decode cX1_requireLabel 0 = .ok (.iload_n 0, 1) := by decide +kernel
theorem dX1_requireLabel_1 : decode cX1_requireLabel 1 = .ok (.ifCond .lt 10, 3) := by decide +kernel
theorem dX1_requireLabel_4 : decode cX1_requireLabel 4 = .ok (.iload_n 0, 1) := by decide +kernel
theorem dX1_requireLabel_5 : decode cX1_requireLabel 5 = .ok (.sipush 1024, 3) := by decide +kernel
theorem dX1_requireLabel_8 : decode cX1_requireLabel 8 = .ok (.if_icmp .lt 13, 3) := by decide +kernel
theorem dX1_requireLabel_11 : decode cX1_requireLabel 11 = .ok (.new 58, 3) := by decide +kernel
theorem dX1_requireLabel_14 : decode cX1_requireLabel 14 = .ok (.dup, 1) := by decide +kernel
theorem dX1_requireLabel_15 : decode cX1_requireLabel 15 = .ok (.ldc 165, 2) := by decide +kernel
theorem dX1_requireLabel_17 : decode cX1_requireLabel 17 = .ok (.invokespecial 62, 3) := by decide +kernel
theorem dX1_requireLabel_20 : decode cX1_requireLabel 20 = .ok (.athrow, 1) := by decide +kernel
theorem dX1_requireLabel_21 : decode cX1_requireLabel 21 = .ok (.return_, 1) := by decide +kernel
theorem dX1_requireNumber_0 : decode cX1_requireNumber 0 = .ok (.iload_n 0, 1) := by decide +kernel
theorem dX1_requireNumber_1 : decode cX1_requireNumber 1 = .ok (.ifCond .lt 9, 3) := by decide +kernel
theorem dX1_requireNumber_4 : decode cX1_requireNumber 4 = .ok (.iload_n 0, 1) := by decide +kernel
theorem dX1_requireNumber_5 : decode cX1_requireNumber 5 = .ok (.bipush 16, 2) := by decide +kernel
theorem dX1_requireNumber_7 : decode cX1_requireNumber 7 = .ok (.if_icmp .lt 13, 3) := by decide +kernel
theorem dX1_requireNumber_10 : decode cX1_requireNumber 10 = .ok (.new 58, 3) := by decide +kernel
theorem dX1_requireNumber_13 : decode cX1_requireNumber 13 = .ok (.dup, 1) := by decide +kernel
theorem dX1_requireNumber_14 : decode cX1_requireNumber 14 = .ok (.ldc 167, 2) := by decide +kernel
theorem dX1_requireNumber_16 : decode cX1_requireNumber 16 = .ok (.invokespecial 62, 3) := by decide +kernel
theorem dX1_requireNumber_19 : decode cX1_requireNumber 19 = .ok (.athrow, 1) := by decide +kernel
theorem dX1_requireNumber_20 : decode cX1_requireNumber 20 = .ok (.return_, 1) := by decide +kernel
set_option maxRecDepth 20000 in
theorem ggX1_requireFile_X1_requireLabel : GoodIn wsX1_requireFile wsX1_requireLabel := goodIn_ca (goodIn_r _ [4, 5, 6] (by decide +kernel) (by decide +kernel)) (goodIn_sub (fun _ h => List.mem_cons_of_mem _ (List.mem_append_right _ h)) (by decide +kernel))
set_option maxRecDepth 20000 in
theorem gX1_requireFile_X1_requireLabel : GoodIn wsX1_requireFile (va_wsS RX1 51 yX1_requireLabel wsX1_requireLabel) := goodIn_app (goodIn_of _ (by decide +kernel)) ggX1_requireFile_X1_requireLabel
set_option maxRecDepth 20000 in
theorem ggX1_requireFile_X1_requireNumber : GoodIn wsX1_requireFile wsX1_requireNumber := goodIn_ca (goodIn_r _ [9, 5, 6] (by decide +kernel) (by decide +kernel)) (goodIn_sub (fun _ h => List.mem_cons_of_mem _ (List.mem_append_right _ h)) (by decide +kernel))
set_option maxRecDepth 20000 in
theorem gX1_requireFile_X1_requireNumber : GoodIn wsX1_requireFile (va_wsS RX1 103 yX1_requireNumber wsX1_requireNumber) := goodIn_app (goodIn_of _ (by decide +kernel)) ggX1_requireFile_X1_requireNumber
theorem dX1_requireFile_0 : decode cX1_requireFile 0 = .ok (.iload_n 0, 1) := by decide +kernel
theorem dX1_requireFile_1 : decode cX1_requireFile 1 = .ok (.invokestatic 51, 3) := by decide +kernel
theorem dX1_requireFile_4 : decode cX1_requireFile 4 = .ok (.iload_n 1, 1) := by decide +kernel
theorem dX1_requireFile_5 : decode cX1_requireFile 5 = .ok (.invokestatic 103, 3) := by decide +kernel
theorem dX1_requireFile_8 : decode cX1_requireFile 8 = .ok (.return_, 1) := by decide +kernel
theorem dX1_requireCell_0 : decode cX1_requireCell 0 = .ok (.iload_n 0, 1) := by decide +kernel
theorem dX1_requireCell_1 : decode cX1_requireCell 1 = .ok (.ifCond .lt 9, 3) := by decide +kernel
theorem dX1_requireCell_4 : decode cX1_requireCell 4 = .ok (.iload_n 0, 1) := by decide +kernel
theorem dX1_requireCell_5 : decode cX1_requireCell 5 = .ok (.bipush 24, 2) := by decide +kernel
theorem dX1_requireCell_7 : decode cX1_requireCell 7 = .ok (.if_icmp .lt 13, 3) := by decide +kernel
theorem dX1_requireCell_10 : decode cX1_requireCell 10 = .ok (.new 58, 3) := by decide +kernel
theorem dX1_requireCell_13 : decode cX1_requireCell 13 = .ok (.dup, 1) := by decide +kernel
theorem dX1_requireCell_14 : decode cX1_requireCell 14 = .ok (.ldc 169, 2) := by decide +kernel
theorem dX1_requireCell_16 : decode cX1_requireCell 16 = .ok (.invokespecial 62, 3) := by decide +kernel
theorem dX1_requireCell_19 : decode cX1_requireCell 19 = .ok (.athrow, 1) := by decide +kernel
theorem dX1_requireCell_20 : decode cX1_requireCell 20 = .ok (.return_, 1) := by decide +kernel
theorem dX1_requireFolder_0 : decode cX1_requireFolder 0 = .ok (.iload_n 0, 1) := by decide +kernel
theorem dX1_requireFolder_1 : decode cX1_requireFolder 1 = .ok (.iconst (-1), 1) := by decide +kernel
theorem dX1_requireFolder_2 : decode cX1_requireFolder 2 = .ok (.if_icmp .eq 24, 3) := by decide +kernel
theorem dX1_requireFolder_5 : decode cX1_requireFolder 5 = .ok (.iload_n 0, 1) := by decide +kernel
theorem dX1_requireFolder_6 : decode cX1_requireFolder 6 = .ok (.ifCond .lt 10, 3) := by decide +kernel
theorem dX1_requireFolder_9 : decode cX1_requireFolder 9 = .ok (.iload_n 0, 1) := by decide +kernel
theorem dX1_requireFolder_10 : decode cX1_requireFolder 10 = .ok (.sipush 16384, 3) := by decide +kernel
theorem dX1_requireFolder_13 : decode cX1_requireFolder 13 = .ok (.if_icmp .lt 13, 3) := by decide +kernel
theorem dX1_requireFolder_16 : decode cX1_requireFolder 16 = .ok (.new 58, 3) := by decide +kernel
theorem dX1_requireFolder_19 : decode cX1_requireFolder 19 = .ok (.dup, 1) := by decide +kernel
theorem dX1_requireFolder_20 : decode cX1_requireFolder 20 = .ok (.ldc 171, 2) := by decide +kernel
theorem dX1_requireFolder_22 : decode cX1_requireFolder 22 = .ok (.invokespecial 62, 3) := by decide +kernel
theorem dX1_requireFolder_25 : decode cX1_requireFolder 25 = .ok (.athrow, 1) := by decide +kernel
theorem dX1_requireFolder_26 : decode cX1_requireFolder 26 = .ok (.return_, 1) := by decide +kernel
theorem dX1_requireAtMost_0 : decode cX1_requireAtMost 0 = .ok (.iload_n 1, 1) := by decide +kernel
theorem dX1_requireAtMost_1 : decode cX1_requireAtMost 1 = .ok (.ifCond .lt 8, 3) := by decide +kernel
theorem dX1_requireAtMost_4 : decode cX1_requireAtMost 4 = .ok (.iload_n 1, 1) := by decide +kernel
theorem dX1_requireAtMost_5 : decode cX1_requireAtMost 5 = .ok (.iload_n 0, 1) := by decide +kernel
theorem dX1_requireAtMost_6 : decode cX1_requireAtMost 6 = .ok (.if_icmp .le 13, 3) := by decide +kernel
theorem dX1_requireAtMost_9 : decode cX1_requireAtMost 9 = .ok (.new 58, 3) := by decide +kernel
theorem dX1_requireAtMost_12 : decode cX1_requireAtMost 12 = .ok (.dup, 1) := by decide +kernel
theorem dX1_requireAtMost_13 : decode cX1_requireAtMost 13 = .ok (.ldc 173, 2) := by decide +kernel
theorem dX1_requireAtMost_15 : decode cX1_requireAtMost 15 = .ok (.invokespecial 62, 3) := by decide +kernel
theorem dX1_requireAtMost_18 : decode cX1_requireAtMost 18 = .ok (.athrow, 1) := by decide +kernel
theorem dX1_requireAtMost_19 : decode cX1_requireAtMost 19 = .ok (.return_, 1) := by decide +kernel
set_option maxRecDepth 20000 in
theorem ggX1_mayFlow_X1_secrecyOf : GoodIn wsX1_mayFlow wsX1_secrecyOf := goodIn_r _ [4] (by decide +kernel) (by decide +kernel)
set_option maxRecDepth 20000 in
theorem gX1_mayFlow_X1_secrecyOf : GoodIn wsX1_mayFlow (va_wsS RX1 175 yX1_secrecyOf wsX1_secrecyOf) := goodIn_app (goodIn_of _ (by decide +kernel)) ggX1_mayFlow_X1_secrecyOf
set_option maxRecDepth 20000 in
theorem ggX1_mayFlow_X1_secretsOf : GoodIn wsX1_mayFlow wsX1_secretsOf := goodIn_r _ [7] (by decide +kernel) (by decide +kernel)
set_option maxRecDepth 20000 in
theorem gX1_mayFlow_X1_secretsOf : GoodIn wsX1_mayFlow (va_wsS RX1 178 yX1_secretsOf wsX1_secretsOf) := goodIn_app (goodIn_of _ (by decide +kernel)) ggX1_mayFlow_X1_secretsOf
set_option maxRecDepth 20000 in
theorem ggX1_mayFlow_X1_isWithin : GoodIn wsX1_mayFlow wsX1_isWithin := goodIn_r _ [10] (by decide +kernel) (by decide +kernel)
set_option maxRecDepth 20000 in
theorem gX1_mayFlow_X1_isWithin : GoodIn wsX1_mayFlow (va_wsS RX1 181 yX1_isWithin wsX1_isWithin) := goodIn_app (goodIn_of _ (by decide +kernel)) ggX1_mayFlow_X1_isWithin
set_option maxRecDepth 20000 in
theorem ggX1_mayFlow_X1_trustOf : GoodIn wsX1_mayFlow wsX1_trustOf := goodIn_r _ [13] (by decide +kernel) (by decide +kernel)
set_option maxRecDepth 20000 in
theorem gX1_mayFlow_X1_trustOf : GoodIn wsX1_mayFlow (va_wsS RX1 184 yX1_trustOf wsX1_trustOf) := goodIn_app (goodIn_of _ (by decide +kernel)) ggX1_mayFlow_X1_trustOf
set_option maxRecDepth 20000 in
theorem ggX1_mayFlow_X1_warrantsOf : GoodIn wsX1_mayFlow wsX1_warrantsOf := goodIn_r _ [16] (by decide +kernel) (by decide +kernel)
set_option maxRecDepth 20000 in
theorem gX1_mayFlow_X1_warrantsOf : GoodIn wsX1_mayFlow (va_wsS RX1 187 yX1_warrantsOf wsX1_warrantsOf) := goodIn_app (goodIn_of _ (by decide +kernel)) ggX1_mayFlow_X1_warrantsOf
theorem dX1_mayFlow_0 : decode cX1_mayFlow 0 = .ok (.iload_n 0, 1) := by decide +kernel
theorem dX1_mayFlow_1 : decode cX1_mayFlow 1 = .ok (.invokestatic 175, 3) := by decide +kernel
theorem dX1_mayFlow_4 : decode cX1_mayFlow 4 = .ok (.iload_n 1, 1) := by decide +kernel
theorem dX1_mayFlow_5 : decode cX1_mayFlow 5 = .ok (.invokestatic 175, 3) := by decide +kernel
theorem dX1_mayFlow_8 : decode cX1_mayFlow 8 = .ok (.if_icmp .gt 46, 3) := by decide +kernel
theorem dX1_mayFlow_11 : decode cX1_mayFlow 11 = .ok (.iload_n 0, 1) := by decide +kernel
theorem dX1_mayFlow_12 : decode cX1_mayFlow 12 = .ok (.invokestatic 178, 3) := by decide +kernel
theorem dX1_mayFlow_15 : decode cX1_mayFlow 15 = .ok (.iload_n 1, 1) := by decide +kernel
theorem dX1_mayFlow_16 : decode cX1_mayFlow 16 = .ok (.invokestatic 178, 3) := by decide +kernel
theorem dX1_mayFlow_19 : decode cX1_mayFlow 19 = .ok (.invokestatic 181, 3) := by decide +kernel
theorem dX1_mayFlow_22 : decode cX1_mayFlow 22 = .ok (.ifCond .eq 32, 3) := by decide +kernel
theorem dX1_mayFlow_25 : decode cX1_mayFlow 25 = .ok (.iload_n 0, 1) := by decide +kernel
theorem dX1_mayFlow_26 : decode cX1_mayFlow 26 = .ok (.invokestatic 184, 3) := by decide +kernel
theorem dX1_mayFlow_29 : decode cX1_mayFlow 29 = .ok (.iload_n 1, 1) := by decide +kernel
theorem dX1_mayFlow_30 : decode cX1_mayFlow 30 = .ok (.invokestatic 184, 3) := by decide +kernel
theorem dX1_mayFlow_33 : decode cX1_mayFlow 33 = .ok (.if_icmp .lt 21, 3) := by decide +kernel
theorem dX1_mayFlow_36 : decode cX1_mayFlow 36 = .ok (.iload_n 1, 1) := by decide +kernel
theorem dX1_mayFlow_37 : decode cX1_mayFlow 37 = .ok (.invokestatic 187, 3) := by decide +kernel
theorem dX1_mayFlow_40 : decode cX1_mayFlow 40 = .ok (.iload_n 0, 1) := by decide +kernel
theorem dX1_mayFlow_41 : decode cX1_mayFlow 41 = .ok (.invokestatic 187, 3) := by decide +kernel
theorem dX1_mayFlow_44 : decode cX1_mayFlow 44 = .ok (.invokestatic 181, 3) := by decide +kernel
theorem dX1_mayFlow_47 : decode cX1_mayFlow 47 = .ok (.ifCond .eq 7, 3) := by decide +kernel
theorem dX1_mayFlow_50 : decode cX1_mayFlow 50 = .ok (.iconst 1, 1) := by decide +kernel
theorem dX1_mayFlow_51 : decode cX1_mayFlow 51 = .ok (.goto 4, 3) := by decide +kernel
theorem dX1_mayFlow_54 : decode cX1_mayFlow 54 = .ok (.iconst 0, 1) := by decide +kernel
theorem dX1_mayFlow_55 : decode cX1_mayFlow 55 = .ok (.ireturn, 1) := by decide +kernel
theorem dX1_secrecyOf_0 : decode cX1_secrecyOf 0 = .ok (.iload_n 0, 1) := by decide +kernel
theorem dX1_secrecyOf_1 : decode cX1_secrecyOf 1 = .ok (.iconst 3, 1) := by decide +kernel
theorem dX1_secrecyOf_2 : decode cX1_secrecyOf 2 = .ok (.iand, 1) := by decide +kernel
theorem dX1_secrecyOf_3 : decode cX1_secrecyOf 3 = .ok (.ireturn, 1) := by decide +kernel
theorem dX1_secretsOf_0 : decode cX1_secretsOf 0 = .ok (.iload_n 0, 1) := by decide +kernel
theorem dX1_secretsOf_1 : decode cX1_secretsOf 1 = .ok (.iconst 2, 1) := by decide +kernel
theorem dX1_secretsOf_2 : decode cX1_secretsOf 2 = .ok (.ishr, 1) := by decide +kernel
theorem dX1_secretsOf_3 : decode cX1_secretsOf 3 = .ok (.bipush 15, 2) := by decide +kernel
theorem dX1_secretsOf_5 : decode cX1_secretsOf 5 = .ok (.iand, 1) := by decide +kernel
theorem dX1_secretsOf_6 : decode cX1_secretsOf 6 = .ok (.ireturn, 1) := by decide +kernel
theorem dX1_trustOf_0 : decode cX1_trustOf 0 = .ok (.iload_n 0, 1) := by decide +kernel
theorem dX1_trustOf_1 : decode cX1_trustOf 1 = .ok (.bipush 6, 2) := by decide +kernel
theorem dX1_trustOf_3 : decode cX1_trustOf 3 = .ok (.ishr, 1) := by decide +kernel
theorem dX1_trustOf_4 : decode cX1_trustOf 4 = .ok (.iconst 3, 1) := by decide +kernel
theorem dX1_trustOf_5 : decode cX1_trustOf 5 = .ok (.iand, 1) := by decide +kernel
theorem dX1_trustOf_6 : decode cX1_trustOf 6 = .ok (.ireturn, 1) := by decide +kernel
theorem dX1_warrantsOf_0 : decode cX1_warrantsOf 0 = .ok (.iload_n 0, 1) := by decide +kernel
theorem dX1_warrantsOf_1 : decode cX1_warrantsOf 1 = .ok (.bipush 8, 2) := by decide +kernel
theorem dX1_warrantsOf_3 : decode cX1_warrantsOf 3 = .ok (.ishr, 1) := by decide +kernel
theorem dX1_warrantsOf_4 : decode cX1_warrantsOf 4 = .ok (.iconst 3, 1) := by decide +kernel
theorem dX1_warrantsOf_5 : decode cX1_warrantsOf 5 = .ok (.iand, 1) := by decide +kernel
theorem dX1_warrantsOf_6 : decode cX1_warrantsOf 6 = .ok (.ireturn, 1) := by decide +kernel
theorem dX1_isWithin_0 : decode cX1_isWithin 0 = .ok (.iload_n 0, 1) := by decide +kernel
theorem dX1_isWithin_1 : decode cX1_isWithin 1 = .ok (.iload_n 1, 1) := by decide +kernel
theorem dX1_isWithin_2 : decode cX1_isWithin 2 = .ok (.iconst (-1), 1) := by decide +kernel
theorem dX1_isWithin_3 : decode cX1_isWithin 3 = .ok (.ixor, 1) := by decide +kernel
theorem dX1_isWithin_4 : decode cX1_isWithin 4 = .ok (.iand, 1) := by decide +kernel
theorem dX1_isWithin_5 : decode cX1_isWithin 5 = .ok (.ifCond .ne 7, 3) := by decide +kernel
theorem dX1_isWithin_8 : decode cX1_isWithin 8 = .ok (.iconst 1, 1) := by decide +kernel
theorem dX1_isWithin_9 : decode cX1_isWithin 9 = .ok (.goto 4, 3) := by decide +kernel
theorem dX1_isWithin_12 : decode cX1_isWithin 12 = .ok (.iconst 0, 1) := by decide +kernel
theorem dX1_isWithin_13 : decode cX1_isWithin 13 = .ok (.ireturn, 1) := by decide +kernel
set_option maxRecDepth 20000 in
theorem ggX1_verdictOnReading_X1_mayFlow : GoodIn wsX1_verdictOnReading wsX1_mayFlow := goodIn_r _ [5, 6, 7, 4, 8, 9, 10, 11, 12, 13, 14, 15, 16, 17, 18, 19, 20] (by decide +kernel) (by decide +kernel)
set_option maxRecDepth 20000 in
theorem gX1_verdictOnReading_X1_mayFlow : GoodIn wsX1_verdictOnReading (va_wsS RX1 84 yX1_mayFlow wsX1_mayFlow) := goodIn_app (goodIn_of _ (by decide +kernel)) ggX1_verdictOnReading_X1_mayFlow
theorem dX1_verdictOnReading_0 : decode cX1_verdictOnReading 0 = .ok (.aload_n 0, 1) := by decide +kernel
theorem dX1_verdictOnReading_1 : decode cX1_verdictOnReading 1 = .ok (.getfield 9, 3) := by decide +kernel
theorem dX1_verdictOnReading_4 : decode cX1_verdictOnReading 4 = .ok (.iload_n 1, 1) := by decide +kernel
theorem dX1_verdictOnReading_5 : decode cX1_verdictOnReading 5 = .ok (.iaload, 1) := by decide +kernel
theorem dX1_verdictOnReading_6 : decode cX1_verdictOnReading 6 = .ok (.istore_n 3, 1) := by decide +kernel
theorem dX1_verdictOnReading_7 : decode cX1_verdictOnReading 7 = .ok (.iload_n 3, 1) := by decide +kernel
theorem dX1_verdictOnReading_8 : decode cX1_verdictOnReading 8 = .ok (.iconst (-1), 1) := by decide +kernel
theorem dX1_verdictOnReading_9 : decode cX1_verdictOnReading 9 = .ok (.if_icmp .ne 5, 3) := by decide +kernel
theorem dX1_verdictOnReading_12 : decode cX1_verdictOnReading 12 = .ok (.iconst (-1), 1) := by decide +kernel
theorem dX1_verdictOnReading_13 : decode cX1_verdictOnReading 13 = .ok (.ireturn, 1) := by decide +kernel
theorem dX1_verdictOnReading_14 : decode cX1_verdictOnReading 14 = .ok (.iload_n 2, 1) := by decide +kernel
theorem dX1_verdictOnReading_15 : decode cX1_verdictOnReading 15 = .ok (.iload_n 3, 1) := by decide +kernel
theorem dX1_verdictOnReading_16 : decode cX1_verdictOnReading 16 = .ok (.invokestatic 84, 3) := by decide +kernel
theorem dX1_verdictOnReading_19 : decode cX1_verdictOnReading 19 = .ok (.ifCond .eq 7, 3) := by decide +kernel
theorem dX1_verdictOnReading_22 : decode cX1_verdictOnReading 22 = .ok (.iconst 0, 1) := by decide +kernel
theorem dX1_verdictOnReading_23 : decode cX1_verdictOnReading 23 = .ok (.goto 5, 3) := by decide +kernel
theorem dX1_verdictOnReading_26 : decode cX1_verdictOnReading 26 = .ok (.bipush (-2), 2) := by decide +kernel
theorem dX1_verdictOnReading_28 : decode cX1_verdictOnReading 28 = .ok (.ireturn, 1) := by decide +kernel
set_option maxRecDepth 20000 in
theorem ggX1_answerMake_X1_labelOfAddress : GoodIn wsX1_answerMake wsX1_labelOfAddress := goodIn_r _ [5] (by decide +kernel) (by decide +kernel)
set_option maxRecDepth 20000 in
theorem gX1_answerMake_X1_labelOfAddress : GoodIn wsX1_answerMake (va_wsS RX1 190 yX1_labelOfAddress wsX1_labelOfAddress) := goodIn_app (goodIn_of _ (by decide +kernel)) ggX1_answerMake_X1_labelOfAddress
set_option maxRecDepth 20000 in
theorem ggX1_answerMake_X1_mayFlow : GoodIn wsX1_answerMake wsX1_mayFlow := goodIn_r _ [8, 9, 10, 4, 11, 12, 13, 14, 15, 16, 17, 18, 19, 20, 21, 22, 23] (by decide +kernel) (by decide +kernel)
set_option maxRecDepth 20000 in
theorem gX1_answerMake_X1_mayFlow : GoodIn wsX1_answerMake (va_wsS RX1 84 yX1_mayFlow wsX1_mayFlow) := goodIn_app (goodIn_of _ (by decide +kernel)) ggX1_answerMake_X1_mayFlow
set_option maxRecDepth 20000 in
theorem ggX1_answerMake_X1_addressOf : GoodIn wsX1_answerMake wsX1_addressOf := goodIn_r _ [26] (by decide +kernel) (by decide +kernel)
set_option maxRecDepth 20000 in
theorem gX1_answerMake_X1_addressOf : GoodIn wsX1_answerMake (va_wsS RX1 132 yX1_addressOf wsX1_addressOf) := goodIn_app (goodIn_of _ (by decide +kernel)) ggX1_answerMake_X1_addressOf
set_option maxRecDepth 20000 in
theorem ggX1_answerMake_X1_makeOwn : GoodIn wsX1_answerMake wsX1_makeOwn := goodIn_r _ [30, 31, 32, 33, 34, 35, 36, 4, 37, 38, 39, 40, 41, 42, 43, 44, 45, 46, 47, 48, 49, 50, 51, 52, 53, 54, 55, 56, 57, 58, 59, 60, 61, 62, 63, 64, 65, 66, 67, 68, 69, 70, 71, 72, 73, 2, 3, 5, 74, 75, 76, 77, 78, 79, 80, 81, 82, 83, 84, 85, 86, 87, 88, 89, 90, 91, 92, 93, 94, 95, 96, 97, 98, 99, 100, 101, 102, 103, 104, 105, 106, 107, 108, 109, 110, 111, 112, 113, 114, 115, 116, 117, 118, 119, 120, 121, 122, 123, 124, 125, 126, 127, 128, 129, 130, 131, 132, 133, 134, 135, 136, 137, 138, 139, 140, 141, 142, 143, 144, 145, 146, 147, 148, 149, 150, 151, 152, 153, 154, 155, 156, 157, 158, 159, 172, 173, 174, 175, 176, 177, 164, 165, 166, 167, 168, 169, 170, 171, 178, 179, 180] (by decide +kernel) (by decide +kernel)
set_option maxRecDepth 20000 in
theorem gX1_answerMake_X1_makeOwn : GoodIn wsX1_answerMake (wsV RX1 193 RX1 yX1_makeOwn wsX1_makeOwn) := goodIn_app (goodIn_of _ (by decide +kernel)) ggX1_answerMake_X1_makeOwn
set_option maxRecDepth 20000 in
theorem ggX1_answerMake_X1_makeAbove : GoodIn wsX1_answerMake wsX1_makeAbove := goodIn_r _ [163, 31, 32, 33, 73, 64, 65, 66, 4, 67, 68, 69, 70, 71, 72, 38, 39, 40, 41, 42, 43, 44, 45, 46, 47, 48, 49, 50, 51, 52, 53, 54, 55, 56, 57, 58, 59, 60, 61, 62, 63, 2, 3, 5, 74, 75, 76, 77, 78, 79, 80, 81, 82, 83, 84, 85, 86, 87, 34, 35, 36, 37, 88, 89, 90, 91, 92, 93, 94, 95, 96, 97, 98, 99, 100, 101, 102, 103, 104, 105, 106, 107, 108, 109, 110, 111, 112, 113, 114, 115, 116, 117, 118, 119, 120, 121, 122, 123, 124, 125, 126, 127, 128, 129, 130, 131, 132, 133, 134, 135, 136, 137, 138, 139, 140, 141, 142, 143, 144, 145, 146, 147, 148, 149, 150, 151, 152, 153, 154, 155, 156, 157, 158, 159, 172, 173, 174, 175, 176, 177, 164, 165, 166, 167, 168, 169, 170, 171, 178, 179, 180] (by decide +kernel) (by decide +kernel)
set_option maxRecDepth 20000 in
theorem gX1_answerMake_X1_makeAbove : GoodIn wsX1_answerMake (wsV RX1 196 RX1 yX1_makeAbove wsX1_makeAbove) := goodIn_app (goodIn_of _ (by decide +kernel)) ggX1_answerMake_X1_makeAbove
theorem dX1_answerMake_0 : decode cX1_answerMake 0 = .ok (.aload_n 0, 1) := by decide +kernel
theorem dX1_answerMake_1 : decode cX1_answerMake 1 = .ok (.getfield 9, 3) := by decide +kernel
theorem dX1_answerMake_4 : decode cX1_answerMake 4 = .ok (.iload_n 1, 1) := by decide +kernel
theorem dX1_answerMake_5 : decode cX1_answerMake 5 = .ok (.iaload, 1) := by decide +kernel
theorem dX1_answerMake_6 : decode cX1_answerMake 6 = .ok (.istore 5, 2) := by decide +kernel
theorem dX1_answerMake_8 : decode cX1_answerMake 8 = .ok (.iload 5, 2) := by decide +kernel
theorem dX1_answerMake_10 : decode cX1_answerMake 10 = .ok (.iconst (-1), 1) := by decide +kernel
theorem dX1_answerMake_11 : decode cX1_answerMake 11 = .ok (.if_icmp .ne 5, 3) := by decide +kernel
theorem dX1_answerMake_14 : decode cX1_answerMake 14 = .ok (.iconst (-1), 1) := by decide +kernel
theorem dX1_answerMake_15 : decode cX1_answerMake 15 = .ok (.ireturn, 1) := by decide +kernel
theorem dX1_answerMake_16 : decode cX1_answerMake 16 = .ok (.iload 4, 2) := by decide +kernel
theorem dX1_answerMake_18 : decode cX1_answerMake 18 = .ok (.iconst (-1), 1) := by decide +kernel
theorem dX1_answerMake_19 : decode cX1_answerMake 19 = .ok (.if_icmp .eq 15, 3) := by decide +kernel
theorem dX1_answerMake_22 : decode cX1_answerMake 22 = .ok (.iload 4, 2) := by decide +kernel
theorem dX1_answerMake_24 : decode cX1_answerMake 24 = .ok (.invokestatic 190, 3) := by decide +kernel
theorem dX1_answerMake_27 : decode cX1_answerMake 27 = .ok (.iload_n 2, 1) := by decide +kernel
theorem dX1_answerMake_28 : decode cX1_answerMake 28 = .ok (.invokestatic 84, 3) := by decide +kernel
theorem dX1_answerMake_31 : decode cX1_answerMake 31 = .ok (.ifCond .eq 7, 3) := by decide +kernel
theorem dX1_answerMake_34 : decode cX1_answerMake 34 = .ok (.iconst 1, 1) := by decide +kernel
theorem dX1_answerMake_35 : decode cX1_answerMake 35 = .ok (.goto 4, 3) := by decide +kernel
theorem dX1_answerMake_38 : decode cX1_answerMake 38 = .ok (.iconst 0, 1) := by decide +kernel
theorem dX1_answerMake_39 : decode cX1_answerMake 39 = .ok (.istore 6, 2) := by decide +kernel
theorem dX1_answerMake_41 : decode cX1_answerMake 41 = .ok (.iload 5, 2) := by decide +kernel
theorem dX1_answerMake_43 : decode cX1_answerMake 43 = .ok (.iload_n 2, 1) := by decide +kernel
theorem dX1_answerMake_44 : decode cX1_answerMake 44 = .ok (.invokestatic 84, 3) := by decide +kernel
theorem dX1_answerMake_47 : decode cX1_answerMake 47 = .ok (.ifCond .eq 8, 3) := by decide +kernel
theorem dX1_answerMake_50 : decode cX1_answerMake 50 = .ok (.iload 6, 2) := by decide +kernel
theorem dX1_answerMake_52 : decode cX1_answerMake 52 = .ok (.ifCond .ne 6, 3) := by decide +kernel
theorem dX1_answerMake_55 : decode cX1_answerMake 55 = .ok (.bipush (-2), 2) := by decide +kernel
theorem dX1_answerMake_57 : decode cX1_answerMake 57 = .ok (.ireturn, 1) := by decide +kernel
theorem dX1_answerMake_58 : decode cX1_answerMake 58 = .ok (.iload_n 2, 1) := by decide +kernel
theorem dX1_answerMake_59 : decode cX1_answerMake 59 = .ok (.iload_n 3, 1) := by decide +kernel
theorem dX1_answerMake_60 : decode cX1_answerMake 60 = .ok (.invokestatic 132, 3) := by decide +kernel
theorem dX1_answerMake_63 : decode cX1_answerMake 63 = .ok (.istore 7, 2) := by decide +kernel
theorem dX1_answerMake_65 : decode cX1_answerMake 65 = .ok (.iload 5, 2) := by decide +kernel
theorem dX1_answerMake_67 : decode cX1_answerMake 67 = .ok (.iload_n 2, 1) := by decide +kernel
theorem dX1_answerMake_68 : decode cX1_answerMake 68 = .ok (.if_icmp .ne 16, 3) := by decide +kernel
theorem dX1_answerMake_71 : decode cX1_answerMake 71 = .ok (.aload_n 0, 1) := by decide +kernel
theorem dX1_answerMake_72 : decode cX1_answerMake 72 = .ok (.iload 5, 2) := by decide +kernel
theorem dX1_answerMake_74 : decode cX1_answerMake 74 = .ok (.iload 7, 2) := by decide +kernel
theorem dX1_answerMake_76 : decode cX1_answerMake 76 = .ok (.iload 4, 2) := by decide +kernel
theorem dX1_answerMake_78 : decode cX1_answerMake 78 = .ok (.invokevirtual 193, 3) := by decide +kernel
theorem dX1_answerMake_81 : decode cX1_answerMake 81 = .ok (.goto 13, 3) := by decide +kernel
theorem dX1_answerMake_84 : decode cX1_answerMake 84 = .ok (.aload_n 0, 1) := by decide +kernel
theorem dX1_answerMake_85 : decode cX1_answerMake 85 = .ok (.iload 5, 2) := by decide +kernel
theorem dX1_answerMake_87 : decode cX1_answerMake 87 = .ok (.iload 7, 2) := by decide +kernel
theorem dX1_answerMake_89 : decode cX1_answerMake 89 = .ok (.iload 4, 2) := by decide +kernel
theorem dX1_answerMake_91 : decode cX1_answerMake 91 = .ok (.invokevirtual 196, 3) := by decide +kernel
theorem dX1_answerMake_94 : decode cX1_answerMake 94 = .ok (.ireturn, 1) := by decide +kernel
set_option maxRecDepth 20000 in
theorem ggX1_makeOwn_X1_placeOf : GoodIn wsX1_makeOwn wsX1_placeOf := goodIn_r _ [8, 9, 10, 11, 12, 13, 14, 15, 16, 17, 18, 19, 20, 21, 22, 23, 24, 25, 26, 27, 28, 29, 30, 31, 32, 33, 34, 140, 141, 142, 143, 144, 145, 146, 147, 134, 135, 136, 137, 138, 139, 148, 149, 150] (by decide +kernel) (by decide +kernel)
set_option maxRecDepth 20000 in
theorem gX1_makeOwn_X1_placeOf : GoodIn wsX1_makeOwn (wsV RX1 136 RX1 yX1_placeOf wsX1_placeOf) := goodIn_app (goodIn_of _ (by decide +kernel)) ggX1_makeOwn_X1_placeOf
set_option maxRecDepth 20000 in
theorem ggX1_makeOwn_X1_hasRoom : GoodIn wsX1_makeOwn wsX1_hasRoom := goodIn_r _ [38, 39, 40, 41, 42, 7, 43, 44, 9, 10, 11, 12, 13, 14, 15, 16, 17, 18, 19, 20, 21, 22, 23, 24, 25, 26, 27, 28, 29, 30, 31, 32, 33, 34, 45, 46, 47, 48, 49, 50, 3, 51, 52, 53, 54, 55, 56, 57, 58, 59, 60, 61, 140, 141, 142, 143, 144, 145, 146, 147, 134, 135, 136, 137, 138, 139, 148, 149, 150] (by decide +kernel) (by decide +kernel)
set_option maxRecDepth 20000 in
theorem gX1_makeOwn_X1_hasRoom : GoodIn wsX1_makeOwn (wsV RX1 121 RX1 yX1_hasRoom wsX1_hasRoom) := goodIn_app (goodIn_of _ (by decide +kernel)) ggX1_makeOwn_X1_hasRoom
set_option maxRecDepth 20000 in
theorem ggX1_makeOwn_X1_isFull : GoodIn wsX1_makeOwn wsX1_isFull := goodIn_r _ [65, 9, 12, 13, 14, 15, 16, 17, 140, 141, 142, 143, 144, 145, 146, 147, 148, 149, 150] (by decide +kernel) (by decide +kernel)
set_option maxRecDepth 20000 in
theorem gX1_makeOwn_X1_isFull : GoodIn wsX1_makeOwn (wsV RX1 199 RX1 yX1_isFull wsX1_isFull) := goodIn_app (goodIn_of _ (by decide +kernel)) ggX1_makeOwn_X1_isFull
set_option maxRecDepth 20000 in
theorem ggX1_makeOwn_X0_init : GoodIn wsX1_makeOwn wsX0_init := goodIn_r _ [68, 69, 70, 71, 72, 73, 53, 54, 74, 75, 52, 134, 135, 136, 137, 138, 139] (by decide +kernel) (by decide +kernel)
set_option maxRecDepth 20000 in
theorem gX1_makeOwn_X0_init : GoodIn wsX1_makeOwn (wsX0_init) := ggX1_makeOwn_X0_init
set_option maxRecDepth 20000 in
theorem ggX1_makeOwn_X1_store : GoodIn wsX1_makeOwn wsX1_store := goodIn_r _ [79, 9, 10, 11, 12, 13, 14, 15, 16, 17, 18, 19, 20, 21, 22, 23, 24, 25, 26, 27, 28, 29, 30, 31, 32, 33, 34, 80, 81, 82, 83, 84, 85, 86, 87, 88, 89, 90, 91, 92, 93, 94, 95, 96, 97, 98, 99, 100, 101, 102, 103, 104, 105, 106, 107, 108, 109, 110, 111, 112, 113, 114, 115, 116, 117, 118, 119, 120, 121, 122, 123, 124, 125, 126, 127, 128, 129, 130, 131, 132, 133, 140, 141, 142, 143, 144, 145, 146, 147, 134, 135, 136, 137, 138, 139, 148, 149, 150] (by decide +kernel) (by decide +kernel)
set_option maxRecDepth 20000 in
theorem gX1_makeOwn_X1_store : GoodIn wsX1_makeOwn (wsV RX1 206 RX1 yX1_store wsX1_store) := goodIn_app (goodIn_of _ (by decide +kernel)) ggX1_makeOwn_X1_store
theorem dX1_makeOwn_0 : decode cX1_makeOwn 0 = .ok (.aload_n 0, 1) := by decide +kernel
theorem dX1_makeOwn_1 : decode cX1_makeOwn 1 = .ok (.iload_n 2, 1) := by decide +kernel
theorem dX1_makeOwn_2 : decode cX1_makeOwn 2 = .ok (.invokevirtual 136, 3) := by decide +kernel
theorem dX1_makeOwn_5 : decode cX1_makeOwn 5 = .ok (.iconst (-1), 1) := by decide +kernel
theorem dX1_makeOwn_6 : decode cX1_makeOwn 6 = .ok (.if_icmp .eq 5, 3) := by decide +kernel
theorem dX1_makeOwn_9 : decode cX1_makeOwn 9 = .ok (.iconst 0, 1) := by decide +kernel
theorem dX1_makeOwn_10 : decode cX1_makeOwn 10 = .ok (.ireturn, 1) := by decide +kernel
theorem dX1_makeOwn_11 : decode cX1_makeOwn 11 = .ok (.aload_n 0, 1) := by decide +kernel
theorem dX1_makeOwn_12 : decode cX1_makeOwn 12 = .ok (.iload_n 1, 1) := by decide +kernel
theorem dX1_makeOwn_13 : decode cX1_makeOwn 13 = .ok (.iconst 1, 1) := by decide +kernel
theorem dX1_makeOwn_14 : decode cX1_makeOwn 14 = .ok (.invokevirtual 121, 3) := by decide +kernel
theorem dX1_makeOwn_17 : decode cX1_makeOwn 17 = .ok (.ifCond .ne 6, 3) := by decide +kernel
theorem dX1_makeOwn_20 : decode cX1_makeOwn 20 = .ok (.bipush (-3), 2) := by decide +kernel
theorem dX1_makeOwn_22 : decode cX1_makeOwn 22 = .ok (.ireturn, 1) := by decide +kernel
theorem dX1_makeOwn_23 : decode cX1_makeOwn 23 = .ok (.aload_n 0, 1) := by decide +kernel
theorem dX1_makeOwn_24 : decode cX1_makeOwn 24 = .ok (.invokevirtual 199, 3) := by decide +kernel
theorem dX1_makeOwn_27 : decode cX1_makeOwn 27 = .ok (.ifCond .eq 6, 3) := by decide +kernel
theorem dX1_makeOwn_30 : decode cX1_makeOwn 30 = .ok (.bipush (-4), 2) := by decide +kernel
theorem dX1_makeOwn_32 : decode cX1_makeOwn 32 = .ok (.ireturn, 1) := by decide +kernel
theorem dX1_makeOwn_33 : decode cX1_makeOwn 33 = .ok (.aload_n 0, 1) := by decide +kernel
theorem dX1_makeOwn_34 : decode cX1_makeOwn 34 = .ok (.new 114, 3) := by decide +kernel
theorem dX1_makeOwn_37 : decode cX1_makeOwn 37 = .ok (.dup, 1) := by decide +kernel
theorem dX1_makeOwn_38 : decode cX1_makeOwn 38 = .ok (.iload_n 2, 1) := by decide +kernel
theorem dX1_makeOwn_39 : decode cX1_makeOwn 39 = .ok (.iload_n 3, 1) := by decide +kernel
theorem dX1_makeOwn_40 : decode cX1_makeOwn 40 = .ok (.iconst 0, 1) := by decide +kernel
theorem dX1_makeOwn_41 : decode cX1_makeOwn 41 = .ok (.invokespecial 203, 3) := by decide +kernel
theorem dX1_makeOwn_44 : decode cX1_makeOwn 44 = .ok (.invokevirtual 206, 3) := by decide +kernel
theorem dX1_makeOwn_47 : decode cX1_makeOwn 47 = .ok (.iconst 1, 1) := by decide +kernel
theorem dX1_makeOwn_48 : decode cX1_makeOwn 48 = .ok (.ireturn, 1) := by decide +kernel
set_option maxRecDepth 20000 in
theorem ggX1_makeAbove_X1_hasRoom : GoodIn wsX1_makeAbove wsX1_hasRoom := goodIn_r _ [9, 10, 11, 12, 13, 8, 14, 4, 15, 16, 17, 18, 19, 20, 21, 22, 23, 24, 25, 26, 27, 28, 29, 30, 31, 32, 33, 34, 35, 36, 37, 38, 39, 40, 41, 42, 43, 44, 45, 46, 3, 47, 48, 49, 50, 51, 52, 53, 54, 55, 56, 57, 140, 141, 142, 143, 144, 145, 146, 147, 134, 135, 136, 137, 138, 139, 148, 149, 150] (by decide +kernel) (by decide +kernel)
set_option maxRecDepth 20000 in
theorem gX1_makeAbove_X1_hasRoom : GoodIn wsX1_makeAbove (wsV RX1 121 RX1 yX1_hasRoom wsX1_hasRoom) := goodIn_app (goodIn_of _ (by decide +kernel)) ggX1_makeAbove_X1_hasRoom
set_option maxRecDepth 20000 in
theorem ggX1_makeAbove_X1_placeOf : GoodIn wsX1_makeAbove wsX1_placeOf := goodIn_r _ [61, 15, 16, 17, 18, 19, 20, 21, 22, 23, 24, 25, 26, 27, 28, 29, 30, 31, 32, 33, 34, 35, 36, 37, 38, 39, 40, 140, 141, 142, 143, 144, 145, 146, 147, 134, 135, 136, 137, 138, 139, 148, 149, 150] (by decide +kernel) (by decide +kernel)
set_option maxRecDepth 20000 in
theorem gX1_makeAbove_X1_placeOf : GoodIn wsX1_makeAbove (wsV RX1 136 RX1 yX1_placeOf wsX1_placeOf) := goodIn_app (goodIn_of _ (by decide +kernel)) ggX1_makeAbove_X1_placeOf
set_option maxRecDepth 20000 in
theorem ggX1_makeAbove_X1_isFull : GoodIn wsX1_makeAbove wsX1_isFull := goodIn_r _ [65, 15, 18, 19, 20, 21, 22, 23, 140, 141, 142, 143, 144, 145, 146, 147, 148, 149, 150] (by decide +kernel) (by decide +kernel)
set_option maxRecDepth 20000 in
theorem gX1_makeAbove_X1_isFull : GoodIn wsX1_makeAbove (wsV RX1 199 RX1 yX1_isFull wsX1_isFull) := goodIn_app (goodIn_of _ (by decide +kernel)) ggX1_makeAbove_X1_isFull
set_option maxRecDepth 20000 in
theorem ggX1_makeAbove_X0_init : GoodIn wsX1_makeAbove wsX0_init := goodIn_r _ [68, 69, 70, 71, 72, 73, 49, 50, 74, 75, 48, 134, 135, 136, 137, 138, 139] (by decide +kernel) (by decide +kernel)
set_option maxRecDepth 20000 in
theorem gX1_makeAbove_X0_init : GoodIn wsX1_makeAbove (wsX0_init) := ggX1_makeAbove_X0_init
set_option maxRecDepth 20000 in
theorem ggX1_makeAbove_X1_store : GoodIn wsX1_makeAbove wsX1_store := goodIn_r _ [79, 15, 16, 17, 18, 19, 20, 21, 22, 23, 24, 25, 26, 27, 28, 29, 30, 31, 32, 33, 34, 35, 36, 37, 38, 39, 40, 80, 81, 82, 83, 84, 85, 86, 87, 88, 89, 90, 91, 92, 93, 94, 95, 96, 97, 98, 99, 100, 101, 102, 103, 104, 105, 106, 107, 108, 109, 110, 111, 112, 113, 114, 115, 116, 117, 118, 119, 120, 121, 122, 123, 124, 125, 126, 127, 128, 129, 130, 131, 132, 133, 140, 141, 142, 143, 144, 145, 146, 147, 134, 135, 136, 137, 138, 139, 148, 149, 150] (by decide +kernel) (by decide +kernel)
set_option maxRecDepth 20000 in
theorem gX1_makeAbove_X1_store : GoodIn wsX1_makeAbove (wsV RX1 206 RX1 yX1_store wsX1_store) := goodIn_app (goodIn_of _ (by decide +kernel)) ggX1_makeAbove_X1_store
theorem dX1_makeAbove_0 : decode cX1_makeAbove 0 = .ok (.aload_n 0, 1) := by decide +kernel
theorem dX1_makeAbove_1 : decode cX1_makeAbove 1 = .ok (.iload_n 1, 1) := by decide +kernel
theorem dX1_makeAbove_2 : decode cX1_makeAbove 2 = .ok (.iconst 1, 1) := by decide +kernel
theorem dX1_makeAbove_3 : decode cX1_makeAbove 3 = .ok (.invokevirtual 121, 3) := by decide +kernel
theorem dX1_makeAbove_6 : decode cX1_makeAbove 6 = .ok (.ifCond .ne 6, 3) := by decide +kernel
theorem dX1_makeAbove_9 : decode cX1_makeAbove 9 = .ok (.bipush (-3), 2) := by decide +kernel
theorem dX1_makeAbove_11 : decode cX1_makeAbove 11 = .ok (.ireturn, 1) := by decide +kernel
theorem dX1_makeAbove_12 : decode cX1_makeAbove 12 = .ok (.aload_n 0, 1) := by decide +kernel
theorem dX1_makeAbove_13 : decode cX1_makeAbove 13 = .ok (.iload_n 2, 1) := by decide +kernel
theorem dX1_makeAbove_14 : decode cX1_makeAbove 14 = .ok (.invokevirtual 136, 3) := by decide +kernel
theorem dX1_makeAbove_17 : decode cX1_makeAbove 17 = .ok (.iconst (-1), 1) := by decide +kernel
theorem dX1_makeAbove_18 : decode cX1_makeAbove 18 = .ok (.if_icmp .ne 27, 3) := by decide +kernel
theorem dX1_makeAbove_21 : decode cX1_makeAbove 21 = .ok (.aload_n 0, 1) := by decide +kernel
theorem dX1_makeAbove_22 : decode cX1_makeAbove 22 = .ok (.invokevirtual 199, 3) := by decide +kernel
theorem dX1_makeAbove_25 : decode cX1_makeAbove 25 = .ok (.ifCond .eq 6, 3) := by decide +kernel
theorem dX1_makeAbove_28 : decode cX1_makeAbove 28 = .ok (.bipush (-4), 2) := by decide +kernel
theorem dX1_makeAbove_30 : decode cX1_makeAbove 30 = .ok (.ireturn, 1) := by decide +kernel
theorem dX1_makeAbove_31 : decode cX1_makeAbove 31 = .ok (.aload_n 0, 1) := by decide +kernel
theorem dX1_makeAbove_32 : decode cX1_makeAbove 32 = .ok (.new 114, 3) := by decide +kernel
theorem dX1_makeAbove_35 : decode cX1_makeAbove 35 = .ok (.dup, 1) := by decide +kernel
theorem dX1_makeAbove_36 : decode cX1_makeAbove 36 = .ok (.iload_n 2, 1) := by decide +kernel
theorem dX1_makeAbove_37 : decode cX1_makeAbove 37 = .ok (.iload_n 3, 1) := by decide +kernel
theorem dX1_makeAbove_38 : decode cX1_makeAbove 38 = .ok (.iconst 1, 1) := by decide +kernel
theorem dX1_makeAbove_39 : decode cX1_makeAbove 39 = .ok (.invokespecial 203, 3) := by decide +kernel
theorem dX1_makeAbove_42 : decode cX1_makeAbove 42 = .ok (.invokevirtual 206, 3) := by decide +kernel
theorem dX1_makeAbove_45 : decode cX1_makeAbove 45 = .ok (.aload_n 0, 1) := by decide +kernel
theorem dX1_makeAbove_46 : decode cX1_makeAbove 46 = .ok (.getfield 16, 3) := by decide +kernel
theorem dX1_makeAbove_49 : decode cX1_makeAbove 49 = .ok (.iload_n 1, 1) := by decide +kernel
theorem dX1_makeAbove_50 : decode cX1_makeAbove 50 = .ok (.dup2, 1) := by decide +kernel
theorem dX1_makeAbove_51 : decode cX1_makeAbove 51 = .ok (.iaload, 1) := by decide +kernel
theorem dX1_makeAbove_52 : decode cX1_makeAbove 52 = .ok (.iconst 1, 1) := by decide +kernel
theorem dX1_makeAbove_53 : decode cX1_makeAbove 53 = .ok (.iadd, 1) := by decide +kernel
theorem dX1_makeAbove_54 : decode cX1_makeAbove 54 = .ok (.iastore, 1) := by decide +kernel
theorem dX1_makeAbove_55 : decode cX1_makeAbove 55 = .ok (.iconst 2, 1) := by decide +kernel
theorem dX1_makeAbove_56 : decode cX1_makeAbove 56 = .ok (.ireturn, 1) := by decide +kernel
set_option maxRecDepth 20000 in
theorem ggX1_answerRelease_X1_listingOf : GoodIn wsX1_answerRelease wsX1_listingOf := goodIn_r _ [9] (by decide +kernel) (by decide +kernel)
set_option maxRecDepth 20000 in
theorem gX1_answerRelease_X1_listingOf : GoodIn wsX1_answerRelease (va_wsS RX1 65 yX1_listingOf wsX1_listingOf) := goodIn_app (goodIn_of _ (by decide +kernel)) ggX1_answerRelease_X1_listingOf
set_option maxRecDepth 20000 in
theorem ggX1_answerRelease_X1_isListed : GoodIn wsX1_answerRelease wsX1_isListed := goodIn_r _ [13, 14, 15, 157, 158, 159, 160, 161, 162, 163, 164] (by decide +kernel) (by decide +kernel)
set_option maxRecDepth 20000 in
theorem gX1_answerRelease_X1_isListed : GoodIn wsX1_answerRelease (wsV RX1 69 RX1 yX1_isListed wsX1_isListed) := goodIn_app (goodIn_of _ (by decide +kernel)) ggX1_answerRelease_X1_isListed
set_option maxRecDepth 20000 in
theorem ggX1_answerRelease_X1_find : GoodIn wsX1_answerRelease wsX1_find := goodIn_r _ [19, 20, 21, 22, 23, 8, 24, 25, 26, 27, 28, 29, 30, 31, 32, 33, 34, 35, 36, 37, 38, 39, 40, 41, 42, 43, 44, 45, 46, 47, 48, 49, 50, 51, 52, 157, 158, 159, 160, 161, 162, 163, 164, 165, 166, 167, 168, 169, 170, 171, 172, 173] (by decide +kernel) (by decide +kernel)
set_option maxRecDepth 20000 in
theorem gX1_answerRelease_X1_find : GoodIn wsX1_answerRelease (wsV RX1 109 RX1 yX1_find wsX1_find) := goodIn_app (goodIn_of _ (by decide +kernel)) ggX1_answerRelease_X1_find
set_option maxRecDepth 20000 in
theorem ggX1_answerRelease_X0_use : GoodIn wsX1_answerRelease wsX0_use := goodIn_r _ [56, 57, 58, 59, 60, 61, 62, 63, 64, 65, 66, 165, 166, 167, 168, 169, 170] (by decide +kernel) (by decide +kernel)
set_option maxRecDepth 20000 in
theorem gX1_answerRelease_X0_use : GoodIn wsX1_answerRelease (wsV RX1 210 RX0 yX0_use wsX0_use) := goodIn_app (goodIn_of _ (by decide +kernel)) ggX1_answerRelease_X0_use
set_option maxRecDepth 20000 in
theorem ggX1_answerRelease_X1_hasRoom : GoodIn wsX1_answerRelease wsX1_hasRoom := goodIn_r _ [70, 71, 72, 73, 74, 8, 75, 76, 20, 21, 29, 30, 31, 32, 33, 34, 35, 36, 37, 38, 39, 40, 41, 42, 43, 44, 45, 46, 47, 48, 49, 50, 51, 52, 77, 78, 79, 53, 54, 55, 5, 56, 57, 58, 59, 60, 61, 62, 63, 64, 65, 66, 157, 158, 159, 160, 161, 162, 163, 164, 165, 166, 167, 168, 169, 170, 171, 172, 173] (by decide +kernel) (by decide +kernel)
set_option maxRecDepth 20000 in
theorem gX1_answerRelease_X1_hasRoom : GoodIn wsX1_answerRelease (wsV RX1 121 RX1 yX1_hasRoom wsX1_hasRoom) := goodIn_app (goodIn_of _ (by decide +kernel)) ggX1_answerRelease_X1_hasRoom
set_option maxRecDepth 20000 in
theorem ggX1_answerRelease_X1_isFull : GoodIn wsX1_answerRelease wsX1_isFull := goodIn_r _ [83, 20, 30, 31, 32, 33, 34, 35, 157, 158, 159, 160, 161, 162, 163, 164, 171, 172, 173] (by decide +kernel) (by decide +kernel)
set_option maxRecDepth 20000 in
theorem gX1_answerRelease_X1_isFull : GoodIn wsX1_answerRelease (wsV RX1 199 RX1 yX1_isFull wsX1_isFull) := goodIn_app (goodIn_of _ (by decide +kernel)) ggX1_answerRelease_X1_isFull
set_option maxRecDepth 20000 in
theorem ggX1_answerRelease_X1_addressOf : GoodIn wsX1_answerRelease wsX1_addressOf := goodIn_r _ [24] (by decide +kernel) (by decide +kernel)
set_option maxRecDepth 20000 in
theorem gX1_answerRelease_X1_addressOf : GoodIn wsX1_answerRelease (va_wsS RX1 132 yX1_addressOf wsX1_addressOf) := goodIn_app (goodIn_of _ (by decide +kernel)) ggX1_answerRelease_X1_addressOf
set_option maxRecDepth 20000 in
theorem ggX1_answerRelease_X0_init : GoodIn wsX1_answerRelease wsX0_init := goodIn_r _ [86, 87, 88, 89, 90, 91, 58, 59, 92, 93, 57, 165, 166, 167, 168, 169, 170] (by decide +kernel) (by decide +kernel)
set_option maxRecDepth 20000 in
theorem gX1_answerRelease_X0_init : GoodIn wsX1_answerRelease (wsX0_init) := ggX1_answerRelease_X0_init
set_option maxRecDepth 20000 in
theorem ggX1_answerRelease_X1_store : GoodIn wsX1_answerRelease wsX1_store := goodIn_r _ [97, 20, 21, 29, 30, 31, 32, 33, 34, 35, 36, 37, 38, 39, 40, 41, 42, 43, 44, 45, 46, 47, 48, 49, 50, 51, 52, 98, 99, 100, 101, 102, 103, 104, 105, 106, 107, 108, 109, 110, 111, 112, 113, 114, 115, 116, 117, 118, 119, 120, 121, 122, 123, 124, 125, 126, 127, 128, 129, 130, 131, 132, 133, 134, 135, 136, 137, 138, 139, 140, 141, 142, 143, 144, 145, 146, 147, 148, 149, 150, 151, 157, 158, 159, 160, 161, 162, 163, 164, 165, 166, 167, 168, 169, 170, 171, 172, 173] (by decide +kernel) (by decide +kernel)
set_option maxRecDepth 20000 in
theorem gX1_answerRelease_X1_store : GoodIn wsX1_answerRelease (wsV RX1 206 RX1 yX1_store wsX1_store) := goodIn_app (goodIn_of _ (by decide +kernel)) ggX1_answerRelease_X1_store
set_option maxRecDepth 20000 in
theorem ggX1_answerRelease_X0_becomeCopyOf : GoodIn wsX1_answerRelease wsX0_becomeCopyOf := goodIn_r _ [155, 91, 58, 156, 105, 106, 107, 57, 59, 165, 166, 167, 168, 169, 170] (by decide +kernel) (by decide +kernel)
set_option maxRecDepth 20000 in
theorem gX1_answerRelease_X0_becomeCopyOf : GoodIn wsX1_answerRelease (wsV RX1 214 RX0 yX0_becomeCopyOf wsX0_becomeCopyOf) := goodIn_app (goodIn_of _ (by decide +kernel)) ggX1_answerRelease_X0_becomeCopyOf
theorem dX1_answerRelease_0 : decode cX1_answerRelease 0 = .ok (.aload_n 0, 1) := by decide +kernel
theorem dX1_answerRelease_1 : decode cX1_answerRelease 1 = .ok (.getfield 9, 3) := by decide +kernel
theorem dX1_answerRelease_4 : decode cX1_answerRelease 4 = .ok (.iload_n 1, 1) := by decide +kernel
theorem dX1_answerRelease_5 : decode cX1_answerRelease 5 = .ok (.iaload, 1) := by decide +kernel
theorem dX1_answerRelease_6 : decode cX1_answerRelease 6 = .ok (.iconst (-1), 1) := by decide +kernel
theorem dX1_answerRelease_7 : decode cX1_answerRelease 7 = .ok (.if_icmp .ne 5, 3) := by decide +kernel
theorem dX1_answerRelease_10 : decode cX1_answerRelease 10 = .ok (.iconst (-1), 1) := by decide +kernel
theorem dX1_answerRelease_11 : decode cX1_answerRelease 11 = .ok (.ireturn, 1) := by decide +kernel
theorem dX1_answerRelease_12 : decode cX1_answerRelease 12 = .ok (.aload_n 0, 1) := by decide +kernel
theorem dX1_answerRelease_13 : decode cX1_answerRelease 13 = .ok (.iload_n 1, 1) := by decide +kernel
theorem dX1_answerRelease_14 : decode cX1_answerRelease 14 = .ok (.iload_n 2, 1) := by decide +kernel
theorem dX1_answerRelease_15 : decode cX1_answerRelease 15 = .ok (.iload 4, 2) := by decide +kernel
theorem dX1_answerRelease_17 : decode cX1_answerRelease 17 = .ok (.invokestatic 65, 3) := by decide +kernel
theorem dX1_answerRelease_20 : decode cX1_answerRelease 20 = .ok (.invokevirtual 69, 3) := by decide +kernel
theorem dX1_answerRelease_23 : decode cX1_answerRelease 23 = .ok (.ifCond .ne 6, 3) := by decide +kernel
theorem dX1_answerRelease_26 : decode cX1_answerRelease 26 = .ok (.bipush (-2), 2) := by decide +kernel
theorem dX1_answerRelease_28 : decode cX1_answerRelease 28 = .ok (.ireturn, 1) := by decide +kernel
theorem dX1_answerRelease_29 : decode cX1_answerRelease 29 = .ok (.aload_n 0, 1) := by decide +kernel
theorem dX1_answerRelease_30 : decode cX1_answerRelease 30 = .ok (.iload_n 2, 1) := by decide +kernel
theorem dX1_answerRelease_31 : decode cX1_answerRelease 31 = .ok (.iload_n 3, 1) := by decide +kernel
theorem dX1_answerRelease_32 : decode cX1_answerRelease 32 = .ok (.invokevirtual 109, 3) := by decide +kernel
theorem dX1_answerRelease_35 : decode cX1_answerRelease 35 = .ok (.astore 5, 2) := by decide +kernel
theorem dX1_answerRelease_37 : decode cX1_answerRelease 37 = .ok (.aload 5, 2) := by decide +kernel
theorem dX1_answerRelease_39 : decode cX1_answerRelease 39 = .ok (.ifnonnull 5, 3) := by decide +kernel
theorem dX1_answerRelease_42 : decode cX1_answerRelease 42 = .ok (.iconst 0, 1) := by decide +kernel
theorem dX1_answerRelease_43 : decode cX1_answerRelease 43 = .ok (.ireturn, 1) := by decide +kernel
theorem dX1_answerRelease_44 : decode cX1_answerRelease 44 = .ok (.aload_n 0, 1) := by decide +kernel
theorem dX1_answerRelease_45 : decode cX1_answerRelease 45 = .ok (.iload 4, 2) := by decide +kernel
theorem dX1_answerRelease_47 : decode cX1_answerRelease 47 = .ok (.iload_n 3, 1) := by decide +kernel
theorem dX1_answerRelease_48 : decode cX1_answerRelease 48 = .ok (.invokevirtual 109, 3) := by decide +kernel
theorem dX1_answerRelease_51 : decode cX1_answerRelease 51 = .ok (.astore 6, 2) := by decide +kernel
theorem dX1_answerRelease_53 : decode cX1_answerRelease 53 = .ok (.aload 6, 2) := by decide +kernel
theorem dX1_answerRelease_55 : decode cX1_answerRelease 55 = .ok (.ifnonnull 7, 3) := by decide +kernel
theorem dX1_answerRelease_58 : decode cX1_answerRelease 58 = .ok (.iconst 0, 1) := by decide +kernel
theorem dX1_answerRelease_59 : decode cX1_answerRelease 59 = .ok (.goto 8, 3) := by decide +kernel
theorem dX1_answerRelease_62 : decode cX1_answerRelease 62 = .ok (.aload 6, 2) := by decide +kernel
theorem dX1_answerRelease_64 : decode cX1_answerRelease 64 = .ok (.invokevirtual 210, 3) := by decide +kernel
theorem dX1_answerRelease_67 : decode cX1_answerRelease 67 = .ok (.istore 7, 2) := by decide +kernel
theorem dX1_answerRelease_69 : decode cX1_answerRelease 69 = .ok (.aload_n 0, 1) := by decide +kernel
theorem dX1_answerRelease_70 : decode cX1_answerRelease 70 = .ok (.iload 4, 2) := by decide +kernel
theorem dX1_answerRelease_72 : decode cX1_answerRelease 72 = .ok (.iconst 1, 1) := by decide +kernel
theorem dX1_answerRelease_73 : decode cX1_answerRelease 73 = .ok (.aload 5, 2) := by decide +kernel
theorem dX1_answerRelease_75 : decode cX1_answerRelease 75 = .ok (.getfield 113, 3) := by decide +kernel
theorem dX1_answerRelease_78 : decode cX1_answerRelease 78 = .ok (.iadd, 1) := by decide +kernel
theorem dX1_answerRelease_79 : decode cX1_answerRelease 79 = .ok (.iload 7, 2) := by decide +kernel
theorem dX1_answerRelease_81 : decode cX1_answerRelease 81 = .ok (.isub, 1) := by decide +kernel
theorem dX1_answerRelease_82 : decode cX1_answerRelease 82 = .ok (.invokevirtual 121, 3) := by decide +kernel
theorem dX1_answerRelease_85 : decode cX1_answerRelease 85 = .ok (.ifCond .ne 6, 3) := by decide +kernel
theorem dX1_answerRelease_88 : decode cX1_answerRelease 88 = .ok (.bipush (-3), 2) := by decide +kernel
theorem dX1_answerRelease_90 : decode cX1_answerRelease 90 = .ok (.ireturn, 1) := by decide +kernel
theorem dX1_answerRelease_91 : decode cX1_answerRelease 91 = .ok (.aload 6, 2) := by decide +kernel
theorem dX1_answerRelease_93 : decode cX1_answerRelease 93 = .ok (.ifnonnull 36, 3) := by decide +kernel
theorem dX1_answerRelease_96 : decode cX1_answerRelease 96 = .ok (.aload_n 0, 1) := by decide +kernel
theorem dX1_answerRelease_97 : decode cX1_answerRelease 97 = .ok (.invokevirtual 199, 3) := by decide +kernel
theorem dX1_answerRelease_100 : decode cX1_answerRelease 100 = .ok (.ifCond .eq 6, 3) := by decide +kernel
theorem dX1_answerRelease_103 : decode cX1_answerRelease 103 = .ok (.bipush (-4), 2) := by decide +kernel
theorem dX1_answerRelease_105 : decode cX1_answerRelease 105 = .ok (.ireturn, 1) := by decide +kernel
theorem dX1_answerRelease_106 : decode cX1_answerRelease 106 = .ok (.new 114, 3) := by decide +kernel
theorem dX1_answerRelease_109 : decode cX1_answerRelease 109 = .ok (.dup, 1) := by decide +kernel
theorem dX1_answerRelease_110 : decode cX1_answerRelease 110 = .ok (.iload 4, 2) := by decide +kernel
theorem dX1_answerRelease_112 : decode cX1_answerRelease 112 = .ok (.iload_n 3, 1) := by decide +kernel
theorem dX1_answerRelease_113 : decode cX1_answerRelease 113 = .ok (.invokestatic 132, 3) := by decide +kernel
theorem dX1_answerRelease_116 : decode cX1_answerRelease 116 = .ok (.iconst (-1), 1) := by decide +kernel
theorem dX1_answerRelease_117 : decode cX1_answerRelease 117 = .ok (.iconst 0, 1) := by decide +kernel
theorem dX1_answerRelease_118 : decode cX1_answerRelease 118 = .ok (.invokespecial 203, 3) := by decide +kernel
theorem dX1_answerRelease_121 : decode cX1_answerRelease 121 = .ok (.astore 6, 2) := by decide +kernel
theorem dX1_answerRelease_123 : decode cX1_answerRelease 123 = .ok (.aload_n 0, 1) := by decide +kernel
theorem dX1_answerRelease_124 : decode cX1_answerRelease 124 = .ok (.aload 6, 2) := by decide +kernel
theorem dX1_answerRelease_126 : decode cX1_answerRelease 126 = .ok (.invokevirtual 206, 3) := by decide +kernel
theorem dX1_answerRelease_129 : decode cX1_answerRelease 129 = .ok (.aload 6, 2) := by decide +kernel
theorem dX1_answerRelease_131 : decode cX1_answerRelease 131 = .ok (.aload 5, 2) := by decide +kernel
theorem dX1_answerRelease_133 : decode cX1_answerRelease 133 = .ok (.invokevirtual 214, 3) := by decide +kernel
theorem dX1_answerRelease_136 : decode cX1_answerRelease 136 = .ok (.iconst 1, 1) := by decide +kernel
theorem dX1_answerRelease_137 : decode cX1_answerRelease 137 = .ok (.ireturn, 1) := by decide +kernel
set_option maxRecDepth 20000 in
theorem ggX1_hasRoom_X1_usedBy : GoodIn wsX1_hasRoom wsX1_usedBy := goodIn_r _ [6, 7, 8, 9, 10, 11, 12, 13, 14, 15, 16, 17, 18, 19, 20, 21, 22, 23, 24, 25, 26, 27, 28, 29, 30, 31, 32, 33, 34, 35, 5, 36, 37, 38, 39, 40, 41, 42, 43, 44, 45, 46, 47, 48, 49, 50, 51, 52, 53, 54, 55, 56, 57, 58, 59, 60, 61, 62, 63, 64, 65, 66, 67, 68] (by decide +kernel) (by decide +kernel)
set_option maxRecDepth 20000 in
theorem gX1_hasRoom_X1_usedBy : GoodIn wsX1_hasRoom (wsV RX1 155 RX1 yX1_usedBy wsX1_usedBy) := goodIn_app (goodIn_of _ (by decide +kernel)) ggX1_hasRoom_X1_usedBy
theorem dX1_hasRoom_0 : decode cX1_hasRoom 0 = .ok (.aload_n 0, 1) := by decide +kernel
theorem dX1_hasRoom_1 : decode cX1_hasRoom 1 = .ok (.iload_n 1, 1) := by decide +kernel
theorem dX1_hasRoom_2 : decode cX1_hasRoom 2 = .ok (.invokevirtual 155, 3) := by decide +kernel
theorem dX1_hasRoom_5 : decode cX1_hasRoom 5 = .ok (.iload_n 2, 1) := by decide +kernel
theorem dX1_hasRoom_6 : decode cX1_hasRoom 6 = .ok (.iadd, 1) := by decide +kernel
theorem dX1_hasRoom_7 : decode cX1_hasRoom 7 = .ok (.aload_n 0, 1) := by decide +kernel
theorem dX1_hasRoom_8 : decode cX1_hasRoom 8 = .ok (.getfield 13, 3) := by decide +kernel
theorem dX1_hasRoom_11 : decode cX1_hasRoom 11 = .ok (.iload_n 1, 1) := by decide +kernel
theorem dX1_hasRoom_12 : decode cX1_hasRoom 12 = .ok (.iaload, 1) := by decide +kernel
theorem dX1_hasRoom_13 : decode cX1_hasRoom 13 = .ok (.if_icmp .gt 7, 3) := by decide +kernel
theorem dX1_hasRoom_16 : decode cX1_hasRoom 16 = .ok (.iconst 1, 1) := by decide +kernel
theorem dX1_hasRoom_17 : decode cX1_hasRoom 17 = .ok (.goto 4, 3) := by decide +kernel
theorem dX1_hasRoom_20 : decode cX1_hasRoom 20 = .ok (.iconst 0, 1) := by decide +kernel
theorem dX1_hasRoom_21 : decode cX1_hasRoom 21 = .ok (.ireturn, 1) := by decide +kernel
set_option maxRecDepth 20000 in
theorem ggX1_usedBy_Jx4a65c_size_8abf5 : GoodIn wsX1_usedBy wsJx4a65c_size_8abf5 := goodIn_r _ [9, 10, 61, 62, 63] (by decide +kernel) (by decide +kernel)
set_option maxRecDepth 20000 in
theorem gX1_usedBy_Jx4a65c_size_8abf5 : GoodIn wsX1_usedBy (wsV RX1 217 RJx4a65c yJx4a65c_size_8abf5 wsJx4a65c_size_8abf5) := goodIn_app (goodIn_of _ (by decide +kernel)) ggX1_usedBy_Jx4a65c_size_8abf5
set_option maxRecDepth 20000 in
theorem ggX1_usedBy_Jx4a65c_get_915e3 : GoodIn wsX1_usedBy wsJx4a65c_get_915e3 := goodIn_r _ [14, 10, 15, 16, 17, 18, 19, 20, 21, 22, 23, 24, 25, 8, 26, 27, 61, 62, 63] (by decide +kernel) (by decide +kernel)
set_option maxRecDepth 20000 in
theorem gX1_usedBy_Jx4a65c_get_915e3 : GoodIn wsX1_usedBy (wsV RX1 220 RJx4a65c yJx4a65c_get_915e3 wsJx4a65c_get_915e3) := goodIn_app (goodIn_of _ (by decide +kernel)) ggX1_usedBy_Jx4a65c_get_915e3
set_option maxRecDepth 20000 in
theorem ggX1_usedBy_X1_labelOfAddress : GoodIn wsX1_usedBy wsX1_labelOfAddress := goodIn_r _ [31] (by decide +kernel) (by decide +kernel)
set_option maxRecDepth 20000 in
theorem gX1_usedBy_X1_labelOfAddress : GoodIn wsX1_usedBy (va_wsS RX1 190 yX1_labelOfAddress wsX1_labelOfAddress) := goodIn_app (goodIn_of _ (by decide +kernel)) ggX1_usedBy_X1_labelOfAddress
set_option maxRecDepth 20000 in
theorem ggX1_usedBy_X0_use : GoodIn wsX1_usedBy wsX0_use := goodIn_r _ [36, 37, 38, 39, 40, 41, 42, 43, 44, 45, 46, 55, 56, 57, 58, 59, 60] (by decide +kernel) (by decide +kernel)
set_option maxRecDepth 20000 in
theorem gX1_usedBy_X0_use : GoodIn wsX1_usedBy (wsV RX1 210 RX0 yX0_use wsX0_use) := goodIn_app (goodIn_of _ (by decide +kernel)) ggX1_usedBy_X0_use
theorem dX1_usedBy_0 : decode cX1_usedBy 0 = .ok (.aload_n 0, 1) := by decide +kernel
theorem dX1_usedBy_1 : decode cX1_usedBy 1 = .ok (.getfield 16, 3) := by decide +kernel
theorem dX1_usedBy_4 : decode cX1_usedBy 4 = .ok (.iload_n 1, 1) := by decide +kernel
theorem dX1_usedBy_5 : decode cX1_usedBy 5 = .ok (.iaload, 1) := by decide +kernel
theorem dX1_usedBy_6 : decode cX1_usedBy 6 = .ok (.istore_n 2, 1) := by decide +kernel
theorem dX1_usedBy_7 : decode cX1_usedBy 7 = .ok (.iconst 0, 1) := by decide +kernel
theorem dX1_usedBy_8 : decode cX1_usedBy 8 = .ok (.istore_n 3, 1) := by decide +kernel
theorem dX1_usedBy_9 : decode cX1_usedBy 9 = .ok (.iload_n 3, 1) := by decide +kernel
theorem dX1_usedBy_10 : decode cX1_usedBy 10 = .ok (.aload_n 0, 1) := by decide +kernel
theorem dX1_usedBy_11 : decode cX1_usedBy 11 = .ok (.getfield 22, 3) := by decide +kernel
theorem dX1_usedBy_14 : decode cX1_usedBy 14 = .ok (.invokevirtual 217, 3) := by decide +kernel
theorem dX1_usedBy_17 : decode cX1_usedBy 17 = .ok (.if_icmp .ge 42, 3) := by decide +kernel
theorem dX1_usedBy_20 : decode cX1_usedBy 20 = .ok (.aload_n 0, 1) := by decide +kernel
theorem dX1_usedBy_21 : decode cX1_usedBy 21 = .ok (.getfield 22, 3) := by decide +kernel
theorem dX1_usedBy_24 : decode cX1_usedBy 24 = .ok (.iload_n 3, 1) := by decide +kernel
theorem dX1_usedBy_25 : decode cX1_usedBy 25 = .ok (.invokevirtual 220, 3) := by decide +kernel
theorem dX1_usedBy_28 : decode cX1_usedBy 28 = .ok (.checkcast 114, 3) := by decide +kernel
theorem dX1_usedBy_31 : decode cX1_usedBy 31 = .ok (.astore 4, 2) := by decide +kernel
theorem dX1_usedBy_33 : decode cX1_usedBy 33 = .ok (.aload 4, 2) := by decide +kernel
theorem dX1_usedBy_35 : decode cX1_usedBy 35 = .ok (.getfield 223, 3) := by decide +kernel
theorem dX1_usedBy_38 : decode cX1_usedBy 38 = .ok (.invokestatic 190, 3) := by decide +kernel
theorem dX1_usedBy_41 : decode cX1_usedBy 41 = .ok (.iload_n 1, 1) := by decide +kernel
theorem dX1_usedBy_42 : decode cX1_usedBy 42 = .ok (.if_icmp .ne 11, 3) := by decide +kernel
theorem dX1_usedBy_45 : decode cX1_usedBy 45 = .ok (.iload_n 2, 1) := by decide +kernel
theorem dX1_usedBy_46 : decode cX1_usedBy 46 = .ok (.aload 4, 2) := by decide +kernel
theorem dX1_usedBy_48 : decode cX1_usedBy 48 = .ok (.invokevirtual 210, 3) := by decide +kernel
theorem dX1_usedBy_51 : decode cX1_usedBy 51 = .ok (.iadd, 1) := by decide +kernel
theorem dX1_usedBy_52 : decode cX1_usedBy 52 = .ok (.istore_n 2, 1) := by decide +kernel
theorem dX1_usedBy_53 : decode cX1_usedBy 53 = .ok (.iinc 3 1, 3) := by decide +kernel
theorem dX1_usedBy_56 : decode cX1_usedBy 56 = .ok (.goto (-47), 3) := by decide +kernel
theorem dX1_usedBy_59 : decode cX1_usedBy 59 = .ok (.iload_n 2, 1) := by decide +kernel
theorem dX1_usedBy_60 : decode cX1_usedBy 60 = .ok (.ireturn, 1) := by decide +kernel
set_option maxRecDepth 20000 in
theorem ggX1_countFilesAt_Jx4a65c_size_8abf5 : GoodIn wsX1_countFilesAt wsJx4a65c_size_8abf5 := goodIn_r _ [8, 9, 45, 46, 47] (by decide +kernel) (by decide +kernel)
set_option maxRecDepth 20000 in
theorem gX1_countFilesAt_Jx4a65c_size_8abf5 : GoodIn wsX1_countFilesAt (wsV RX1 217 RJx4a65c yJx4a65c_size_8abf5 wsJx4a65c_size_8abf5) := goodIn_app (goodIn_of _ (by decide +kernel)) ggX1_countFilesAt_Jx4a65c_size_8abf5
set_option maxRecDepth 20000 in
theorem ggX1_countFilesAt_Jx4a65c_get_915e3 : GoodIn wsX1_countFilesAt wsJx4a65c_get_915e3 := goodIn_r _ [13, 9, 14, 15, 16, 17, 18, 19, 20, 21, 22, 23, 24, 7, 25, 26, 45, 46, 47] (by decide +kernel) (by decide +kernel)
set_option maxRecDepth 20000 in
theorem gX1_countFilesAt_Jx4a65c_get_915e3 : GoodIn wsX1_countFilesAt (wsV RX1 220 RJx4a65c yJx4a65c_get_915e3 wsJx4a65c_get_915e3) := goodIn_app (goodIn_of _ (by decide +kernel)) ggX1_countFilesAt_Jx4a65c_get_915e3
set_option maxRecDepth 20000 in
theorem ggX1_countFilesAt_X1_labelOfAddress : GoodIn wsX1_countFilesAt wsX1_labelOfAddress := goodIn_r _ [30] (by decide +kernel) (by decide +kernel)
set_option maxRecDepth 20000 in
theorem gX1_countFilesAt_X1_labelOfAddress : GoodIn wsX1_countFilesAt (va_wsS RX1 190 yX1_labelOfAddress wsX1_labelOfAddress) := goodIn_app (goodIn_of _ (by decide +kernel)) ggX1_countFilesAt_X1_labelOfAddress
theorem dX1_countFilesAt_0 : decode cX1_countFilesAt 0 = .ok (.iconst 0, 1) := by decide +kernel
theorem dX1_countFilesAt_1 : decode cX1_countFilesAt 1 = .ok (.istore_n 2, 1) := by decide +kernel
theorem dX1_countFilesAt_2 : decode cX1_countFilesAt 2 = .ok (.iconst 0, 1) := by decide +kernel
theorem dX1_countFilesAt_3 : decode cX1_countFilesAt 3 = .ok (.istore_n 3, 1) := by decide +kernel
theorem dX1_countFilesAt_4 : decode cX1_countFilesAt 4 = .ok (.iload_n 3, 1) := by decide +kernel
theorem dX1_countFilesAt_5 : decode cX1_countFilesAt 5 = .ok (.aload_n 0, 1) := by decide +kernel
theorem dX1_countFilesAt_6 : decode cX1_countFilesAt 6 = .ok (.getfield 22, 3) := by decide +kernel
theorem dX1_countFilesAt_9 : decode cX1_countFilesAt 9 = .ok (.invokevirtual 217, 3) := by decide +kernel
theorem dX1_countFilesAt_12 : decode cX1_countFilesAt 12 = .ok (.if_icmp .ge 33, 3) := by decide +kernel
theorem dX1_countFilesAt_15 : decode cX1_countFilesAt 15 = .ok (.aload_n 0, 1) := by decide +kernel
theorem dX1_countFilesAt_16 : decode cX1_countFilesAt 16 = .ok (.getfield 22, 3) := by decide +kernel
theorem dX1_countFilesAt_19 : decode cX1_countFilesAt 19 = .ok (.iload_n 3, 1) := by decide +kernel
theorem dX1_countFilesAt_20 : decode cX1_countFilesAt 20 = .ok (.invokevirtual 220, 3) := by decide +kernel
theorem dX1_countFilesAt_23 : decode cX1_countFilesAt 23 = .ok (.checkcast 114, 3) := by decide +kernel
theorem dX1_countFilesAt_26 : decode cX1_countFilesAt 26 = .ok (.getfield 223, 3) := by decide +kernel
theorem dX1_countFilesAt_29 : decode cX1_countFilesAt 29 = .ok (.invokestatic 190, 3) := by decide +kernel
theorem dX1_countFilesAt_32 : decode cX1_countFilesAt 32 = .ok (.iload_n 1, 1) := by decide +kernel
theorem dX1_countFilesAt_33 : decode cX1_countFilesAt 33 = .ok (.if_icmp .ne 6, 3) := by decide +kernel
theorem dX1_countFilesAt_36 : decode cX1_countFilesAt 36 = .ok (.iinc 2 1, 3) := by decide +kernel
theorem dX1_countFilesAt_39 : decode cX1_countFilesAt 39 = .ok (.iinc 3 1, 3) := by decide +kernel
theorem dX1_countFilesAt_42 : decode cX1_countFilesAt 42 = .ok (.goto (-38), 3) := by decide +kernel
theorem dX1_countFilesAt_45 : decode cX1_countFilesAt 45 = .ok (.iload_n 2, 1) := by decide +kernel
theorem dX1_countFilesAt_46 : decode cX1_countFilesAt 46 = .ok (.ireturn, 1) := by decide +kernel
theorem dX1_addressOf_0 : decode cX1_addressOf 0 = .ok (.bipush 16, 2) := by decide +kernel
theorem dX1_addressOf_2 : decode cX1_addressOf 2 = .ok (.iload_n 0, 1) := by decide +kernel
theorem dX1_addressOf_3 : decode cX1_addressOf 3 = .ok (.imul, 1) := by decide +kernel
theorem dX1_addressOf_4 : decode cX1_addressOf 4 = .ok (.iload_n 1, 1) := by decide +kernel
theorem dX1_addressOf_5 : decode cX1_addressOf 5 = .ok (.iadd, 1) := by decide +kernel
theorem dX1_addressOf_6 : decode cX1_addressOf 6 = .ok (.ireturn, 1) := by decide +kernel
theorem dX1_labelOfAddress_0 : decode cX1_labelOfAddress 0 = .ok (.iload_n 0, 1) := by decide +kernel
theorem dX1_labelOfAddress_1 : decode cX1_labelOfAddress 1 = .ok (.bipush 16, 2) := by decide +kernel
theorem dX1_labelOfAddress_3 : decode cX1_labelOfAddress 3 = .ok (.idiv, 1) := by decide +kernel
theorem dX1_labelOfAddress_4 : decode cX1_labelOfAddress 4 = .ok (.ireturn, 1) := by decide +kernel
set_option maxRecDepth 20000 in
theorem ggX1_isFull_Jx4a65c_size_8abf5 : GoodIn wsX1_isFull wsJx4a65c_size_8abf5 := goodIn_r _ [6, 7, 16, 17, 18] (by decide +kernel) (by decide +kernel)
set_option maxRecDepth 20000 in
theorem gX1_isFull_Jx4a65c_size_8abf5 : GoodIn wsX1_isFull (wsV RX1 217 RJx4a65c yJx4a65c_size_8abf5 wsJx4a65c_size_8abf5) := goodIn_app (goodIn_of _ (by decide +kernel)) ggX1_isFull_Jx4a65c_size_8abf5
theorem dX1_isFull_0 : decode cX1_isFull 0 = .ok (.aload_n 0, 1) := by decide +kernel
theorem dX1_isFull_1 : decode cX1_isFull 1 = .ok (.getfield 22, 3) := by decide +kernel
theorem dX1_isFull_4 : decode cX1_isFull 4 = .ok (.invokevirtual 217, 3) := by decide +kernel
theorem dX1_isFull_7 : decode cX1_isFull 7 = .ok (.sipush 200, 3) := by decide +kernel
theorem dX1_isFull_10 : decode cX1_isFull 10 = .ok (.if_icmp .lt 7, 3) := by decide +kernel
theorem dX1_isFull_13 : decode cX1_isFull 13 = .ok (.iconst 1, 1) := by decide +kernel
theorem dX1_isFull_14 : decode cX1_isFull 14 = .ok (.goto 4, 3) := by decide +kernel
theorem dX1_isFull_17 : decode cX1_isFull 17 = .ok (.iconst 0, 1) := by decide +kernel
theorem dX1_isFull_18 : decode cX1_isFull 18 = .ok (.ireturn, 1) := by decide +kernel
set_option maxRecDepth 20000 in
theorem ggX1_placeOf_Jx4a65c_size_8abf5 : GoodIn wsX1_placeOf wsJx4a65c_size_8abf5 := goodIn_r _ [8, 9, 41, 42, 43] (by decide +kernel) (by decide +kernel)
set_option maxRecDepth 20000 in
theorem gX1_placeOf_Jx4a65c_size_8abf5 : GoodIn wsX1_placeOf (wsV RX1 217 RJx4a65c yJx4a65c_size_8abf5 wsJx4a65c_size_8abf5) := goodIn_app (goodIn_of _ (by decide +kernel)) ggX1_placeOf_Jx4a65c_size_8abf5
set_option maxRecDepth 20000 in
theorem ggX1_placeOf_Jx4a65c_get_915e3 : GoodIn wsX1_placeOf wsJx4a65c_get_915e3 := goodIn_r _ [13, 9, 14, 15, 16, 17, 18, 19, 20, 21, 22, 23, 24, 7, 25, 26, 41, 42, 43] (by decide +kernel) (by decide +kernel)
set_option maxRecDepth 20000 in
theorem gX1_placeOf_Jx4a65c_get_915e3 : GoodIn wsX1_placeOf (wsV RX1 220 RJx4a65c yJx4a65c_get_915e3 wsJx4a65c_get_915e3) := goodIn_app (goodIn_of _ (by decide +kernel)) ggX1_placeOf_Jx4a65c_get_915e3
theorem dX1_placeOf_0 : decode cX1_placeOf 0 = .ok (.iconst 0, 1) := by decide +kernel
theorem dX1_placeOf_1 : decode cX1_placeOf 1 = .ok (.istore_n 2, 1) := by decide +kernel
theorem dX1_placeOf_2 : decode cX1_placeOf 2 = .ok (.iload_n 2, 1) := by decide +kernel
theorem dX1_placeOf_3 : decode cX1_placeOf 3 = .ok (.aload_n 0, 1) := by decide +kernel
theorem dX1_placeOf_4 : decode cX1_placeOf 4 = .ok (.getfield 22, 3) := by decide +kernel
theorem dX1_placeOf_7 : decode cX1_placeOf 7 = .ok (.invokevirtual 217, 3) := by decide +kernel
theorem dX1_placeOf_10 : decode cX1_placeOf 10 = .ok (.if_icmp .ge 29, 3) := by decide +kernel
theorem dX1_placeOf_13 : decode cX1_placeOf 13 = .ok (.aload_n 0, 1) := by decide +kernel
theorem dX1_placeOf_14 : decode cX1_placeOf 14 = .ok (.getfield 22, 3) := by decide +kernel
theorem dX1_placeOf_17 : decode cX1_placeOf 17 = .ok (.iload_n 2, 1) := by decide +kernel
theorem dX1_placeOf_18 : decode cX1_placeOf 18 = .ok (.invokevirtual 220, 3) := by decide +kernel
theorem dX1_placeOf_21 : decode cX1_placeOf 21 = .ok (.checkcast 114, 3) := by decide +kernel
theorem dX1_placeOf_24 : decode cX1_placeOf 24 = .ok (.getfield 223, 3) := by decide +kernel
theorem dX1_placeOf_27 : decode cX1_placeOf 27 = .ok (.iload_n 1, 1) := by decide +kernel
theorem dX1_placeOf_28 : decode cX1_placeOf 28 = .ok (.if_icmp .ne 5, 3) := by decide +kernel
theorem dX1_placeOf_31 : decode cX1_placeOf 31 = .ok (.iload_n 2, 1) := by decide +kernel
theorem dX1_placeOf_32 : decode cX1_placeOf 32 = .ok (.ireturn, 1) := by decide +kernel
theorem dX1_placeOf_33 : decode cX1_placeOf 33 = .ok (.iinc 2 1, 3) := by decide +kernel
theorem dX1_placeOf_36 : decode cX1_placeOf 36 = .ok (.goto (-34), 3) := by decide +kernel
theorem dX1_placeOf_39 : decode cX1_placeOf 39 = .ok (.iconst (-1), 1) := by decide +kernel
theorem dX1_placeOf_40 : decode cX1_placeOf 40 = .ok (.ireturn, 1) := by decide +kernel
set_option maxRecDepth 20000 in
theorem ggX1_find_X1_addressOf : GoodIn wsX1_find wsX1_addressOf := goodIn_r _ [6] (by decide +kernel) (by decide +kernel)
set_option maxRecDepth 20000 in
theorem gX1_find_X1_addressOf : GoodIn wsX1_find (va_wsS RX1 132 yX1_addressOf wsX1_addressOf) := goodIn_app (goodIn_of _ (by decide +kernel)) ggX1_find_X1_addressOf
set_option maxRecDepth 20000 in
theorem ggX1_find_X1_placeOf : GoodIn wsX1_find wsX1_placeOf := goodIn_r _ [10, 1, 2, 11, 12, 13, 14, 15, 16, 17, 18, 19, 20, 21, 22, 23, 24, 25, 26, 27, 28, 29, 30, 31, 32, 33, 34, 35, 36, 37, 38, 39, 40, 41, 42, 43, 44, 45, 46, 47, 48, 49, 50, 51] (by decide +kernel) (by decide +kernel)
set_option maxRecDepth 20000 in
theorem gX1_find_X1_placeOf : GoodIn wsX1_find (wsV RX1 136 RX1 yX1_placeOf wsX1_placeOf) := goodIn_app (goodIn_of _ (by decide +kernel)) ggX1_find_X1_placeOf
set_option maxRecDepth 20000 in
theorem ggX1_find_Jx4a65c_get_915e3 : GoodIn wsX1_find wsJx4a65c_get_915e3 := goodIn_r _ [21, 17, 22, 23, 24, 25, 26, 27, 28, 29, 30, 31, 32, 15, 33, 34, 49, 50, 51] (by decide +kernel) (by decide +kernel)
set_option maxRecDepth 20000 in
theorem gX1_find_Jx4a65c_get_915e3 : GoodIn wsX1_find (wsV RX1 220 RJx4a65c yJx4a65c_get_915e3 wsJx4a65c_get_915e3) := goodIn_app (goodIn_of _ (by decide +kernel)) ggX1_find_Jx4a65c_get_915e3
theorem dX1_find_0 : decode cX1_find 0 = .ok (.aload_n 0, 1) := by decide +kernel
theorem dX1_find_1 : decode cX1_find 1 = .ok (.iload_n 1, 1) := by decide +kernel
theorem dX1_find_2 : decode cX1_find 2 = .ok (.iload_n 2, 1) := by decide +kernel
theorem dX1_find_3 : decode cX1_find 3 = .ok (.invokestatic 132, 3) := by decide +kernel
theorem dX1_find_6 : decode cX1_find 6 = .ok (.invokevirtual 136, 3) := by decide +kernel
theorem dX1_find_9 : decode cX1_find 9 = .ok (.istore_n 3, 1) := by decide +kernel
theorem dX1_find_10 : decode cX1_find 10 = .ok (.iload_n 3, 1) := by decide +kernel
theorem dX1_find_11 : decode cX1_find 11 = .ok (.iconst (-1), 1) := by decide +kernel
theorem dX1_find_12 : decode cX1_find 12 = .ok (.if_icmp .ne 7, 3) := by decide +kernel
theorem dX1_find_15 : decode cX1_find 15 = .ok (.aconst_null, 1) := by decide +kernel
theorem dX1_find_16 : decode cX1_find 16 = .ok (.goto 14, 3) := by decide +kernel
theorem dX1_find_19 : decode cX1_find 19 = .ok (.aload_n 0, 1) := by decide +kernel
theorem dX1_find_20 : decode cX1_find 20 = .ok (.getfield 22, 3) := by decide +kernel
theorem dX1_find_23 : decode cX1_find 23 = .ok (.iload_n 3, 1) := by decide +kernel
theorem dX1_find_24 : decode cX1_find 24 = .ok (.invokevirtual 220, 3) := by decide +kernel
theorem dX1_find_27 : decode cX1_find 27 = .ok (.checkcast 114, 3) := by decide +kernel
theorem dX1_find_30 : decode cX1_find 30 = .ok (.areturn, 1) := by decide +kernel
set_option maxRecDepth 20000 in
theorem ggX1_store_Jx4a65c_size_8abf5 : GoodIn wsX1_store wsJx4a65c_size_8abf5 := goodIn_r _ [8, 9, 95, 96, 97] (by decide +kernel) (by decide +kernel)
set_option maxRecDepth 20000 in
theorem gX1_store_Jx4a65c_size_8abf5 : GoodIn wsX1_store (wsV RX1 217 RJx4a65c yJx4a65c_size_8abf5 wsJx4a65c_size_8abf5) := goodIn_app (goodIn_of _ (by decide +kernel)) ggX1_store_Jx4a65c_size_8abf5
set_option maxRecDepth 20000 in
theorem ggX1_store_Jx4a65c_get_915e3 : GoodIn wsX1_store wsJx4a65c_get_915e3 := goodIn_r _ [13, 9, 14, 15, 16, 17, 18, 19, 20, 21, 22, 23, 24, 7, 25, 26, 95, 96, 97] (by decide +kernel) (by decide +kernel)
set_option maxRecDepth 20000 in
theorem gX1_store_Jx4a65c_get_915e3 : GoodIn wsX1_store (wsV RX1 220 RJx4a65c yJx4a65c_get_915e3 wsJx4a65c_get_915e3) := goodIn_app (goodIn_of _ (by decide +kernel)) ggX1_store_Jx4a65c_get_915e3
set_option maxRecDepth 20000 in
theorem ggX1_store_Jx4a65c_add_7a177 : GoodIn wsX1_store wsJx4a65c_add_7a177 := goodIn_r _ [30, 31, 32, 9, 26, 33, 34, 35, 36, 37, 38, 39, 7, 40, 41, 42, 43, 44, 45, 46, 47, 48, 49, 50, 51, 52, 53, 54, 55, 56, 57, 58, 59, 60, 61, 62, 63, 64, 65, 66, 67, 68, 69, 70, 71, 72, 73, 74, 75, 76, 77, 78, 79, 80, 95, 96, 97] (by decide +kernel) (by decide +kernel)
set_option maxRecDepth 20000 in
theorem gX1_store_Jx4a65c_add_7a177 : GoodIn wsX1_store (wsV RX1 226 RJx4a65c yJx4a65c_add_7a177 wsJx4a65c_add_7a177) := goodIn_app (goodIn_of _ (by decide +kernel)) ggX1_store_Jx4a65c_add_7a177
theorem dX1_store_0 : decode cX1_store 0 = .ok (.aload_n 0, 1) := by decide +kernel
theorem dX1_store_1 : decode cX1_store 1 = .ok (.getfield 22, 3) := by decide +kernel
theorem dX1_store_4 : decode cX1_store 4 = .ok (.invokevirtual 217, 3) := by decide +kernel
theorem dX1_store_7 : decode cX1_store 7 = .ok (.istore_n 2, 1) := by decide +kernel
theorem dX1_store_8 : decode cX1_store 8 = .ok (.iload_n 2, 1) := by decide +kernel
theorem dX1_store_9 : decode cX1_store 9 = .ok (.ifCond .le 32, 3) := by decide +kernel
theorem dX1_store_12 : decode cX1_store 12 = .ok (.aload_n 0, 1) := by decide +kernel
theorem dX1_store_13 : decode cX1_store 13 = .ok (.getfield 22, 3) := by decide +kernel
theorem dX1_store_16 : decode cX1_store 16 = .ok (.iload_n 2, 1) := by decide +kernel
theorem dX1_store_17 : decode cX1_store 17 = .ok (.iconst 1, 1) := by decide +kernel
theorem dX1_store_18 : decode cX1_store 18 = .ok (.isub, 1) := by decide +kernel
theorem dX1_store_19 : decode cX1_store 19 = .ok (.invokevirtual 220, 3) := by decide +kernel
theorem dX1_store_22 : decode cX1_store 22 = .ok (.checkcast 114, 3) := by decide +kernel
theorem dX1_store_25 : decode cX1_store 25 = .ok (.getfield 223, 3) := by decide +kernel
theorem dX1_store_28 : decode cX1_store 28 = .ok (.aload_n 1, 1) := by decide +kernel
theorem dX1_store_29 : decode cX1_store 29 = .ok (.getfield 223, 3) := by decide +kernel
theorem dX1_store_32 : decode cX1_store 32 = .ok (.if_icmp .le 9, 3) := by decide +kernel
theorem dX1_store_35 : decode cX1_store 35 = .ok (.iinc 2 (-1), 3) := by decide +kernel
theorem dX1_store_38 : decode cX1_store 38 = .ok (.goto (-30), 3) := by decide +kernel
theorem dX1_store_41 : decode cX1_store 41 = .ok (.aload_n 0, 1) := by decide +kernel
theorem dX1_store_42 : decode cX1_store 42 = .ok (.getfield 22, 3) := by decide +kernel
theorem dX1_store_45 : decode cX1_store 45 = .ok (.iload_n 2, 1) := by decide +kernel
theorem dX1_store_46 : decode cX1_store 46 = .ok (.aload_n 1, 1) := by decide +kernel
theorem dX1_store_47 : decode cX1_store 47 = .ok (.invokevirtual 226, 3) := by decide +kernel
theorem dX1_store_50 : decode cX1_store 50 = .ok (.return_, 1) := by decide +kernel
theorem dX1_listingOf_0 : decode cX1_listingOf 0 = .ok (.iload_n 0, 1) := by decide +kernel
theorem dX1_listingOf_1 : decode cX1_listingOf 1 = .ok (.sipush 1024, 3) := by decide +kernel
theorem dX1_listingOf_4 : decode cX1_listingOf 4 = .ok (.imul, 1) := by decide +kernel
theorem dX1_listingOf_5 : decode cX1_listingOf 5 = .ok (.iload_n 1, 1) := by decide +kernel
theorem dX1_listingOf_6 : decode cX1_listingOf 6 = .ok (.iadd, 1) := by decide +kernel
theorem dX1_listingOf_7 : decode cX1_listingOf 7 = .ok (.sipush 1024, 3) := by decide +kernel
theorem dX1_listingOf_10 : decode cX1_listingOf 10 = .ok (.imul, 1) := by decide +kernel
theorem dX1_listingOf_11 : decode cX1_listingOf 11 = .ok (.iload_n 2, 1) := by decide +kernel
theorem dX1_listingOf_12 : decode cX1_listingOf 12 = .ok (.iadd, 1) := by decide +kernel
theorem dX1_listingOf_13 : decode cX1_listingOf 13 = .ok (.ireturn, 1) := by decide +kernel
theorem dX1_isListed_0 : decode cX1_isListed 0 = .ok (.iconst 0, 1) := by decide +kernel
theorem dX1_isListed_1 : decode cX1_isListed 1 = .ok (.istore_n 2, 1) := by decide +kernel
theorem dX1_isListed_2 : decode cX1_isListed 2 = .ok (.iload_n 2, 1) := by decide +kernel
theorem dX1_isListed_3 : decode cX1_isListed 3 = .ok (.aload_n 0, 1) := by decide +kernel
theorem dX1_isListed_4 : decode cX1_isListed 4 = .ok (.getfield 29, 3) := by decide +kernel
theorem dX1_isListed_7 : decode cX1_isListed 7 = .ok (.if_icmp .ge 21, 3) := by decide +kernel
theorem dX1_isListed_10 : decode cX1_isListed 10 = .ok (.aload_n 0, 1) := by decide +kernel
theorem dX1_isListed_11 : decode cX1_isListed 11 = .ok (.getfield 26, 3) := by decide +kernel
theorem dX1_isListed_14 : decode cX1_isListed 14 = .ok (.iload_n 2, 1) := by decide +kernel
theorem dX1_isListed_15 : decode cX1_isListed 15 = .ok (.iaload, 1) := by decide +kernel
theorem dX1_isListed_16 : decode cX1_isListed 16 = .ok (.iload_n 1, 1) := by decide +kernel
theorem dX1_isListed_17 : decode cX1_isListed 17 = .ok (.if_icmp .ne 5, 3) := by decide +kernel
theorem dX1_isListed_20 : decode cX1_isListed 20 = .ok (.iconst 1, 1) := by decide +kernel
theorem dX1_isListed_21 : decode cX1_isListed 21 = .ok (.ireturn, 1) := by decide +kernel
theorem dX1_isListed_22 : decode cX1_isListed 22 = .ok (.iinc 2 1, 3) := by decide +kernel
theorem dX1_isListed_25 : decode cX1_isListed 25 = .ok (.goto (-23), 3) := by decide +kernel
theorem dX1_isListed_28 : decode cX1_isListed 28 = .ok (.iconst 0, 1) := by decide +kernel
theorem dX1_isListed_29 : decode cX1_isListed 29 = .ok (.ireturn, 1) := by decide +kernel
theorem dX1_addListing_0 : decode cX1_addListing 0 = .ok (.aload_n 0, 1) := by decide +kernel
theorem dX1_addListing_1 : decode cX1_addListing 1 = .ok (.getfield 26, 3) := by decide +kernel
theorem dX1_addListing_4 : decode cX1_addListing 4 = .ok (.aload_n 0, 1) := by decide +kernel
theorem dX1_addListing_5 : decode cX1_addListing 5 = .ok (.getfield 29, 3) := by decide +kernel
theorem dX1_addListing_8 : decode cX1_addListing 8 = .ok (.iload_n 1, 1) := by decide +kernel
theorem dX1_addListing_9 : decode cX1_addListing 9 = .ok (.iastore, 1) := by decide +kernel
theorem dX1_addListing_10 : decode cX1_addListing 10 = .ok (.aload_n 0, 1) := by decide +kernel
theorem dX1_addListing_11 : decode cX1_addListing 11 = .ok (.dup, 1) := by decide +kernel
theorem dX1_addListing_12 : decode cX1_addListing 12 = .ok (.getfield 29, 3) := by decide +kernel
theorem dX1_addListing_15 : decode cX1_addListing 15 = .ok (.iconst 1, 1) := by decide +kernel
theorem dX1_addListing_16 : decode cX1_addListing 16 = .ok (.iadd, 1) := by decide +kernel
theorem dX1_addListing_17 : decode cX1_addListing 17 = .ok (.putfield 29, 3) := by decide +kernel
theorem dX1_addListing_20 : decode cX1_addListing 20 = .ok (.return_, 1) := by decide +kernel
theorem dX1_dropListing_0 : decode cX1_dropListing 0 = .ok (.iconst 0, 1) := by decide +kernel
theorem dX1_dropListing_1 : decode cX1_dropListing 1 = .ok (.istore_n 2, 1) := by decide +kernel
theorem dX1_dropListing_2 : decode cX1_dropListing 2 = .ok (.iconst 0, 1) := by decide +kernel
theorem dX1_dropListing_3 : decode cX1_dropListing 3 = .ok (.istore_n 3, 1) := by decide +kernel
theorem dX1_dropListing_4 : decode cX1_dropListing 4 = .ok (.iload_n 3, 1) := by decide +kernel
theorem dX1_dropListing_5 : decode cX1_dropListing 5 = .ok (.aload_n 0, 1) := by decide +kernel
theorem dX1_dropListing_6 : decode cX1_dropListing 6 = .ok (.getfield 29, 3) := by decide +kernel
theorem dX1_dropListing_9 : decode cX1_dropListing 9 = .ok (.if_icmp .ge 34, 3) := by decide +kernel
theorem dX1_dropListing_12 : decode cX1_dropListing 12 = .ok (.aload_n 0, 1) := by decide +kernel
theorem dX1_dropListing_13 : decode cX1_dropListing 13 = .ok (.getfield 26, 3) := by decide +kernel
theorem dX1_dropListing_16 : decode cX1_dropListing 16 = .ok (.iload_n 3, 1) := by decide +kernel
theorem dX1_dropListing_17 : decode cX1_dropListing 17 = .ok (.iaload, 1) := by decide +kernel
theorem dX1_dropListing_18 : decode cX1_dropListing 18 = .ok (.iload_n 1, 1) := by decide +kernel
theorem dX1_dropListing_19 : decode cX1_dropListing 19 = .ok (.if_icmp .eq 18, 3) := by decide +kernel
theorem dX1_dropListing_22 : decode cX1_dropListing 22 = .ok (.aload_n 0, 1) := by decide +kernel
theorem dX1_dropListing_23 : decode cX1_dropListing 23 = .ok (.getfield 26, 3) := by decide +kernel
theorem dX1_dropListing_26 : decode cX1_dropListing 26 = .ok (.iload_n 2, 1) := by decide +kernel
theorem dX1_dropListing_27 : decode cX1_dropListing 27 = .ok (.aload_n 0, 1) := by decide +kernel
theorem dX1_dropListing_28 : decode cX1_dropListing 28 = .ok (.getfield 26, 3) := by decide +kernel
theorem dX1_dropListing_31 : decode cX1_dropListing 31 = .ok (.iload_n 3, 1) := by decide +kernel
theorem dX1_dropListing_32 : decode cX1_dropListing 32 = .ok (.iaload, 1) := by decide +kernel
theorem dX1_dropListing_33 : decode cX1_dropListing 33 = .ok (.iastore, 1) := by decide +kernel
theorem dX1_dropListing_34 : decode cX1_dropListing 34 = .ok (.iinc 2 1, 3) := by decide +kernel
theorem dX1_dropListing_37 : decode cX1_dropListing 37 = .ok (.iinc 3 1, 3) := by decide +kernel
theorem dX1_dropListing_40 : decode cX1_dropListing 40 = .ok (.goto (-36), 3) := by decide +kernel
theorem dX1_dropListing_43 : decode cX1_dropListing 43 = .ok (.aload_n 0, 1) := by decide +kernel
theorem dX1_dropListing_44 : decode cX1_dropListing 44 = .ok (.iload_n 2, 1) := by decide +kernel
theorem dX1_dropListing_45 : decode cX1_dropListing 45 = .ok (.putfield 29, 3) := by decide +kernel
theorem dX1_dropListing_48 : decode cX1_dropListing 48 = .ok (.return_, 1) := by decide +kernel
theorem dX1_forgetSeen_0 : decode cX1_forgetSeen 0 = .ok (.aload_n 0, 1) := by decide +kernel
theorem dX1_forgetSeen_1 : decode cX1_forgetSeen 1 = .ok (.getfield 38, 3) := by decide +kernel
theorem dX1_forgetSeen_4 : decode cX1_forgetSeen 4 = .ok (.iload_n 1, 1) := by decide +kernel
theorem dX1_forgetSeen_5 : decode cX1_forgetSeen 5 = .ok (.iconst 0, 1) := by decide +kernel
theorem dX1_forgetSeen_6 : decode cX1_forgetSeen 6 = .ok (.iastore, 1) := by decide +kernel
theorem dX1_forgetSeen_7 : decode cX1_forgetSeen 7 = .ok (.return_, 1) := by decide +kernel
theorem dX1_show_0 : decode cX1_show 0 = .ok (.aload_n 0, 1) := by decide +kernel
theorem dX1_show_1 : decode cX1_show 1 = .ok (.getfield 38, 3) := by decide +kernel
theorem dX1_show_4 : decode cX1_show 4 = .ok (.iload_n 1, 1) := by decide +kernel
theorem dX1_show_5 : decode cX1_show 5 = .ok (.iaload, 1) := by decide +kernel
theorem dX1_show_6 : decode cX1_show 6 = .ok (.sipush 200, 3) := by decide +kernel
theorem dX1_show_9 : decode cX1_show 9 = .ok (.if_icmp .ge 27, 3) := by decide +kernel
theorem dX1_show_12 : decode cX1_show 12 = .ok (.aload_n 0, 1) := by decide +kernel
theorem dX1_show_13 : decode cX1_show 13 = .ok (.getfield 35, 3) := by decide +kernel
theorem dX1_show_16 : decode cX1_show 16 = .ok (.iload_n 1, 1) := by decide +kernel
theorem dX1_show_17 : decode cX1_show 17 = .ok (.aaload, 1) := by decide +kernel
theorem dX1_show_18 : decode cX1_show 18 = .ok (.aload_n 0, 1) := by decide +kernel
theorem dX1_show_19 : decode cX1_show 19 = .ok (.getfield 38, 3) := by decide +kernel
theorem dX1_show_22 : decode cX1_show 22 = .ok (.iload_n 1, 1) := by decide +kernel
theorem dX1_show_23 : decode cX1_show 23 = .ok (.iaload, 1) := by decide +kernel
theorem dX1_show_24 : decode cX1_show 24 = .ok (.iload_n 2, 1) := by decide +kernel
theorem dX1_show_25 : decode cX1_show 25 = .ok (.iastore, 1) := by decide +kernel
theorem dX1_show_26 : decode cX1_show 26 = .ok (.aload_n 0, 1) := by decide +kernel
theorem dX1_show_27 : decode cX1_show 27 = .ok (.getfield 38, 3) := by decide +kernel
theorem dX1_show_30 : decode cX1_show 30 = .ok (.iload_n 1, 1) := by decide +kernel
theorem dX1_show_31 : decode cX1_show 31 = .ok (.dup2, 1) := by decide +kernel
theorem dX1_show_32 : decode cX1_show 32 = .ok (.iaload, 1) := by decide +kernel
theorem dX1_show_33 : decode cX1_show 33 = .ok (.iconst 1, 1) := by decide +kernel
theorem dX1_show_34 : decode cX1_show 34 = .ok (.iadd, 1) := by decide +kernel
theorem dX1_show_35 : decode cX1_show 35 = .ok (.iastore, 1) := by decide +kernel
theorem dX1_show_36 : decode cX1_show 36 = .ok (.return_, 1) := by decide +kernel
set_option maxRecDepth 20000 in
theorem ggX1_showFilesIn_Jx4a65c_size_8abf5 : GoodIn wsX1_showFilesIn wsJx4a65c_size_8abf5 := goodIn_r _ [10, 11, 71, 72, 73] (by decide +kernel) (by decide +kernel)
set_option maxRecDepth 20000 in
theorem gX1_showFilesIn_Jx4a65c_size_8abf5 : GoodIn wsX1_showFilesIn (wsV RX1 217 RJx4a65c yJx4a65c_size_8abf5 wsJx4a65c_size_8abf5) := goodIn_app (goodIn_of _ (by decide +kernel)) ggX1_showFilesIn_Jx4a65c_size_8abf5
set_option maxRecDepth 20000 in
theorem ggX1_showFilesIn_Jx4a65c_get_915e3 : GoodIn wsX1_showFilesIn wsJx4a65c_get_915e3 := goodIn_r _ [15, 11, 16, 17, 18, 19, 20, 21, 22, 23, 24, 25, 26, 9, 27, 28, 71, 72, 73] (by decide +kernel) (by decide +kernel)
set_option maxRecDepth 20000 in
theorem gX1_showFilesIn_Jx4a65c_get_915e3 : GoodIn wsX1_showFilesIn (wsV RX1 220 RJx4a65c yJx4a65c_get_915e3 wsJx4a65c_get_915e3) := goodIn_app (goodIn_of _ (by decide +kernel)) ggX1_showFilesIn_Jx4a65c_get_915e3
set_option maxRecDepth 20000 in
theorem ggX1_showFilesIn_X1_labelOfAddress : GoodIn wsX1_showFilesIn wsX1_labelOfAddress := goodIn_r _ [32] (by decide +kernel) (by decide +kernel)
set_option maxRecDepth 20000 in
theorem gX1_showFilesIn_X1_labelOfAddress : GoodIn wsX1_showFilesIn (va_wsS RX1 190 yX1_labelOfAddress wsX1_labelOfAddress) := goodIn_app (goodIn_of _ (by decide +kernel)) ggX1_showFilesIn_X1_labelOfAddress
set_option maxRecDepth 20000 in
theorem ggX1_showFilesIn_X1_mayFlow : GoodIn wsX1_showFilesIn wsX1_mayFlow := goodIn_r _ [35, 36, 37, 31, 38, 39, 40, 41, 42, 43, 44, 45, 46, 47, 48, 49, 50] (by decide +kernel) (by decide +kernel)
set_option maxRecDepth 20000 in
theorem gX1_showFilesIn_X1_mayFlow : GoodIn wsX1_showFilesIn (va_wsS RX1 84 yX1_mayFlow wsX1_mayFlow) := goodIn_app (goodIn_of _ (by decide +kernel)) ggX1_showFilesIn_X1_mayFlow
set_option maxRecDepth 20000 in
theorem ggX1_showFilesIn_X1_show : GoodIn wsX1_showFilesIn wsX1_show := goodIn_r _ [54, 55, 56, 57, 58, 59, 60, 61, 62, 63, 64] (by decide +kernel) (by decide +kernel)
set_option maxRecDepth 20000 in
theorem gX1_showFilesIn_X1_show : GoodIn wsX1_showFilesIn (wsV RX1 146 RX1 yX1_show wsX1_show) := goodIn_app (goodIn_of _ (by decide +kernel)) ggX1_showFilesIn_X1_show
theorem dX1_showFilesIn_0 : decode cX1_showFilesIn 0 = .ok (.aload_n 0, 1) := by decide +kernel
theorem dX1_showFilesIn_1 : decode cX1_showFilesIn 1 = .ok (.getfield 9, 3) := by decide +kernel
theorem dX1_showFilesIn_4 : decode cX1_showFilesIn 4 = .ok (.iload_n 2, 1) := by decide +kernel
theorem dX1_showFilesIn_5 : decode cX1_showFilesIn 5 = .ok (.iaload, 1) := by decide +kernel
theorem dX1_showFilesIn_6 : decode cX1_showFilesIn 6 = .ok (.istore_n 3, 1) := by decide +kernel
theorem dX1_showFilesIn_7 : decode cX1_showFilesIn 7 = .ok (.iconst 0, 1) := by decide +kernel
theorem dX1_showFilesIn_8 : decode cX1_showFilesIn 8 = .ok (.istore 4, 2) := by decide +kernel
theorem dX1_showFilesIn_10 : decode cX1_showFilesIn 10 = .ok (.iload 4, 2) := by decide +kernel
theorem dX1_showFilesIn_12 : decode cX1_showFilesIn 12 = .ok (.aload_n 0, 1) := by decide +kernel
theorem dX1_showFilesIn_13 : decode cX1_showFilesIn 13 = .ok (.getfield 22, 3) := by decide +kernel
theorem dX1_showFilesIn_16 : decode cX1_showFilesIn 16 = .ok (.invokevirtual 217, 3) := by decide +kernel
theorem dX1_showFilesIn_19 : decode cX1_showFilesIn 19 = .ok (.if_icmp .ge 57, 3) := by decide +kernel
theorem dX1_showFilesIn_22 : decode cX1_showFilesIn 22 = .ok (.aload_n 0, 1) := by decide +kernel
theorem dX1_showFilesIn_23 : decode cX1_showFilesIn 23 = .ok (.getfield 22, 3) := by decide +kernel
theorem dX1_showFilesIn_26 : decode cX1_showFilesIn 26 = .ok (.iload 4, 2) := by decide +kernel
theorem dX1_showFilesIn_28 : decode cX1_showFilesIn 28 = .ok (.invokevirtual 220, 3) := by decide +kernel
theorem dX1_showFilesIn_31 : decode cX1_showFilesIn 31 = .ok (.checkcast 114, 3) := by decide +kernel
theorem dX1_showFilesIn_34 : decode cX1_showFilesIn 34 = .ok (.astore 5, 2) := by decide +kernel
theorem dX1_showFilesIn_36 : decode cX1_showFilesIn 36 = .ok (.aload 5, 2) := by decide +kernel
theorem dX1_showFilesIn_38 : decode cX1_showFilesIn 38 = .ok (.getfield 230, 3) := by decide +kernel
theorem dX1_showFilesIn_41 : decode cX1_showFilesIn 41 = .ok (.iload_n 1, 1) := by decide +kernel
theorem dX1_showFilesIn_42 : decode cX1_showFilesIn 42 = .ok (.if_icmp .ne 28, 3) := by decide +kernel
theorem dX1_showFilesIn_45 : decode cX1_showFilesIn 45 = .ok (.aload 5, 2) := by decide +kernel
theorem dX1_showFilesIn_47 : decode cX1_showFilesIn 47 = .ok (.getfield 223, 3) := by decide +kernel
theorem dX1_showFilesIn_50 : decode cX1_showFilesIn 50 = .ok (.invokestatic 190, 3) := by decide +kernel
theorem dX1_showFilesIn_53 : decode cX1_showFilesIn 53 = .ok (.iload_n 3, 1) := by decide +kernel
theorem dX1_showFilesIn_54 : decode cX1_showFilesIn 54 = .ok (.invokestatic 84, 3) := by decide +kernel
theorem dX1_showFilesIn_57 : decode cX1_showFilesIn 57 = .ok (.ifCond .eq 13, 3) := by decide +kernel
theorem dX1_showFilesIn_60 : decode cX1_showFilesIn 60 = .ok (.aload_n 0, 1) := by decide +kernel
theorem dX1_showFilesIn_61 : decode cX1_showFilesIn 61 = .ok (.iload_n 2, 1) := by decide +kernel
theorem dX1_showFilesIn_62 : decode cX1_showFilesIn 62 = .ok (.aload 5, 2) := by decide +kernel
theorem dX1_showFilesIn_64 : decode cX1_showFilesIn 64 = .ok (.getfield 223, 3) := by decide +kernel
theorem dX1_showFilesIn_67 : decode cX1_showFilesIn 67 = .ok (.invokevirtual 146, 3) := by decide +kernel
theorem dX1_showFilesIn_70 : decode cX1_showFilesIn 70 = .ok (.iinc 4 1, 3) := by decide +kernel
theorem dX1_showFilesIn_73 : decode cX1_showFilesIn 73 = .ok (.goto (-63), 3) := by decide +kernel
theorem dX1_showFilesIn_76 : decode cX1_showFilesIn 76 = .ok (.return_, 1) := by decide +kernel
