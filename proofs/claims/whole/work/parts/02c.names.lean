theorem dX3_failed_1 : decode cX3_failed 1 = .ok (.ifCond .lt 8, 3) := by decide +kernel
theorem dX3_failed_4 : decode cX3_failed 4 = .ok (.iload_n 1, 1) := by decide +kernel
theorem dX3_failed_5 : decode cX3_failed 5 = .ok (.iconst 3, 1) := by decide +kernel
theorem dX3_failed_6 : decode cX3_failed 6 = .ok (.if_icmp .le 13, 3) := by decide +kernel
theorem dX3_failed_9 : decode cX3_failed 9 = .ok (.new 66, 3) := by decide +kernel
theorem dX3_failed_12 : decode cX3_failed 12 = .ok (.dup, 1) := by decide +kernel
theorem dX3_failed_13 : decode cX3_failed 13 = .ok (.ldc 135, 2) := by decide +kernel
theorem dX3_failed_15 : decode cX3_failed 15 = .ok (.invokespecial 70, 3) := by decide +kernel
theorem dX3_failed_18 : decode cX3_failed 18 = .ok (.athrow, 1) := by decide +kernel
theorem dX3_failed_19 : decode cX3_failed 19 = .ok (.aload_n 0, 1) := by decide +kernel
theorem dX3_failed_20 : decode cX3_failed 20 = .ok (.getfield 36, 3) := by decide +kernel
theorem dX3_failed_23 : decode cX3_failed 23 = .ok (.getfield 137, 3) := by decide +kernel
theorem dX3_failed_26 : decode cX3_failed 26 = .ok (.iload_n 1, 1) := by decide +kernel
theorem dX3_failed_27 : decode cX3_failed 27 = .ok (.iaload, 1) := by decide +kernel
theorem dX3_failed_28 : decode cX3_failed 28 = .ok (.ireturn, 1) := by decide +kernel
set_option maxRecDepth 20000 in
theorem ggX3_failure_X1_keptCount : GoodIn wsX3_failure wsX1_keptCount := goodIn_r _ [8, 9, 10, 11, 12, 13, 35, 36, 37, 38, 39] (by decide +kernel) (by decide +kernel)
set_option maxRecDepth 20000 in
theorem gX3_failure_X1_keptCount : GoodIn wsX3_failure (wsV RX3 140 RX1 yX1_keptCount wsX1_keptCount) := goodIn_app (goodIn_of _ (by decide +kernel)) ggX3_failure_X1_keptCount
set_option maxRecDepth 20000 in
theorem ggX3_failure_X1_fact : GoodIn wsX3_failure wsX1_fact := goodIn_r _ [17, 18, 19, 20, 21, 22, 23, 24, 25, 35, 36, 37, 38, 39] (by decide +kernel) (by decide +kernel)
set_option maxRecDepth 20000 in
theorem gX3_failure_X1_fact : GoodIn wsX3_failure (wsV RX3 147 RX1 yX1_fact wsX1_fact) := goodIn_app (goodIn_of _ (by decide +kernel)) ggX3_failure_X1_fact
theorem dX3_failure_0 : decode cX3_failure 0 = .ok (.iload_n 1, 1) := by decide +kernel
theorem dX3_failure_1 : decode cX3_failure 1 = .ok (.ifCond .lt 14, 3) := by decide +kernel
theorem dX3_failure_4 : decode cX3_failure 4 = .ok (.iload_n 1, 1) := by decide +kernel
theorem dX3_failure_5 : decode cX3_failure 5 = .ok (.aload_n 0, 1) := by decide +kernel
theorem dX3_failure_6 : decode cX3_failure 6 = .ok (.getfield 36, 3) := by decide +kernel
theorem dX3_failure_9 : decode cX3_failure 9 = .ok (.invokevirtual 140, 3) := by decide +kernel
theorem dX3_failure_12 : decode cX3_failure 12 = .ok (.if_icmp .lt 13, 3) := by decide +kernel
theorem dX3_failure_15 : decode cX3_failure 15 = .ok (.new 66, 3) := by decide +kernel
theorem dX3_failure_18 : decode cX3_failure 18 = .ok (.dup, 1) := by decide +kernel
theorem dX3_failure_19 : decode cX3_failure 19 = .ok (.ldc 143, 2) := by decide +kernel
theorem dX3_failure_21 : decode cX3_failure 21 = .ok (.invokespecial 70, 3) := by decide +kernel
theorem dX3_failure_24 : decode cX3_failure 24 = .ok (.athrow, 1) := by decide +kernel
theorem dX3_failure_25 : decode cX3_failure 25 = .ok (.iload_n 2, 1) := by decide +kernel
theorem dX3_failure_26 : decode cX3_failure 26 = .ok (.ifCond .lt 8, 3) := by decide +kernel
theorem dX3_failure_29 : decode cX3_failure 29 = .ok (.iload_n 2, 1) := by decide +kernel
theorem dX3_failure_30 : decode cX3_failure 30 = .ok (.iconst 3, 1) := by decide +kernel
theorem dX3_failure_31 : decode cX3_failure 31 = .ok (.if_icmp .lt 13, 3) := by decide +kernel
theorem dX3_failure_34 : decode cX3_failure 34 = .ok (.new 66, 3) := by decide +kernel
theorem dX3_failure_37 : decode cX3_failure 37 = .ok (.dup, 1) := by decide +kernel
theorem dX3_failure_38 : decode cX3_failure 38 = .ok (.ldc 145, 2) := by decide +kernel
theorem dX3_failure_40 : decode cX3_failure 40 = .ok (.invokespecial 70, 3) := by decide +kernel
theorem dX3_failure_43 : decode cX3_failure 43 = .ok (.athrow, 1) := by decide +kernel
theorem dX3_failure_44 : decode cX3_failure 44 = .ok (.aload_n 0, 1) := by decide +kernel
theorem dX3_failure_45 : decode cX3_failure 45 = .ok (.getfield 36, 3) := by decide +kernel
theorem dX3_failure_48 : decode cX3_failure 48 = .ok (.iload_n 1, 1) := by decide +kernel
theorem dX3_failure_49 : decode cX3_failure 49 = .ok (.iload_n 2, 1) := by decide +kernel
theorem dX3_failure_50 : decode cX3_failure 50 = .ok (.invokevirtual 147, 3) := by decide +kernel
theorem dX3_failure_53 : decode cX3_failure 53 = .ok (.ireturn, 1) := by decide +kernel
set_option maxRecDepth 20000 in
theorem ggX3_save_X2_init : GoodIn wsX3_save wsX2_init := goodIn_r _ [11, 12, 13, 14, 15, 16, 17, 18, 19, 20, 38, 39, 40, 41, 42] (by decide +kernel) (by decide +kernel)
set_option maxRecDepth 20000 in
theorem gX3_save_X2_init_n153 : GoodIn wsX3_save (wsX2_init) := ggX3_save_X2_init
set_option maxRecDepth 20000 in
theorem ggX3_save_X2_keep : GoodIn wsX3_save wsX2_keep := goodIn_r _ [24, 15, 17, 25, 18, 26, 19, 27, 20, 28, 38, 39, 40, 41, 42, 43, 44, 45, 46, 47, 48, 49, 50, 51, 52, 53] (by decide +kernel) (by decide +kernel)
set_option maxRecDepth 20000 in
theorem gX3_save_X2_keep : GoodIn wsX3_save (wsV RX3 154 RX2 yX2_keep wsX2_keep) := goodIn_app (goodIn_of _ (by decide +kernel)) ggX3_save_X2_keep
theorem dX3_save_0 : decode cX3_save 0 = .ok (.aload_n 0, 1) := by decide +kernel
theorem dX3_save_1 : decode cX3_save 1 = .ok (.getfield 46, 3) := by decide +kernel
theorem dX3_save_4 : decode cX3_save 4 = .ok (.iconst 5, 1) := by decide +kernel
theorem dX3_save_5 : decode cX3_save 5 = .ok (.if_icmp .lt 13, 3) := by decide +kernel
theorem dX3_save_8 : decode cX3_save 8 = .ok (.new 53, 3) := by decide +kernel
theorem dX3_save_11 : decode cX3_save 11 = .ok (.dup, 1) := by decide +kernel
theorem dX3_save_12 : decode cX3_save 12 = .ok (.ldc 151, 2) := by decide +kernel
theorem dX3_save_14 : decode cX3_save 14 = .ok (.invokespecial 57, 3) := by decide +kernel
theorem dX3_save_17 : decode cX3_save 17 = .ok (.athrow, 1) := by decide +kernel
theorem dX3_save_18 : decode cX3_save 18 = .ok (.new 40, 3) := by decide +kernel
theorem dX3_save_21 : decode cX3_save 21 = .ok (.dup, 1) := by decide +kernel
theorem dX3_save_22 : decode cX3_save 22 = .ok (.invokespecial 153, 3) := by decide +kernel
theorem dX3_save_25 : decode cX3_save 25 = .ok (.astore_n 1, 1) := by decide +kernel
theorem dX3_save_26 : decode cX3_save 26 = .ok (.iconst 0, 1) := by decide +kernel
theorem dX3_save_27 : decode cX3_save 27 = .ok (.istore_n 2, 1) := by decide +kernel
theorem dX3_save_28 : decode cX3_save 28 = .ok (.iload_n 2, 1) := by decide +kernel
theorem dX3_save_29 : decode cX3_save 29 = .ok (.aload_n 0, 1) := by decide +kernel
theorem dX3_save_30 : decode cX3_save 30 = .ok (.getfield 15, 3) := by decide +kernel
theorem dX3_save_33 : decode cX3_save 33 = .ok (.if_icmp .ge 19, 3) := by decide +kernel
theorem dX3_save_36 : decode cX3_save 36 = .ok (.aload_n 1, 1) := by decide +kernel
theorem dX3_save_37 : decode cX3_save 37 = .ok (.aload_n 0, 1) := by decide +kernel
theorem dX3_save_38 : decode cX3_save 38 = .ok (.getfield 11, 3) := by decide +kernel
theorem dX3_save_41 : decode cX3_save 41 = .ok (.iload_n 2, 1) := by decide +kernel
theorem dX3_save_42 : decode cX3_save 42 = .ok (.aaload, 1) := by decide +kernel
theorem dX3_save_43 : decode cX3_save 43 = .ok (.invokevirtual 154, 3) := by decide +kernel
theorem dX3_save_46 : decode cX3_save 46 = .ok (.iinc 2 1, 3) := by decide +kernel
theorem dX3_save_49 : decode cX3_save 49 = .ok (.goto (-21), 3) := by decide +kernel
theorem dX3_save_52 : decode cX3_save 52 = .ok (.aload_n 0, 1) := by decide +kernel
theorem dX3_save_53 : decode cX3_save 53 = .ok (.getfield 42, 3) := by decide +kernel
theorem dX3_save_56 : decode cX3_save 56 = .ok (.aload_n 0, 1) := by decide +kernel
theorem dX3_save_57 : decode cX3_save 57 = .ok (.getfield 46, 3) := by decide +kernel
theorem dX3_save_60 : decode cX3_save 60 = .ok (.aload_n 1, 1) := by decide +kernel
theorem dX3_save_61 : decode cX3_save 61 = .ok (.aastore, 1) := by decide +kernel
theorem dX3_save_62 : decode cX3_save 62 = .ok (.aload_n 0, 1) := by decide +kernel
theorem dX3_save_63 : decode cX3_save 63 = .ok (.dup, 1) := by decide +kernel
theorem dX3_save_64 : decode cX3_save 64 = .ok (.getfield 46, 3) := by decide +kernel
theorem dX3_save_67 : decode cX3_save 67 = .ok (.iconst 1, 1) := by decide +kernel
theorem dX3_save_68 : decode cX3_save 68 = .ok (.iadd, 1) := by decide +kernel
theorem dX3_save_69 : decode cX3_save 69 = .ok (.putfield 46, 3) := by decide +kernel
theorem dX3_save_72 : decode cX3_save 72 = .ok (.aload_n 0, 1) := by decide +kernel
theorem dX3_save_73 : decode cX3_save 73 = .ok (.getfield 46, 3) := by decide +kernel
theorem dX3_save_76 : decode cX3_save 76 = .ok (.iconst 1, 1) := by decide +kernel
theorem dX3_save_77 : decode cX3_save 77 = .ok (.isub, 1) := by decide +kernel
theorem dX3_save_78 : decode cX3_save 78 = .ok (.ireturn, 1) := by decide +kernel
set_option maxRecDepth 20000 in
theorem ggX3_back_X2_restore : GoodIn wsX3_back wsX2_restore := goodIn_r _ [11, 12, 13, 14, 15, 16, 17, 18, 19, 20, 30, 31, 32, 33, 34, 35, 36, 37, 38, 39, 40, 41, 42, 43, 44, 45] (by decide +kernel) (by decide +kernel)
set_option maxRecDepth 20000 in
theorem gX3_back_X2_restore : GoodIn wsX3_back (wsV RX3 160 RX2 yX2_restore wsX2_restore) := goodIn_app (goodIn_of _ (by decide +kernel)) ggX3_back_X2_restore
theorem dX3_back_0 : decode cX3_back 0 = .ok (.iload_n 1, 1) := by decide +kernel
theorem dX3_back_1 : decode cX3_back 1 = .ok (.ifCond .lt 11, 3) := by decide +kernel
theorem dX3_back_4 : decode cX3_back 4 = .ok (.iload_n 1, 1) := by decide +kernel
theorem dX3_back_5 : decode cX3_back 5 = .ok (.aload_n 0, 1) := by decide +kernel
theorem dX3_back_6 : decode cX3_back 6 = .ok (.getfield 46, 3) := by decide +kernel
theorem dX3_back_9 : decode cX3_back 9 = .ok (.if_icmp .lt 13, 3) := by decide +kernel
theorem dX3_back_12 : decode cX3_back 12 = .ok (.new 66, 3) := by decide +kernel
theorem dX3_back_15 : decode cX3_back 15 = .ok (.dup, 1) := by decide +kernel
theorem dX3_back_16 : decode cX3_back 16 = .ok (.ldc 158, 2) := by decide +kernel
theorem dX3_back_18 : decode cX3_back 18 = .ok (.invokespecial 70, 3) := by decide +kernel
theorem dX3_back_21 : decode cX3_back 21 = .ok (.athrow, 1) := by decide +kernel
theorem dX3_back_22 : decode cX3_back 22 = .ok (.aload_n 0, 1) := by decide +kernel
theorem dX3_back_23 : decode cX3_back 23 = .ok (.getfield 42, 3) := by decide +kernel
theorem dX3_back_26 : decode cX3_back 26 = .ok (.iload_n 1, 1) := by decide +kernel
theorem dX3_back_27 : decode cX3_back 27 = .ok (.aaload, 1) := by decide +kernel
theorem dX3_back_28 : decode cX3_back 28 = .ok (.astore_n 2, 1) := by decide +kernel
theorem dX3_back_29 : decode cX3_back 29 = .ok (.iconst 0, 1) := by decide +kernel
theorem dX3_back_30 : decode cX3_back 30 = .ok (.istore_n 3, 1) := by decide +kernel
theorem dX3_back_31 : decode cX3_back 31 = .ok (.iconst 0, 1) := by decide +kernel
theorem dX3_back_32 : decode cX3_back 32 = .ok (.istore 4, 2) := by decide +kernel
theorem dX3_back_34 : decode cX3_back 34 = .ok (.iload 4, 2) := by decide +kernel
theorem dX3_back_36 : decode cX3_back 36 = .ok (.aload_n 0, 1) := by decide +kernel
theorem dX3_back_37 : decode cX3_back 37 = .ok (.getfield 15, 3) := by decide +kernel
theorem dX3_back_40 : decode cX3_back 40 = .ok (.if_icmp .ge 28, 3) := by decide +kernel
theorem dX3_back_43 : decode cX3_back 43 = .ok (.aload_n 2, 1) := by decide +kernel
theorem dX3_back_44 : decode cX3_back 44 = .ok (.iload 4, 2) := by decide +kernel
theorem dX3_back_46 : decode cX3_back 46 = .ok (.aload_n 0, 1) := by decide +kernel
theorem dX3_back_47 : decode cX3_back 47 = .ok (.getfield 11, 3) := by decide +kernel
theorem dX3_back_50 : decode cX3_back 50 = .ok (.iload 4, 2) := by decide +kernel
theorem dX3_back_52 : decode cX3_back 52 = .ok (.aaload, 1) := by decide +kernel
theorem dX3_back_53 : decode cX3_back 53 = .ok (.invokevirtual 160, 3) := by decide +kernel
theorem dX3_back_56 : decode cX3_back 56 = .ok (.ifCond .eq 6, 3) := by decide +kernel
theorem dX3_back_59 : decode cX3_back 59 = .ok (.iinc 3 1, 3) := by decide +kernel
theorem dX3_back_62 : decode cX3_back 62 = .ok (.iinc 4 1, 3) := by decide +kernel
theorem dX3_back_65 : decode cX3_back 65 = .ok (.goto (-31), 3) := by decide +kernel
theorem dX3_back_68 : decode cX3_back 68 = .ok (.iload_n 3, 1) := by decide +kernel
theorem dX3_back_69 : decode cX3_back 69 = .ok (.ireturn, 1) := by decide +kernel
set_option maxRecDepth 20000 in
theorem ggX3_become_X3_existing : GoodIn wsX3_become wsX3_existing := goodIn_ca (goodIn_r _ [9, 10, 11, 12, 13, 29, 30, 31, 32, 33, 34, 35, 36, 37] (by decide +kernel) (by decide +kernel)) (goodIn_sub (fun _ h => List.mem_cons_of_mem _ (List.mem_append_right _ h)) (by decide +kernel))
set_option maxRecDepth 20000 in
theorem gX3_become_X3_existing : GoodIn wsX3_become (wsV RX3 62 RX3 yX3_existing wsX3_existing) := goodIn_app (goodIn_of _ (by decide +kernel)) ggX3_become_X3_existing
set_option maxRecDepth 20000 in
theorem ggX3_become_X3_requireKind : GoodIn wsX3_become wsX3_requireKind := goodIn_ca (goodIn_r _ [16, 10, 11, 17] (by decide +kernel) (by decide +kernel)) (goodIn_sub (fun _ h => List.mem_cons_of_mem _ (List.mem_append_right _ h)) (by decide +kernel))
set_option maxRecDepth 20000 in
theorem gX3_become_X3_requireKind : GoodIn wsX3_become (va_wsS RX3 49 yX3_requireKind wsX3_requireKind) := goodIn_app (goodIn_of _ (by decide +kernel)) ggX3_become_X3_requireKind
theorem dX3_become_0 : decode cX3_become 0 = .ok (.aload_n 0, 1) := by decide +kernel
theorem dX3_become_1 : decode cX3_become 1 = .ok (.iload_n 1, 1) := by decide +kernel
theorem dX3_become_2 : decode cX3_become 2 = .ok (.invokevirtual 62, 3) := by decide +kernel
theorem dX3_become_5 : decode cX3_become 5 = .ok (.astore_n 3, 1) := by decide +kernel
theorem dX3_become_6 : decode cX3_become 6 = .ok (.iload_n 2, 1) := by decide +kernel
theorem dX3_become_7 : decode cX3_become 7 = .ok (.invokestatic 49, 3) := by decide +kernel
theorem dX3_become_10 : decode cX3_become 10 = .ok (.aload_n 3, 1) := by decide +kernel
theorem dX3_become_11 : decode cX3_become 11 = .ok (.getfield 86, 3) := by decide +kernel
theorem dX3_become_14 : decode cX3_become 14 = .ok (.istore 4, 2) := by decide +kernel
theorem dX3_become_16 : decode cX3_become 16 = .ok (.aload_n 3, 1) := by decide +kernel
theorem dX3_become_17 : decode cX3_become 17 = .ok (.iload_n 2, 1) := by decide +kernel
theorem dX3_become_18 : decode cX3_become 18 = .ok (.putfield 86, 3) := by decide +kernel
theorem dX3_become_21 : decode cX3_become 21 = .ok (.aload_n 3, 1) := by decide +kernel
theorem dX3_become_22 : decode cX3_become 22 = .ok (.iconst 0, 1) := by decide +kernel
theorem dX3_become_23 : decode cX3_become 23 = .ok (.putfield 124, 3) := by decide +kernel
theorem dX3_become_26 : decode cX3_become 26 = .ok (.aload_n 3, 1) := by decide +kernel
theorem dX3_become_27 : decode cX3_become 27 = .ok (.iconst 0, 1) := by decide +kernel
theorem dX3_become_28 : decode cX3_become 28 = .ok (.putfield 129, 3) := by decide +kernel
theorem dX3_become_31 : decode cX3_become 31 = .ok (.aload_n 3, 1) := by decide +kernel
theorem dX3_become_32 : decode cX3_become 32 = .ok (.iconst 0, 1) := by decide +kernel
theorem dX3_become_33 : decode cX3_become 33 = .ok (.putfield 132, 3) := by decide +kernel
theorem dX3_become_36 : decode cX3_become 36 = .ok (.iload 4, 2) := by decide +kernel
theorem dX3_become_38 : decode cX3_become 38 = .ok (.ireturn, 1) := by decide +kernel
theorem dX3_requireKind_0 : decode cX3_requireKind 0 = .ok (.iload_n 0, 1) := by decide +kernel
theorem dX3_requireKind_1 : decode cX3_requireKind 1 = .ok (.ifCond .lt 11, 3) := by decide +kernel
theorem dX3_requireKind_4 : decode cX3_requireKind 4 = .ok (.iload_n 0, 1) := by decide +kernel
theorem dX3_requireKind_5 : decode cX3_requireKind 5 = .ok (.getstatic 164, 3) := by decide +kernel
theorem dX3_requireKind_8 : decode cX3_requireKind 8 = .ok (.arraylength, 1) := by decide +kernel
theorem dX3_requireKind_9 : decode cX3_requireKind 9 = .ok (.if_icmp .lt 13, 3) := by decide +kernel
theorem dX3_requireKind_12 : decode cX3_requireKind 12 = .ok (.new 66, 3) := by decide +kernel
theorem dX3_requireKind_15 : decode cX3_requireKind 15 = .ok (.dup, 1) := by decide +kernel
theorem dX3_requireKind_16 : decode cX3_requireKind 16 = .ok (.ldc 167, 2) := by decide +kernel
theorem dX3_requireKind_18 : decode cX3_requireKind 18 = .ok (.invokespecial 70, 3) := by decide +kernel
theorem dX3_requireKind_21 : decode cX3_requireKind 21 = .ok (.athrow, 1) := by decide +kernel
theorem dX3_requireKind_22 : decode cX3_requireKind 22 = .ok (.return_, 1) := by decide +kernel
theorem dX3_existing_0 : decode cX3_existing 0 = .ok (.iload_n 1, 1) := by decide +kernel
theorem dX3_existing_1 : decode cX3_existing 1 = .ok (.ifCond .lt 11, 3) := by decide +kernel
theorem dX3_existing_4 : decode cX3_existing 4 = .ok (.iload_n 1, 1) := by decide +kernel
theorem dX3_existing_5 : decode cX3_existing 5 = .ok (.aload_n 0, 1) := by decide +kernel
theorem dX3_existing_6 : decode cX3_existing 6 = .ok (.getfield 15, 3) := by decide +kernel
theorem dX3_existing_9 : decode cX3_existing 9 = .ok (.if_icmp .lt 13, 3) := by decide +kernel
theorem dX3_existing_12 : decode cX3_existing 12 = .ok (.new 66, 3) := by decide +kernel
theorem dX3_existing_15 : decode cX3_existing 15 = .ok (.dup, 1) := by decide +kernel
theorem dX3_existing_16 : decode cX3_existing 16 = .ok (.ldc 169, 2) := by decide +kernel
theorem dX3_existing_18 : decode cX3_existing 18 = .ok (.invokespecial 70, 3) := by decide +kernel
theorem dX3_existing_21 : decode cX3_existing 21 = .ok (.athrow, 1) := by decide +kernel
theorem dX3_existing_22 : decode cX3_existing 22 = .ok (.aload_n 0, 1) := by decide +kernel
theorem dX3_existing_23 : decode cX3_existing 23 = .ok (.getfield 11, 3) := by decide +kernel
theorem dX3_existing_26 : decode cX3_existing 26 = .ok (.iload_n 1, 1) := by decide +kernel
theorem dX3_existing_27 : decode cX3_existing 27 = .ok (.aaload, 1) := by decide +kernel
theorem dX3_existing_28 : decode cX3_existing 28 = .ok (.areturn, 1) := by decide +kernel
theorem dX3_isPoint_0 : decode cX3_isPoint 0 = .ok (.iload_n 0, 1) := by decide +kernel
theorem dX3_isPoint_1 : decode cX3_isPoint 1 = .ok (.ifCond .lt 13, 3) := by decide +kernel
theorem dX3_isPoint_4 : decode cX3_isPoint 4 = .ok (.iload_n 0, 1) := by decide +kernel
theorem dX3_isPoint_5 : decode cX3_isPoint 5 = .ok (.bipush 10, 2) := by decide +kernel
theorem dX3_isPoint_7 : decode cX3_isPoint 7 = .ok (.if_icmp .ge 7, 3) := by decide +kernel
theorem dX3_isPoint_10 : decode cX3_isPoint 10 = .ok (.iconst 1, 1) := by decide +kernel
theorem dX3_isPoint_11 : decode cX3_isPoint 11 = .ok (.goto 4, 3) := by decide +kernel
theorem dX3_isPoint_14 : decode cX3_isPoint 14 = .ok (.iconst 0, 1) := by decide +kernel
theorem dX3_isPoint_15 : decode cX3_isPoint 15 = .ok (.ireturn, 1) := by decide +kernel
theorem dX3_isPlaceInRow_0 : decode cX3_isPlaceInRow 0 = .ok (.iload_n 0, 1) := by decide +kernel
theorem dX3_isPlaceInRow_1 : decode cX3_isPlaceInRow 1 = .ok (.ifCond .lt 13, 3) := by decide +kernel
theorem dX3_isPlaceInRow_4 : decode cX3_isPlaceInRow 4 = .ok (.iload_n 0, 1) := by decide +kernel
theorem dX3_isPlaceInRow_5 : decode cX3_isPlaceInRow 5 = .ok (.bipush 8, 2) := by decide +kernel
theorem dX3_isPlaceInRow_7 : decode cX3_isPlaceInRow 7 = .ok (.if_icmp .ge 7, 3) := by decide +kernel
theorem dX3_isPlaceInRow_10 : decode cX3_isPlaceInRow 10 = .ok (.iconst 1, 1) := by decide +kernel
theorem dX3_isPlaceInRow_11 : decode cX3_isPlaceInRow 11 = .ok (.goto 4, 3) := by decide +kernel
theorem dX3_isPlaceInRow_14 : decode cX3_isPlaceInRow 14 = .ok (.iconst 0, 1) := by decide +kernel
theorem dX3_isPlaceInRow_15 : decode cX3_isPlaceInRow 15 = .ok (.ireturn, 1) := by decide +kernel
set_option maxRecDepth 20000 in
theorem ggX3_lineUp_X3_leastThatMayCome : GoodIn wsX3_lineUp wsX3_leastThatMayCome := goodIn_r _ [8, 1, 2, 9, 10, 11, 12, 7, 13, 14, 15, 16, 17, 18, 19, 20, 21, 22, 23, 24, 25, 26, 27, 28, 29, 30, 31, 32, 33, 34, 35, 36, 37, 38, 39, 40, 41] (by decide +kernel) (by decide +kernel)
set_option maxRecDepth 20000 in
theorem gX3_lineUp_X3_leastThatMayCome : GoodIn wsX3_lineUp (wsV RX3 171 RX3 yX3_leastThatMayCome wsX3_leastThatMayCome) := goodIn_app (goodIn_of _ (by decide +kernel)) ggX3_lineUp_X3_leastThatMayCome
theorem dX3_lineUp_0 : decode cX3_lineUp 0 = .ok (.iconst 0, 1) := by decide +kernel
theorem dX3_lineUp_1 : decode cX3_lineUp 1 = .ok (.istore_n 1, 1) := by decide +kernel
theorem dX3_lineUp_2 : decode cX3_lineUp 2 = .ok (.iload_n 1, 1) := by decide +kernel
theorem dX3_lineUp_3 : decode cX3_lineUp 3 = .ok (.aload_n 0, 1) := by decide +kernel
theorem dX3_lineUp_4 : decode cX3_lineUp 4 = .ok (.getfield 15, 3) := by decide +kernel
theorem dX3_lineUp_7 : decode cX3_lineUp 7 = .ok (.if_icmp .ge 16, 3) := by decide +kernel
theorem dX3_lineUp_10 : decode cX3_lineUp 10 = .ok (.aload_n 0, 1) := by decide +kernel
theorem dX3_lineUp_11 : decode cX3_lineUp 11 = .ok (.getfield 29, 3) := by decide +kernel
theorem dX3_lineUp_14 : decode cX3_lineUp 14 = .ok (.iload_n 1, 1) := by decide +kernel
theorem dX3_lineUp_15 : decode cX3_lineUp 15 = .ok (.iconst 0, 1) := by decide +kernel
theorem dX3_lineUp_16 : decode cX3_lineUp 16 = .ok (.bastore, 1) := by decide +kernel
theorem dX3_lineUp_17 : decode cX3_lineUp 17 = .ok (.iinc 1 1, 3) := by decide +kernel
theorem dX3_lineUp_20 : decode cX3_lineUp 20 = .ok (.goto (-18), 3) := by decide +kernel
theorem dX3_lineUp_23 : decode cX3_lineUp 23 = .ok (.iconst 0, 1) := by decide +kernel
theorem dX3_lineUp_24 : decode cX3_lineUp 24 = .ok (.istore_n 1, 1) := by decide +kernel
theorem dX3_lineUp_25 : decode cX3_lineUp 25 = .ok (.iload_n 1, 1) := by decide +kernel
theorem dX3_lineUp_26 : decode cX3_lineUp 26 = .ok (.aload_n 0, 1) := by decide +kernel
theorem dX3_lineUp_27 : decode cX3_lineUp 27 = .ok (.getfield 15, 3) := by decide +kernel
theorem dX3_lineUp_30 : decode cX3_lineUp 30 = .ok (.if_icmp .ge 36, 3) := by decide +kernel
theorem dX3_lineUp_33 : decode cX3_lineUp 33 = .ok (.aload_n 0, 1) := by decide +kernel
theorem dX3_lineUp_34 : decode cX3_lineUp 34 = .ok (.invokevirtual 171, 3) := by decide +kernel
theorem dX3_lineUp_37 : decode cX3_lineUp 37 = .ok (.istore_n 2, 1) := by decide +kernel
theorem dX3_lineUp_38 : decode cX3_lineUp 38 = .ok (.iload_n 2, 1) := by decide +kernel
theorem dX3_lineUp_39 : decode cX3_lineUp 39 = .ok (.iconst (-1), 1) := by decide +kernel
theorem dX3_lineUp_40 : decode cX3_lineUp 40 = .ok (.if_icmp .ne 6, 3) := by decide +kernel
theorem dX3_lineUp_43 : decode cX3_lineUp 43 = .ok (.goto 23, 3) := by decide +kernel
theorem dX3_lineUp_46 : decode cX3_lineUp 46 = .ok (.aload_n 0, 1) := by decide +kernel
theorem dX3_lineUp_47 : decode cX3_lineUp 47 = .ok (.getfield 29, 3) := by decide +kernel
theorem dX3_lineUp_50 : decode cX3_lineUp 50 = .ok (.iload_n 2, 1) := by decide +kernel
theorem dX3_lineUp_51 : decode cX3_lineUp 51 = .ok (.iconst 1, 1) := by decide +kernel
theorem dX3_lineUp_52 : decode cX3_lineUp 52 = .ok (.bastore, 1) := by decide +kernel
theorem dX3_lineUp_53 : decode cX3_lineUp 53 = .ok (.aload_n 0, 1) := by decide +kernel
theorem dX3_lineUp_54 : decode cX3_lineUp 54 = .ok (.getfield 26, 3) := by decide +kernel
theorem dX3_lineUp_57 : decode cX3_lineUp 57 = .ok (.iload_n 1, 1) := by decide +kernel
theorem dX3_lineUp_58 : decode cX3_lineUp 58 = .ok (.iload_n 2, 1) := by decide +kernel
theorem dX3_lineUp_59 : decode cX3_lineUp 59 = .ok (.iastore, 1) := by decide +kernel
theorem dX3_lineUp_60 : decode cX3_lineUp 60 = .ok (.iinc 1 1, 3) := by decide +kernel
theorem dX3_lineUp_63 : decode cX3_lineUp 63 = .ok (.goto (-38), 3) := by decide +kernel
theorem dX3_lineUp_66 : decode cX3_lineUp 66 = .ok (.iload_n 1, 1) := by decide +kernel
theorem dX3_lineUp_67 : decode cX3_lineUp 67 = .ok (.istore_n 2, 1) := by decide +kernel
theorem dX3_lineUp_68 : decode cX3_lineUp 68 = .ok (.iconst 0, 1) := by decide +kernel
theorem dX3_lineUp_69 : decode cX3_lineUp 69 = .ok (.istore_n 3, 1) := by decide +kernel
theorem dX3_lineUp_70 : decode cX3_lineUp 70 = .ok (.iload_n 3, 1) := by decide +kernel
theorem dX3_lineUp_71 : decode cX3_lineUp 71 = .ok (.aload_n 0, 1) := by decide +kernel
theorem dX3_lineUp_72 : decode cX3_lineUp 72 = .ok (.getfield 15, 3) := by decide +kernel
theorem dX3_lineUp_75 : decode cX3_lineUp 75 = .ok (.if_icmp .ge 36, 3) := by decide +kernel
theorem dX3_lineUp_78 : decode cX3_lineUp 78 = .ok (.iload_n 2, 1) := by decide +kernel
theorem dX3_lineUp_79 : decode cX3_lineUp 79 = .ok (.aload_n 0, 1) := by decide +kernel
theorem dX3_lineUp_80 : decode cX3_lineUp 80 = .ok (.getfield 15, 3) := by decide +kernel
theorem dX3_lineUp_83 : decode cX3_lineUp 83 = .ok (.if_icmp .ge 28, 3) := by decide +kernel
theorem dX3_lineUp_86 : decode cX3_lineUp 86 = .ok (.aload_n 0, 1) := by decide +kernel
theorem dX3_lineUp_87 : decode cX3_lineUp 87 = .ok (.getfield 29, 3) := by decide +kernel
theorem dX3_lineUp_90 : decode cX3_lineUp 90 = .ok (.iload_n 3, 1) := by decide +kernel
theorem dX3_lineUp_91 : decode cX3_lineUp 91 = .ok (.baload, 1) := by decide +kernel
theorem dX3_lineUp_92 : decode cX3_lineUp 92 = .ok (.ifCond .ne 13, 3) := by decide +kernel
theorem dX3_lineUp_95 : decode cX3_lineUp 95 = .ok (.aload_n 0, 1) := by decide +kernel
theorem dX3_lineUp_96 : decode cX3_lineUp 96 = .ok (.getfield 26, 3) := by decide +kernel
theorem dX3_lineUp_99 : decode cX3_lineUp 99 = .ok (.iload_n 2, 1) := by decide +kernel
theorem dX3_lineUp_100 : decode cX3_lineUp 100 = .ok (.iload_n 3, 1) := by decide +kernel
theorem dX3_lineUp_101 : decode cX3_lineUp 101 = .ok (.iastore, 1) := by decide +kernel
theorem dX3_lineUp_102 : decode cX3_lineUp 102 = .ok (.iinc 2 1, 3) := by decide +kernel
theorem dX3_lineUp_105 : decode cX3_lineUp 105 = .ok (.iinc 3 1, 3) := by decide +kernel
theorem dX3_lineUp_108 : decode cX3_lineUp 108 = .ok (.goto (-38), 3) := by decide +kernel
theorem dX3_lineUp_111 : decode cX3_lineUp 111 = .ok (.iload_n 1, 1) := by decide +kernel
theorem dX3_lineUp_112 : decode cX3_lineUp 112 = .ok (.ireturn, 1) := by decide +kernel
set_option maxRecDepth 20000 in
theorem ggX3_leastThatMayCome_X3_mayCome : GoodIn wsX3_leastThatMayCome wsX3_mayCome := goodIn_r _ [8, 9, 10, 1, 2, 11, 12, 13, 14, 15, 16, 26, 27, 28, 29, 30, 31, 32, 33, 34, 35, 36, 17, 18, 19, 20, 21, 22, 23, 24, 25] (by decide +kernel) (by decide +kernel)
set_option maxRecDepth 20000 in
theorem gX3_leastThatMayCome_X3_mayCome : GoodIn wsX3_leastThatMayCome (wsV RX3 174 RX3 yX3_mayCome wsX3_mayCome) := goodIn_app (goodIn_of _ (by decide +kernel)) ggX3_leastThatMayCome_X3_mayCome
theorem dX3_leastThatMayCome_0 : decode cX3_leastThatMayCome 0 = .ok (.iconst 0, 1) := by decide +kernel
theorem dX3_leastThatMayCome_1 : decode cX3_leastThatMayCome 1 = .ok (.istore_n 1, 1) := by decide +kernel
theorem dX3_leastThatMayCome_2 : decode cX3_leastThatMayCome 2 = .ok (.iload_n 1, 1) := by decide +kernel
theorem dX3_leastThatMayCome_3 : decode cX3_leastThatMayCome 3 = .ok (.aload_n 0, 1) := by decide +kernel
theorem dX3_leastThatMayCome_4 : decode cX3_leastThatMayCome 4 = .ok (.getfield 15, 3) := by decide +kernel
theorem dX3_leastThatMayCome_7 : decode cX3_leastThatMayCome 7 = .ok (.if_icmp .ge 33, 3) := by decide +kernel
theorem dX3_leastThatMayCome_10 : decode cX3_leastThatMayCome 10 = .ok (.aload_n 0, 1) := by decide +kernel
theorem dX3_leastThatMayCome_11 : decode cX3_leastThatMayCome 11 = .ok (.getfield 29, 3) := by decide +kernel
theorem dX3_leastThatMayCome_14 : decode cX3_leastThatMayCome 14 = .ok (.iload_n 1, 1) := by decide +kernel
theorem dX3_leastThatMayCome_15 : decode cX3_leastThatMayCome 15 = .ok (.baload, 1) := by decide +kernel
theorem dX3_leastThatMayCome_16 : decode cX3_leastThatMayCome 16 = .ok (.ifCond .ne 18, 3) := by decide +kernel
theorem dX3_leastThatMayCome_19 : decode cX3_leastThatMayCome 19 = .ok (.aload_n 0, 1) := by decide +kernel
theorem dX3_leastThatMayCome_20 : decode cX3_leastThatMayCome 20 = .ok (.aload_n 0, 1) := by decide +kernel
theorem dX3_leastThatMayCome_21 : decode cX3_leastThatMayCome 21 = .ok (.getfield 11, 3) := by decide +kernel
theorem dX3_leastThatMayCome_24 : decode cX3_leastThatMayCome 24 = .ok (.iload_n 1, 1) := by decide +kernel
theorem dX3_leastThatMayCome_25 : decode cX3_leastThatMayCome 25 = .ok (.aaload, 1) := by decide +kernel
theorem dX3_leastThatMayCome_26 : decode cX3_leastThatMayCome 26 = .ok (.invokevirtual 174, 3) := by decide +kernel
theorem dX3_leastThatMayCome_29 : decode cX3_leastThatMayCome 29 = .ok (.ifCond .eq 5, 3) := by decide +kernel
theorem dX3_leastThatMayCome_32 : decode cX3_leastThatMayCome 32 = .ok (.iload_n 1, 1) := by decide +kernel
theorem dX3_leastThatMayCome_33 : decode cX3_leastThatMayCome 33 = .ok (.ireturn, 1) := by decide +kernel
theorem dX3_leastThatMayCome_34 : decode cX3_leastThatMayCome 34 = .ok (.iinc 1 1, 3) := by decide +kernel
theorem dX3_leastThatMayCome_37 : decode cX3_leastThatMayCome 37 = .ok (.goto (-35), 3) := by decide +kernel
theorem dX3_leastThatMayCome_40 : decode cX3_leastThatMayCome 40 = .ok (.iconst (-1), 1) := by decide +kernel
theorem dX3_leastThatMayCome_41 : decode cX3_leastThatMayCome 41 = .ok (.ireturn, 1) := by decide +kernel
set_option maxRecDepth 20000 in
theorem ggX3_mayCome_X0_namedInputs : GoodIn wsX3_mayCome wsX0_namedInputs := goodIn_r _ [9, 10, 11, 12, 13, 14, 15, 16, 17, 18, 19, 20, 21] (by decide +kernel) (by decide +kernel)
set_option maxRecDepth 20000 in
theorem gX3_mayCome_X0_namedInputs : GoodIn wsX3_mayCome (wsV RX3 178 RX0 yX0_namedInputs wsX0_namedInputs) := goodIn_app (goodIn_of _ (by decide +kernel)) ggX3_mayCome_X0_namedInputs
theorem dX3_mayCome_0 : decode cX3_mayCome 0 = .ok (.aload_n 1, 1) := by decide +kernel
theorem dX3_mayCome_1 : decode cX3_mayCome 1 = .ok (.getfield 86, 3) := by decide +kernel
theorem dX3_mayCome_4 : decode cX3_mayCome 4 = .ok (.bipush 16, 2) := by decide +kernel
theorem dX3_mayCome_6 : decode cX3_mayCome 6 = .ok (.if_icmp .ne 5, 3) := by decide +kernel
theorem dX3_mayCome_9 : decode cX3_mayCome 9 = .ok (.iconst 1, 1) := by decide +kernel
theorem dX3_mayCome_10 : decode cX3_mayCome 10 = .ok (.ireturn, 1) := by decide +kernel
theorem dX3_mayCome_11 : decode cX3_mayCome 11 = .ok (.iconst 0, 1) := by decide +kernel
theorem dX3_mayCome_12 : decode cX3_mayCome 12 = .ok (.istore_n 2, 1) := by decide +kernel
theorem dX3_mayCome_13 : decode cX3_mayCome 13 = .ok (.iload_n 2, 1) := by decide +kernel
theorem dX3_mayCome_14 : decode cX3_mayCome 14 = .ok (.aload_n 1, 1) := by decide +kernel
theorem dX3_mayCome_15 : decode cX3_mayCome 15 = .ok (.invokevirtual 178, 3) := by decide +kernel
theorem dX3_mayCome_18 : decode cX3_mayCome 18 = .ok (.if_icmp .ge 39, 3) := by decide +kernel
theorem dX3_mayCome_21 : decode cX3_mayCome 21 = .ok (.aload_n 1, 1) := by decide +kernel
theorem dX3_mayCome_22 : decode cX3_mayCome 22 = .ok (.getfield 71, 3) := by decide +kernel
theorem dX3_mayCome_25 : decode cX3_mayCome 25 = .ok (.iload_n 2, 1) := by decide +kernel
theorem dX3_mayCome_26 : decode cX3_mayCome 26 = .ok (.iaload, 1) := by decide +kernel
theorem dX3_mayCome_27 : decode cX3_mayCome 27 = .ok (.istore_n 3, 1) := by decide +kernel
theorem dX3_mayCome_28 : decode cX3_mayCome 28 = .ok (.iload_n 3, 1) := by decide +kernel
theorem dX3_mayCome_29 : decode cX3_mayCome 29 = .ok (.ifCond .lt 22, 3) := by decide +kernel
theorem dX3_mayCome_32 : decode cX3_mayCome 32 = .ok (.iload_n 3, 1) := by decide +kernel
theorem dX3_mayCome_33 : decode cX3_mayCome 33 = .ok (.aload_n 0, 1) := by decide +kernel
theorem dX3_mayCome_34 : decode cX3_mayCome 34 = .ok (.getfield 15, 3) := by decide +kernel
theorem dX3_mayCome_37 : decode cX3_mayCome 37 = .ok (.if_icmp .ge 14, 3) := by decide +kernel
theorem dX3_mayCome_40 : decode cX3_mayCome 40 = .ok (.aload_n 0, 1) := by decide +kernel
theorem dX3_mayCome_41 : decode cX3_mayCome 41 = .ok (.getfield 29, 3) := by decide +kernel
theorem dX3_mayCome_44 : decode cX3_mayCome 44 = .ok (.iload_n 3, 1) := by decide +kernel
theorem dX3_mayCome_45 : decode cX3_mayCome 45 = .ok (.baload, 1) := by decide +kernel
theorem dX3_mayCome_46 : decode cX3_mayCome 46 = .ok (.ifCond .ne 5, 3) := by decide +kernel
theorem dX3_mayCome_49 : decode cX3_mayCome 49 = .ok (.iconst 0, 1) := by decide +kernel
theorem dX3_mayCome_50 : decode cX3_mayCome 50 = .ok (.ireturn, 1) := by decide +kernel
theorem dX3_mayCome_51 : decode cX3_mayCome 51 = .ok (.iinc 2 1, 3) := by decide +kernel
theorem dX3_mayCome_54 : decode cX3_mayCome 54 = .ok (.goto (-41), 3) := by decide +kernel
theorem dX3_mayCome_57 : decode cX3_mayCome 57 = .ok (.iconst 1, 1) := by decide +kernel
theorem dX3_mayCome_58 : decode cX3_mayCome 58 = .ok (.ireturn, 1) := by decide +kernel
set_option maxRecDepth 20000 in
theorem ggX3_tick_X3_reckon : GoodIn wsX3_tick wsX3_reckon := goodIn_r _ [10, 4, 11, 5, 12, 13, 1, 14, 15, 16, 9, 17, 2, 18, 19, 20, 21, 22, 23, 24, 25, 26, 27, 28, 29, 30, 31, 32, 33, 34, 35, 36, 37, 38, 39, 40, 41, 42, 43, 44, 45, 46, 47, 48, 49, 50, 51, 52, 53, 54, 55, 56, 57, 58, 59, 60, 61, 62, 63, 64, 65, 66, 67, 68, 69, 70, 71, 72, 73, 74, 75, 76, 77, 78, 79, 80, 81, 82, 83, 84, 85, 86, 87, 88, 89, 90, 91, 92, 93, 94, 95, 96, 97, 98, 99, 100, 101, 102, 103, 104, 105, 106, 107, 108, 109, 110, 111, 117, 118, 119, 120, 121, 122, 123, 124, 125, 126, 127, 128, 129, 130, 131, 132, 133, 134, 135, 136, 137, 138, 139, 140, 141] (by decide +kernel) (by decide +kernel)
set_option maxRecDepth 20000 in
theorem gX3_tick_X3_reckon : GoodIn wsX3_tick (wsV RX3 181 RX3 yX3_reckon wsX3_reckon) := goodIn_app (goodIn_of _ (by decide +kernel)) ggX3_tick_X3_reckon
set_option maxRecDepth 20000 in
theorem ggX3_tick_X3_takeUp : GoodIn wsX3_tick wsX3_takeUp := goodIn_r _ [115, 4, 11, 116, 39, 40, 41, 9, 42, 43, 1, 44, 45, 46, 47, 48, 49, 50, 51, 52, 53, 54, 55, 56, 57, 25, 58, 59, 60, 61, 14, 15, 16, 17, 2, 18, 117, 118, 119, 120, 121, 122, 123, 124, 125, 126, 127, 128, 129, 130, 131, 132, 133, 134, 135, 136, 137, 138, 139, 140, 141] (by decide +kernel) (by decide +kernel)
set_option maxRecDepth 20000 in
theorem gX3_tick_X3_takeUp : GoodIn wsX3_tick (wsV RX3 184 RX3 yX3_takeUp wsX3_takeUp) := goodIn_app (goodIn_of _ (by decide +kernel)) ggX3_tick_X3_takeUp
theorem dX3_tick_0 : decode cX3_tick 0 = .ok (.aload_n 0, 1) := by decide +kernel
theorem dX3_tick_1 : decode cX3_tick 1 = .ok (.dup, 1) := by decide +kernel
theorem dX3_tick_2 : decode cX3_tick 2 = .ok (.getfield 23, 3) := by decide +kernel
theorem dX3_tick_5 : decode cX3_tick 5 = .ok (.iconst 1, 1) := by decide +kernel
theorem dX3_tick_6 : decode cX3_tick 6 = .ok (.iadd, 1) := by decide +kernel
theorem dX3_tick_7 : decode cX3_tick 7 = .ok (.putfield 23, 3) := by decide +kernel
theorem dX3_tick_10 : decode cX3_tick 10 = .ok (.iconst 0, 1) := by decide +kernel
theorem dX3_tick_11 : decode cX3_tick 11 = .ok (.istore_n 1, 1) := by decide +kernel
theorem dX3_tick_12 : decode cX3_tick 12 = .ok (.iload_n 1, 1) := by decide +kernel
theorem dX3_tick_13 : decode cX3_tick 13 = .ok (.aload_n 0, 1) := by decide +kernel
theorem dX3_tick_14 : decode cX3_tick 14 = .ok (.getfield 15, 3) := by decide +kernel
theorem dX3_tick_17 : decode cX3_tick 17 = .ok (.if_icmp .ge 19, 3) := by decide +kernel
theorem dX3_tick_20 : decode cX3_tick 20 = .ok (.aload_n 0, 1) := by decide +kernel
theorem dX3_tick_21 : decode cX3_tick 21 = .ok (.aload_n 0, 1) := by decide +kernel
theorem dX3_tick_22 : decode cX3_tick 22 = .ok (.getfield 26, 3) := by decide +kernel
theorem dX3_tick_25 : decode cX3_tick 25 = .ok (.iload_n 1, 1) := by decide +kernel
theorem dX3_tick_26 : decode cX3_tick 26 = .ok (.iaload, 1) := by decide +kernel
theorem dX3_tick_27 : decode cX3_tick 27 = .ok (.invokevirtual 181, 3) := by decide +kernel
theorem dX3_tick_30 : decode cX3_tick 30 = .ok (.iinc 1 1, 3) := by decide +kernel
theorem dX3_tick_33 : decode cX3_tick 33 = .ok (.goto (-21), 3) := by decide +kernel
theorem dX3_tick_36 : decode cX3_tick 36 = .ok (.iconst 0, 1) := by decide +kernel
theorem dX3_tick_37 : decode cX3_tick 37 = .ok (.istore_n 1, 1) := by decide +kernel
theorem dX3_tick_38 : decode cX3_tick 38 = .ok (.iload_n 1, 1) := by decide +kernel
theorem dX3_tick_39 : decode cX3_tick 39 = .ok (.aload_n 0, 1) := by decide +kernel
theorem dX3_tick_40 : decode cX3_tick 40 = .ok (.getfield 15, 3) := by decide +kernel
theorem dX3_tick_43 : decode cX3_tick 43 = .ok (.if_icmp .ge 28, 3) := by decide +kernel
theorem dX3_tick_46 : decode cX3_tick 46 = .ok (.aload_n 0, 1) := by decide +kernel
theorem dX3_tick_47 : decode cX3_tick 47 = .ok (.getfield 11, 3) := by decide +kernel
theorem dX3_tick_50 : decode cX3_tick 50 = .ok (.iload_n 1, 1) := by decide +kernel
theorem dX3_tick_51 : decode cX3_tick 51 = .ok (.aaload, 1) := by decide +kernel
theorem dX3_tick_52 : decode cX3_tick 52 = .ok (.getfield 86, 3) := by decide +kernel
theorem dX3_tick_55 : decode cX3_tick 55 = .ok (.bipush 16, 2) := by decide +kernel
theorem dX3_tick_57 : decode cX3_tick 57 = .ok (.if_icmp .ne 8, 3) := by decide +kernel
theorem dX3_tick_60 : decode cX3_tick 60 = .ok (.aload_n 0, 1) := by decide +kernel
theorem dX3_tick_61 : decode cX3_tick 61 = .ok (.iload_n 1, 1) := by decide +kernel
theorem dX3_tick_62 : decode cX3_tick 62 = .ok (.invokevirtual 184, 3) := by decide +kernel
theorem dX3_tick_65 : decode cX3_tick 65 = .ok (.iinc 1 1, 3) := by decide +kernel
theorem dX3_tick_68 : decode cX3_tick 68 = .ok (.goto (-30), 3) := by decide +kernel
theorem dX3_tick_71 : decode cX3_tick 71 = .ok (.return_, 1) := by decide +kernel
set_option maxRecDepth 20000 in
theorem ggX3_reckon_X3_outputOf : GoodIn wsX3_reckon wsX3_outputOf := goodIn_r _ [11, 12, 1, 13, 107, 108, 109, 110, 111, 112, 113, 114, 115, 116, 117, 118, 119, 120, 121, 122, 123, 124, 125, 126] (by decide +kernel) (by decide +kernel)
set_option maxRecDepth 20000 in
theorem gX3_reckon_X3_outputOf : GoodIn wsX3_reckon (wsV RX3 187 RX3 yX3_outputOf wsX3_outputOf) := goodIn_app (goodIn_of _ (by decide +kernel)) ggX3_reckon_X3_outputOf
set_option maxRecDepth 20000 in
theorem ggX3_reckon_X3_failureOf : GoodIn wsX3_reckon wsX3_failureOf := goodIn_r _ [16, 3, 4, 17, 18, 19, 20, 21, 22, 23, 24, 25, 26, 27, 28, 29, 10, 30, 31, 32, 33, 116, 117, 118, 119, 120, 121, 122, 123, 124, 125, 126] (by decide +kernel) (by decide +kernel)
set_option maxRecDepth 20000 in
theorem gX3_reckon_X3_failureOf : GoodIn wsX3_reckon (va_wsS RX3 191 yX3_failureOf wsX3_failureOf) := goodIn_app (goodIn_of _ (by decide +kernel)) ggX3_reckon_X3_failureOf
set_option maxRecDepth 20000 in
theorem ggX3_reckon_X3_fail : GoodIn wsX3_reckon wsX3_fail := goodIn_r _ [37, 38, 6, 1, 39, 40, 41, 42, 43, 44, 45, 46, 47, 48, 49, 50, 51, 52, 20, 53, 54, 55, 56, 107, 108, 109, 110, 111, 112, 113, 114, 115, 116, 117, 118, 119, 120, 121, 122, 123, 124, 125, 126, 127, 128, 129, 130, 131] (by decide +kernel) (by decide +kernel)
set_option maxRecDepth 20000 in
theorem gX3_reckon_X3_fail : GoodIn wsX3_reckon (wsV RX3 195 RX3 yX3_fail wsX3_fail) := goodIn_app (goodIn_of _ (by decide +kernel)) ggX3_reckon_X3_fail
set_option maxRecDepth 20000 in
theorem ggX3_reckon_X3_isPoint : GoodIn wsX3_reckon wsX3_isPoint := goodIn_r _ [30] (by decide +kernel) (by decide +kernel)
set_option maxRecDepth 20000 in
theorem gX3_reckon_X3_isPoint : GoodIn wsX3_reckon (va_wsS RX3 97 yX3_isPoint wsX3_isPoint) := goodIn_app (goodIn_of _ (by decide +kernel)) ggX3_reckon_X3_isPoint
set_option maxRecDepth 20000 in
theorem ggX3_reckon_X0_say : GoodIn wsX3_reckon wsX0_say := goodIn_r _ [53, 54, 55, 56, 116, 117, 118, 119, 120, 121, 122, 123, 124, 125, 126] (by decide +kernel) (by decide +kernel)
set_option maxRecDepth 20000 in
theorem gX3_reckon_X0_say : GoodIn wsX3_reckon (wsV RX3 199 RX0 yX0_say wsX0_say) := goodIn_app (goodIn_of _ (by decide +kernel)) ggX3_reckon_X0_say
set_option maxRecDepth 20000 in
theorem ggX3_reckon_X3_combined : GoodIn wsX3_reckon wsX3_combined := goodIn_r _ [59, 60, 61, 62, 63, 64, 65, 66, 67, 68, 10, 69, 70, 71, 72] (by decide +kernel) (by decide +kernel)
set_option maxRecDepth 20000 in
theorem gX3_reckon_X3_combined : GoodIn wsX3_reckon (va_wsS RX3 202 yX3_combined wsX3_combined) := goodIn_app (goodIn_of _ (by decide +kernel)) ggX3_reckon_X3_combined
set_option maxRecDepth 20000 in
theorem ggX3_reckon_X0_ownReckoning : GoodIn wsX3_reckon wsX0_ownReckoning := goodIn_r _ [76, 27, 77, 78, 79, 80, 56, 81, 61, 62, 63, 32, 10, 33, 82, 83, 84, 20, 85, 86, 65, 66, 87, 88, 89, 90, 91, 92, 93, 94, 95, 96, 97, 98, 99, 100, 101, 102, 71, 72, 103, 104, 105, 106, 116, 117, 118, 119, 120, 121, 122, 123, 124, 125, 126] (by decide +kernel) (by decide +kernel)
set_option maxRecDepth 20000 in
theorem gX3_reckon_X0_ownReckoning : GoodIn wsX3_reckon (wsV RX3 206 RX0 yX0_ownReckoning wsX0_ownReckoning) := goodIn_app (goodIn_of _ (by decide +kernel)) ggX3_reckon_X0_ownReckoning
theorem dX3_reckon_0 : decode cX3_reckon 0 = .ok (.aload_n 0, 1) := by decide +kernel
theorem dX3_reckon_1 : decode cX3_reckon 1 = .ok (.getfield 11, 3) := by decide +kernel
theorem dX3_reckon_4 : decode cX3_reckon 4 = .ok (.iload_n 1, 1) := by decide +kernel
theorem dX3_reckon_5 : decode cX3_reckon 5 = .ok (.aaload, 1) := by decide +kernel
theorem dX3_reckon_6 : decode cX3_reckon 6 = .ok (.astore_n 2, 1) := by decide +kernel
theorem dX3_reckon_7 : decode cX3_reckon 7 = .ok (.aload_n 0, 1) := by decide +kernel
theorem dX3_reckon_8 : decode cX3_reckon 8 = .ok (.aload_n 2, 1) := by decide +kernel
theorem dX3_reckon_9 : decode cX3_reckon 9 = .ok (.getfield 71, 3) := by decide +kernel
theorem dX3_reckon_12 : decode cX3_reckon 12 = .ok (.iconst 0, 1) := by decide +kernel
theorem dX3_reckon_13 : decode cX3_reckon 13 = .ok (.iaload, 1) := by decide +kernel
theorem dX3_reckon_14 : decode cX3_reckon 14 = .ok (.invokevirtual 187, 3) := by decide +kernel
theorem dX3_reckon_17 : decode cX3_reckon 17 = .ok (.istore_n 3, 1) := by decide +kernel
theorem dX3_reckon_18 : decode cX3_reckon 18 = .ok (.aload_n 0, 1) := by decide +kernel
theorem dX3_reckon_19 : decode cX3_reckon 19 = .ok (.aload_n 2, 1) := by decide +kernel
theorem dX3_reckon_20 : decode cX3_reckon 20 = .ok (.getfield 71, 3) := by decide +kernel
theorem dX3_reckon_23 : decode cX3_reckon 23 = .ok (.iconst 1, 1) := by decide +kernel
theorem dX3_reckon_24 : decode cX3_reckon 24 = .ok (.iaload, 1) := by decide +kernel
theorem dX3_reckon_25 : decode cX3_reckon 25 = .ok (.invokevirtual 187, 3) := by decide +kernel
theorem dX3_reckon_28 : decode cX3_reckon 28 = .ok (.istore 4, 2) := by decide +kernel
theorem dX3_reckon_30 : decode cX3_reckon 30 = .ok (.aload_n 0, 1) := by decide +kernel
theorem dX3_reckon_31 : decode cX3_reckon 31 = .ok (.aload_n 2, 1) := by decide +kernel
theorem dX3_reckon_32 : decode cX3_reckon 32 = .ok (.getfield 71, 3) := by decide +kernel
theorem dX3_reckon_35 : decode cX3_reckon 35 = .ok (.iconst 2, 1) := by decide +kernel
theorem dX3_reckon_36 : decode cX3_reckon 36 = .ok (.iaload, 1) := by decide +kernel
theorem dX3_reckon_37 : decode cX3_reckon 37 = .ok (.invokevirtual 187, 3) := by decide +kernel
theorem dX3_reckon_40 : decode cX3_reckon 40 = .ok (.istore 5, 2) := by decide +kernel
theorem dX3_reckon_42 : decode cX3_reckon 42 = .ok (.aload_n 2, 1) := by decide +kernel
theorem dX3_reckon_43 : decode cX3_reckon 43 = .ok (.iload_n 3, 1) := by decide +kernel
theorem dX3_reckon_44 : decode cX3_reckon 44 = .ok (.iload 4, 2) := by decide +kernel
theorem dX3_reckon_46 : decode cX3_reckon 46 = .ok (.invokestatic 191, 3) := by decide +kernel
theorem dX3_reckon_49 : decode cX3_reckon 49 = .ok (.istore 6, 2) := by decide +kernel
theorem dX3_reckon_51 : decode cX3_reckon 51 = .ok (.iload 6, 2) := by decide +kernel
theorem dX3_reckon_53 : decode cX3_reckon 53 = .ok (.ifCond .eq 13, 3) := by decide +kernel
theorem dX3_reckon_56 : decode cX3_reckon 56 = .ok (.aload_n 0, 1) := by decide +kernel
theorem dX3_reckon_57 : decode cX3_reckon 57 = .ok (.iload_n 1, 1) := by decide +kernel
theorem dX3_reckon_58 : decode cX3_reckon 58 = .ok (.iload 6, 2) := by decide +kernel
theorem dX3_reckon_60 : decode cX3_reckon 60 = .ok (.invokevirtual 195, 3) := by decide +kernel
theorem dX3_reckon_63 : decode cX3_reckon 63 = .ok (.goto 91, 3) := by decide +kernel
theorem dX3_reckon_66 : decode cX3_reckon 66 = .ok (.aload_n 2, 1) := by decide +kernel
theorem dX3_reckon_67 : decode cX3_reckon 67 = .ok (.getfield 86, 3) := by decide +kernel
theorem dX3_reckon_70 : decode cX3_reckon 70 = .ok (.ifCond .ne 33, 3) := by decide +kernel
theorem dX3_reckon_73 : decode cX3_reckon 73 = .ok (.aload_n 2, 1) := by decide +kernel
theorem dX3_reckon_74 : decode cX3_reckon 74 = .ok (.aload_n 2, 1) := by decide +kernel
theorem dX3_reckon_75 : decode cX3_reckon 75 = .ok (.getfield 74, 3) := by decide +kernel
theorem dX3_reckon_78 : decode cX3_reckon 78 = .ok (.invokestatic 97, 3) := by decide +kernel
theorem dX3_reckon_81 : decode cX3_reckon 81 = .ok (.ifCond .eq 15, 3) := by decide +kernel
theorem dX3_reckon_84 : decode cX3_reckon 84 = .ok (.aload_n 0, 1) := by decide +kernel
theorem dX3_reckon_85 : decode cX3_reckon 85 = .ok (.getfield 19, 3) := by decide +kernel
theorem dX3_reckon_88 : decode cX3_reckon 88 = .ok (.aload_n 2, 1) := by decide +kernel
theorem dX3_reckon_89 : decode cX3_reckon 89 = .ok (.getfield 74, 3) := by decide +kernel
theorem dX3_reckon_92 : decode cX3_reckon 92 = .ok (.iaload, 1) := by decide +kernel
theorem dX3_reckon_93 : decode cX3_reckon 93 = .ok (.goto 4, 3) := by decide +kernel
theorem dX3_reckon_96 : decode cX3_reckon 96 = .ok (.iconst 0, 1) := by decide +kernel
theorem dX3_reckon_97 : decode cX3_reckon 97 = .ok (.invokevirtual 199, 3) := by decide +kernel
theorem dX3_reckon_100 : decode cX3_reckon 100 = .ok (.goto 54, 3) := by decide +kernel
theorem dX3_reckon_103 : decode cX3_reckon 103 = .ok (.aload_n 2, 1) := by decide +kernel
theorem dX3_reckon_104 : decode cX3_reckon 104 = .ok (.getfield 86, 3) := by decide +kernel
theorem dX3_reckon_107 : decode cX3_reckon 107 = .ok (.iconst 2, 1) := by decide +kernel
theorem dX3_reckon_108 : decode cX3_reckon 108 = .ok (.if_icmp .lt 31, 3) := by decide +kernel
theorem dX3_reckon_111 : decode cX3_reckon 111 = .ok (.aload_n 2, 1) := by decide +kernel
theorem dX3_reckon_112 : decode cX3_reckon 112 = .ok (.getfield 86, 3) := by decide +kernel
theorem dX3_reckon_115 : decode cX3_reckon 115 = .ok (.bipush 14, 2) := by decide +kernel
theorem dX3_reckon_117 : decode cX3_reckon 117 = .ok (.if_icmp .gt 22, 3) := by decide +kernel
theorem dX3_reckon_120 : decode cX3_reckon 120 = .ok (.aload_n 2, 1) := by decide +kernel
theorem dX3_reckon_121 : decode cX3_reckon 121 = .ok (.aload_n 2, 1) := by decide +kernel
theorem dX3_reckon_122 : decode cX3_reckon 122 = .ok (.getfield 86, 3) := by decide +kernel
theorem dX3_reckon_125 : decode cX3_reckon 125 = .ok (.iload_n 3, 1) := by decide +kernel
theorem dX3_reckon_126 : decode cX3_reckon 126 = .ok (.iload 4, 2) := by decide +kernel
theorem dX3_reckon_128 : decode cX3_reckon 128 = .ok (.iload 5, 2) := by decide +kernel
theorem dX3_reckon_130 : decode cX3_reckon 130 = .ok (.invokestatic 202, 3) := by decide +kernel
theorem dX3_reckon_133 : decode cX3_reckon 133 = .ok (.invokevirtual 199, 3) := by decide +kernel
theorem dX3_reckon_136 : decode cX3_reckon 136 = .ok (.goto 18, 3) := by decide +kernel
theorem dX3_reckon_139 : decode cX3_reckon 139 = .ok (.aload_n 2, 1) := by decide +kernel
theorem dX3_reckon_140 : decode cX3_reckon 140 = .ok (.aload_n 2, 1) := by decide +kernel
theorem dX3_reckon_141 : decode cX3_reckon 141 = .ok (.iload_n 3, 1) := by decide +kernel
theorem dX3_reckon_142 : decode cX3_reckon 142 = .ok (.iload 4, 2) := by decide +kernel
theorem dX3_reckon_144 : decode cX3_reckon 144 = .ok (.aload_n 0, 1) := by decide +kernel
theorem dX3_reckon_145 : decode cX3_reckon 145 = .ok (.getfield 23, 3) := by decide +kernel
theorem dX3_reckon_148 : decode cX3_reckon 148 = .ok (.invokevirtual 206, 3) := by decide +kernel
theorem dX3_reckon_151 : decode cX3_reckon 151 = .ok (.invokevirtual 199, 3) := by decide +kernel
theorem dX3_reckon_154 : decode cX3_reckon 154 = .ok (.return_, 1) := by decide +kernel
set_option maxRecDepth 20000 in
theorem ggX3_fail_X1_note : GoodIn wsX3_fail wsX1_note := goodIn_r _ [9, 10, 11, 12, 13, 14, 43, 44, 45, 46, 47] (by decide +kernel) (by decide +kernel)
set_option maxRecDepth 20000 in
theorem gX3_fail_X1_note : GoodIn wsX3_fail (wsV RX3 210 RX1 yX1_note wsX1_note) := goodIn_app (goodIn_of _ (by decide +kernel)) ggX3_fail_X1_note
set_option maxRecDepth 20000 in
theorem ggX3_fail_X0_say : GoodIn wsX3_fail wsX0_say := goodIn_r _ [19, 20, 21, 22, 32, 33, 34, 35, 36, 37, 38, 39, 40, 41, 42] (by decide +kernel) (by decide +kernel)
set_option maxRecDepth 20000 in
theorem gX3_fail_X0_say : GoodIn wsX3_fail (wsV RX3 199 RX0 yX0_say wsX0_say) := goodIn_app (goodIn_of _ (by decide +kernel)) ggX3_fail_X0_say
theorem dX3_fail_0 : decode cX3_fail 0 = .ok (.aload_n 0, 1) := by decide +kernel
theorem dX3_fail_1 : decode cX3_fail 1 = .ok (.getfield 36, 3) := by decide +kernel
theorem dX3_fail_4 : decode cX3_fail 4 = .ok (.aload_n 0, 1) := by decide +kernel
theorem dX3_fail_5 : decode cX3_fail 5 = .ok (.getfield 23, 3) := by decide +kernel
theorem dX3_fail_8 : decode cX3_fail 8 = .ok (.iload_n 1, 1) := by decide +kernel
theorem dX3_fail_9 : decode cX3_fail 9 = .ok (.iload_n 2, 1) := by decide +kernel
theorem dX3_fail_10 : decode cX3_fail 10 = .ok (.invokevirtual 210, 3) := by decide +kernel
theorem dX3_fail_13 : decode cX3_fail 13 = .ok (.aload_n 0, 1) := by decide +kernel
theorem dX3_fail_14 : decode cX3_fail 14 = .ok (.getfield 11, 3) := by decide +kernel
theorem dX3_fail_17 : decode cX3_fail 17 = .ok (.iload_n 1, 1) := by decide +kernel
theorem dX3_fail_18 : decode cX3_fail 18 = .ok (.aaload, 1) := by decide +kernel
theorem dX3_fail_19 : decode cX3_fail 19 = .ok (.aload_n 0, 1) := by decide +kernel
theorem dX3_fail_20 : decode cX3_fail 20 = .ok (.getfield 11, 3) := by decide +kernel
theorem dX3_fail_23 : decode cX3_fail 23 = .ok (.iload_n 1, 1) := by decide +kernel
theorem dX3_fail_24 : decode cX3_fail 24 = .ok (.aaload, 1) := by decide +kernel
theorem dX3_fail_25 : decode cX3_fail 25 = .ok (.getfield 94, 3) := by decide +kernel
theorem dX3_fail_28 : decode cX3_fail 28 = .ok (.invokevirtual 199, 3) := by decide +kernel
theorem dX3_fail_31 : decode cX3_fail 31 = .ok (.return_, 1) := by decide +kernel
set_option maxRecDepth 20000 in
theorem ggX3_takeUp_X3_fail : GoodIn wsX3_takeUp wsX3_fail := goodIn_r _ [8, 9, 10, 1, 11, 12, 13, 14, 15, 16, 17, 18, 19, 20, 21, 22, 23, 24, 25, 26, 27, 28, 29, 36, 37, 38, 39, 40, 41, 42, 43, 44, 45, 46, 47, 48, 49, 50, 51, 52, 53, 54, 55, 56, 57, 58, 59, 60] (by decide +kernel) (by decide +kernel)
set_option maxRecDepth 20000 in
theorem gX3_takeUp_X3_fail : GoodIn wsX3_takeUp (wsV RX3 195 RX3 yX3_fail wsX3_fail) := goodIn_app (goodIn_of _ (by decide +kernel)) ggX3_takeUp_X3_fail
set_option maxRecDepth 20000 in
theorem ggX3_takeUp_X3_outputOf : GoodIn wsX3_takeUp wsX3_outputOf := goodIn_r _ [33, 34, 1, 35, 36, 37, 38, 39, 40, 41, 42, 43, 44, 45, 46, 47, 48, 49, 50, 51, 52, 53, 54, 55] (by decide +kernel) (by decide +kernel)
set_option maxRecDepth 20000 in
theorem gX3_takeUp_X3_outputOf : GoodIn wsX3_takeUp (wsV RX3 187 RX3 yX3_outputOf wsX3_outputOf) := goodIn_app (goodIn_of _ (by decide +kernel)) ggX3_takeUp_X3_outputOf
theorem dX3_takeUp_0 : decode cX3_takeUp 0 = .ok (.aload_n 0, 1) := by decide +kernel
theorem dX3_takeUp_1 : decode cX3_takeUp 1 = .ok (.getfield 11, 3) := by decide +kernel
theorem dX3_takeUp_4 : decode cX3_takeUp 4 = .ok (.iload_n 1, 1) := by decide +kernel
theorem dX3_takeUp_5 : decode cX3_takeUp 5 = .ok (.aaload, 1) := by decide +kernel
theorem dX3_takeUp_6 : decode cX3_takeUp 6 = .ok (.astore_n 2, 1) := by decide +kernel
theorem dX3_takeUp_7 : decode cX3_takeUp 7 = .ok (.aload_n 2, 1) := by decide +kernel
theorem dX3_takeUp_8 : decode cX3_takeUp 8 = .ok (.getfield 71, 3) := by decide +kernel
theorem dX3_takeUp_11 : decode cX3_takeUp 11 = .ok (.iconst 0, 1) := by decide +kernel
theorem dX3_takeUp_12 : decode cX3_takeUp 12 = .ok (.iaload, 1) := by decide +kernel
theorem dX3_takeUp_13 : decode cX3_takeUp 13 = .ok (.iconst (-1), 1) := by decide +kernel
theorem dX3_takeUp_14 : decode cX3_takeUp 14 = .ok (.if_icmp .ne 12, 3) := by decide +kernel
theorem dX3_takeUp_17 : decode cX3_takeUp 17 = .ok (.aload_n 0, 1) := by decide +kernel
theorem dX3_takeUp_18 : decode cX3_takeUp 18 = .ok (.iload_n 1, 1) := by decide +kernel
theorem dX3_takeUp_19 : decode cX3_takeUp 19 = .ok (.iconst 3, 1) := by decide +kernel
theorem dX3_takeUp_20 : decode cX3_takeUp 20 = .ok (.invokevirtual 195, 3) := by decide +kernel
theorem dX3_takeUp_23 : decode cX3_takeUp 23 = .ok (.goto 17, 3) := by decide +kernel
theorem dX3_takeUp_26 : decode cX3_takeUp 26 = .ok (.aload_n 2, 1) := by decide +kernel
theorem dX3_takeUp_27 : decode cX3_takeUp 27 = .ok (.aload_n 0, 1) := by decide +kernel
theorem dX3_takeUp_28 : decode cX3_takeUp 28 = .ok (.aload_n 2, 1) := by decide +kernel
theorem dX3_takeUp_29 : decode cX3_takeUp 29 = .ok (.getfield 71, 3) := by decide +kernel
theorem dX3_takeUp_32 : decode cX3_takeUp 32 = .ok (.iconst 0, 1) := by decide +kernel
theorem dX3_takeUp_33 : decode cX3_takeUp 33 = .ok (.iaload, 1) := by decide +kernel
theorem dX3_takeUp_34 : decode cX3_takeUp 34 = .ok (.invokevirtual 187, 3) := by decide +kernel
theorem dX3_takeUp_37 : decode cX3_takeUp 37 = .ok (.putfield 129, 3) := by decide +kernel
theorem dX3_takeUp_40 : decode cX3_takeUp 40 = .ok (.return_, 1) := by decide +kernel
theorem dX3_outputOf_0 : decode cX3_outputOf 0 = .ok (.iload_n 1, 1) := by decide +kernel
theorem dX3_outputOf_1 : decode cX3_outputOf 1 = .ok (.ifCond .lt 23, 3) := by decide +kernel
theorem dX3_outputOf_4 : decode cX3_outputOf 4 = .ok (.iload_n 1, 1) := by decide +kernel
theorem dX3_outputOf_5 : decode cX3_outputOf 5 = .ok (.aload_n 0, 1) := by decide +kernel
theorem dX3_outputOf_6 : decode cX3_outputOf 6 = .ok (.getfield 15, 3) := by decide +kernel
theorem dX3_outputOf_9 : decode cX3_outputOf 9 = .ok (.if_icmp .ge 15, 3) := by decide +kernel
theorem dX3_outputOf_12 : decode cX3_outputOf 12 = .ok (.aload_n 0, 1) := by decide +kernel
theorem dX3_outputOf_13 : decode cX3_outputOf 13 = .ok (.getfield 11, 3) := by decide +kernel
theorem dX3_outputOf_16 : decode cX3_outputOf 16 = .ok (.iload_n 1, 1) := by decide +kernel
theorem dX3_outputOf_17 : decode cX3_outputOf 17 = .ok (.aaload, 1) := by decide +kernel
theorem dX3_outputOf_18 : decode cX3_outputOf 18 = .ok (.getfield 124, 3) := by decide +kernel
theorem dX3_outputOf_21 : decode cX3_outputOf 21 = .ok (.goto 4, 3) := by decide +kernel
theorem dX3_outputOf_24 : decode cX3_outputOf 24 = .ok (.iconst 0, 1) := by decide +kernel
theorem dX3_outputOf_25 : decode cX3_outputOf 25 = .ok (.ireturn, 1) := by decide +kernel
set_option maxRecDepth 20000 in
theorem ggX3_failureOf_X0_lacksWire : GoodIn wsX3_failureOf wsX0_lacksWire := goodIn_r _ [7, 8, 9, 10, 11, 6, 12, 13, 21, 22, 23, 24, 25, 26, 27, 28, 29, 30, 31] (by decide +kernel) (by decide +kernel)
set_option maxRecDepth 20000 in
theorem gX3_failureOf_X0_lacksWire : GoodIn wsX3_failureOf (wsV RX3 214 RX0 yX0_lacksWire wsX0_lacksWire) := goodIn_app (goodIn_of _ (by decide +kernel)) ggX3_failureOf_X0_lacksWire
set_option maxRecDepth 20000 in
theorem ggX3_failureOf_X3_isPoint : GoodIn wsX3_failureOf wsX3_isPoint := goodIn_r _ [17] (by decide +kernel) (by decide +kernel)
set_option maxRecDepth 20000 in
theorem gX3_failureOf_X3_isPoint : GoodIn wsX3_failureOf (va_wsS RX3 97 yX3_isPoint wsX3_isPoint) := goodIn_app (goodIn_of _ (by decide +kernel)) ggX3_failureOf_X3_isPoint
set_option maxRecDepth 20000 in
theorem ggX3_failureOf_X3_isPlaceInRow : GoodIn wsX3_failureOf wsX3_isPlaceInRow := goodIn_r _ [20] (by decide +kernel) (by decide +kernel)
set_option maxRecDepth 20000 in
theorem gX3_failureOf_X3_isPlaceInRow : GoodIn wsX3_failureOf (va_wsS RX3 80 yX3_isPlaceInRow wsX3_isPlaceInRow) := goodIn_app (goodIn_of _ (by decide +kernel)) ggX3_failureOf_X3_isPlaceInRow
theorem dX3_failureOf_0 : decode cX3_failureOf 0 = .ok (.aload_n 0, 1) := by decide +kernel
theorem dX3_failureOf_1 : decode cX3_failureOf 1 = .ok (.getfield 86, 3) := by decide +kernel
theorem dX3_failureOf_4 : decode cX3_failureOf 4 = .ok (.bipush 16, 2) := by decide +kernel
theorem dX3_failureOf_6 : decode cX3_failureOf 6 = .ok (.if_icmp .eq 12, 3) := by decide +kernel
theorem dX3_failureOf_9 : decode cX3_failureOf 9 = .ok (.aload_n 0, 1) := by decide +kernel
theorem dX3_failureOf_10 : decode cX3_failureOf 10 = .ok (.invokevirtual 214, 3) := by decide +kernel
theorem dX3_failureOf_13 : decode cX3_failureOf 13 = .ok (.ifCond .eq 5, 3) := by decide +kernel
theorem dX3_failureOf_16 : decode cX3_failureOf 16 = .ok (.iconst 3, 1) := by decide +kernel
theorem dX3_failureOf_17 : decode cX3_failureOf 17 = .ok (.ireturn, 1) := by decide +kernel
theorem dX3_failureOf_18 : decode cX3_failureOf 18 = .ok (.aload_n 0, 1) := by decide +kernel
theorem dX3_failureOf_19 : decode cX3_failureOf 19 = .ok (.getfield 86, 3) := by decide +kernel
theorem dX3_failureOf_22 : decode cX3_failureOf 22 = .ok (.lookupswitch 81 #[(0, 42), (5, 71), (6, 71), (15, 58)], 42) := by decide +kernel
theorem dX3_failureOf_64 : decode cX3_failureOf 64 = .ok (.aload_n 0, 1) := by decide +kernel
theorem dX3_failureOf_65 : decode cX3_failureOf 65 = .ok (.getfield 74, 3) := by decide +kernel
theorem dX3_failureOf_68 : decode cX3_failureOf 68 = .ok (.invokestatic 97, 3) := by decide +kernel
theorem dX3_failureOf_71 : decode cX3_failureOf 71 = .ok (.ifCond .eq 7, 3) := by decide +kernel
theorem dX3_failureOf_74 : decode cX3_failureOf 74 = .ok (.iconst 0, 1) := by decide +kernel
theorem dX3_failureOf_75 : decode cX3_failureOf 75 = .ok (.goto 4, 3) := by decide +kernel
theorem dX3_failureOf_78 : decode cX3_failureOf 78 = .ok (.iconst 2, 1) := by decide +kernel
theorem dX3_failureOf_79 : decode cX3_failureOf 79 = .ok (.ireturn, 1) := by decide +kernel
theorem dX3_failureOf_80 : decode cX3_failureOf 80 = .ok (.iload_n 1, 1) := by decide +kernel
theorem dX3_failureOf_81 : decode cX3_failureOf 81 = .ok (.invokestatic 80, 3) := by decide +kernel
theorem dX3_failureOf_84 : decode cX3_failureOf 84 = .ok (.ifCond .eq 7, 3) := by decide +kernel
theorem dX3_failureOf_87 : decode cX3_failureOf 87 = .ok (.iconst 0, 1) := by decide +kernel
theorem dX3_failureOf_88 : decode cX3_failureOf 88 = .ok (.goto 4, 3) := by decide +kernel
theorem dX3_failureOf_91 : decode cX3_failureOf 91 = .ok (.iconst 2, 1) := by decide +kernel
theorem dX3_failureOf_92 : decode cX3_failureOf 92 = .ok (.ireturn, 1) := by decide +kernel
theorem dX3_failureOf_93 : decode cX3_failureOf 93 = .ok (.iload_n 2, 1) := by decide +kernel
theorem dX3_failureOf_94 : decode cX3_failureOf 94 = .ok (.ifCond .ne 7, 3) := by decide +kernel
theorem dX3_failureOf_97 : decode cX3_failureOf 97 = .ok (.iconst 1, 1) := by decide +kernel
theorem dX3_failureOf_98 : decode cX3_failureOf 98 = .ok (.goto 4, 3) := by decide +kernel
theorem dX3_failureOf_101 : decode cX3_failureOf 101 = .ok (.iconst 0, 1) := by decide +kernel
theorem dX3_failureOf_102 : decode cX3_failureOf 102 = .ok (.ireturn, 1) := by decide +kernel
theorem dX3_failureOf_103 : decode cX3_failureOf 103 = .ok (.iconst 0, 1) := by decide +kernel
theorem dX3_failureOf_104 : decode cX3_failureOf 104 = .ok (.ireturn, 1) := by decide +kernel
set_option maxRecDepth 20000 in
theorem ggX3_combined_X3_quotient : GoodIn wsX3_combined wsX3_quotient := goodIn_r _ [11] (by decide +kernel) (by decide +kernel)
set_option maxRecDepth 20000 in
theorem gX3_combined_X3_quotient : GoodIn wsX3_combined (va_wsS RX3 218 yX3_quotient wsX3_quotient) := goodIn_app (goodIn_of _ (by decide +kernel)) ggX3_combined_X3_quotient
set_option maxRecDepth 20000 in
theorem ggX3_combined_X3_asNumber : GoodIn wsX3_combined wsX3_asNumber := goodIn_r _ [14] (by decide +kernel) (by decide +kernel)
set_option maxRecDepth 20000 in
theorem gX3_combined_X3_asNumber : GoodIn wsX3_combined (va_wsS RX3 229 yX3_asNumber wsX3_asNumber) := goodIn_app (goodIn_of _ (by decide +kernel)) ggX3_combined_X3_asNumber
theorem dX3_combined_0 : decode cX3_combined 0 = .ok (.iload_n 0, 1) := by decide +kernel
theorem dX3_combined_1 : decode cX3_combined 1 = .ok (.tableswitch 192 2 14 #[67, 71, 75, 79, 85, 95, 101, 107, 121, 135, 152, 169, 182], 67) := by decide +kernel
theorem dX3_combined_68 : decode cX3_combined 68 = .ok (.iload_n 1, 1) := by decide +kernel
theorem dX3_combined_69 : decode cX3_combined 69 = .ok (.iload_n 2, 1) := by decide +kernel
theorem dX3_combined_70 : decode cX3_combined 70 = .ok (.iadd, 1) := by decide +kernel
theorem dX3_combined_71 : decode cX3_combined 71 = .ok (.ireturn, 1) := by decide +kernel
theorem dX3_combined_72 : decode cX3_combined 72 = .ok (.iload_n 1, 1) := by decide +kernel
theorem dX3_combined_73 : decode cX3_combined 73 = .ok (.iload_n 2, 1) := by decide +kernel
theorem dX3_combined_74 : decode cX3_combined 74 = .ok (.isub, 1) := by decide +kernel
theorem dX3_combined_75 : decode cX3_combined 75 = .ok (.ireturn, 1) := by decide +kernel
theorem dX3_combined_76 : decode cX3_combined 76 = .ok (.iload_n 1, 1) := by decide +kernel
theorem dX3_combined_77 : decode cX3_combined 77 = .ok (.iload_n 2, 1) := by decide +kernel
theorem dX3_combined_78 : decode cX3_combined 78 = .ok (.imul, 1) := by decide +kernel
theorem dX3_combined_79 : decode cX3_combined 79 = .ok (.ireturn, 1) := by decide +kernel
theorem dX3_combined_80 : decode cX3_combined 80 = .ok (.iload_n 1, 1) := by decide +kernel
theorem dX3_combined_81 : decode cX3_combined 81 = .ok (.iload_n 2, 1) := by decide +kernel
theorem dX3_combined_82 : decode cX3_combined 82 = .ok (.invokestatic 218, 3) := by decide +kernel
theorem dX3_combined_85 : decode cX3_combined 85 = .ok (.ireturn, 1) := by decide +kernel
theorem dX3_combined_86 : decode cX3_combined 86 = .ok (.iload_n 1, 1) := by decide +kernel
theorem dX3_combined_87 : decode cX3_combined 87 = .ok (.iload_n 2, 1) := by decide +kernel
theorem dX3_combined_88 : decode cX3_combined 88 = .ok (.iload_n 1, 1) := by decide +kernel
theorem dX3_combined_89 : decode cX3_combined 89 = .ok (.iload_n 2, 1) := by decide +kernel
theorem dX3_combined_90 : decode cX3_combined 90 = .ok (.invokestatic 218, 3) := by decide +kernel
theorem dX3_combined_93 : decode cX3_combined 93 = .ok (.imul, 1) := by decide +kernel
theorem dX3_combined_94 : decode cX3_combined 94 = .ok (.isub, 1) := by decide +kernel
theorem dX3_combined_95 : decode cX3_combined 95 = .ok (.ireturn, 1) := by decide +kernel
theorem dX3_combined_96 : decode cX3_combined 96 = .ok (.iload_n 1, 1) := by decide +kernel
theorem dX3_combined_97 : decode cX3_combined 97 = .ok (.iload_n 2, 1) := by decide +kernel
theorem dX3_combined_98 : decode cX3_combined 98 = .ok (.invokestatic 221, 3) := by decide +kernel
theorem dX3_combined_101 : decode cX3_combined 101 = .ok (.ireturn, 1) := by decide +kernel
theorem dX3_combined_102 : decode cX3_combined 102 = .ok (.iload_n 1, 1) := by decide +kernel
theorem dX3_combined_103 : decode cX3_combined 103 = .ok (.iload_n 2, 1) := by decide +kernel
theorem dX3_combined_104 : decode cX3_combined 104 = .ok (.invokestatic 226, 3) := by decide +kernel
theorem dX3_combined_107 : decode cX3_combined 107 = .ok (.ireturn, 1) := by decide +kernel
theorem dX3_combined_108 : decode cX3_combined 108 = .ok (.iload_n 1, 1) := by decide +kernel
theorem dX3_combined_109 : decode cX3_combined 109 = .ok (.iload_n 2, 1) := by decide +kernel
theorem dX3_combined_110 : decode cX3_combined 110 = .ok (.if_icmp .ge 7, 3) := by decide +kernel
theorem dX3_combined_113 : decode cX3_combined 113 = .ok (.iconst 1, 1) := by decide +kernel
theorem dX3_combined_114 : decode cX3_combined 114 = .ok (.goto 4, 3) := by decide +kernel
theorem dX3_combined_117 : decode cX3_combined 117 = .ok (.iconst 0, 1) := by decide +kernel
theorem dX3_combined_118 : decode cX3_combined 118 = .ok (.invokestatic 229, 3) := by decide +kernel
theorem dX3_combined_121 : decode cX3_combined 121 = .ok (.ireturn, 1) := by decide +kernel
theorem dX3_combined_122 : decode cX3_combined 122 = .ok (.iload_n 1, 1) := by decide +kernel
theorem dX3_combined_123 : decode cX3_combined 123 = .ok (.iload_n 2, 1) := by decide +kernel
theorem dX3_combined_124 : decode cX3_combined 124 = .ok (.if_icmp .ne 7, 3) := by decide +kernel
theorem dX3_combined_127 : decode cX3_combined 127 = .ok (.iconst 1, 1) := by decide +kernel
theorem dX3_combined_128 : decode cX3_combined 128 = .ok (.goto 4, 3) := by decide +kernel
theorem dX3_combined_131 : decode cX3_combined 131 = .ok (.iconst 0, 1) := by decide +kernel
theorem dX3_combined_132 : decode cX3_combined 132 = .ok (.invokestatic 229, 3) := by decide +kernel
theorem dX3_combined_135 : decode cX3_combined 135 = .ok (.ireturn, 1) := by decide +kernel
theorem dX3_combined_136 : decode cX3_combined 136 = .ok (.iload_n 1, 1) := by decide +kernel
theorem dX3_combined_137 : decode cX3_combined 137 = .ok (.ifCond .eq 11, 3) := by decide +kernel
theorem dX3_combined_140 : decode cX3_combined 140 = .ok (.iload_n 2, 1) := by decide +kernel
theorem dX3_combined_141 : decode cX3_combined 141 = .ok (.ifCond .eq 7, 3) := by decide +kernel
theorem dX3_combined_144 : decode cX3_combined 144 = .ok (.iconst 1, 1) := by decide +kernel
theorem dX3_combined_145 : decode cX3_combined 145 = .ok (.goto 4, 3) := by decide +kernel
theorem dX3_combined_148 : decode cX3_combined 148 = .ok (.iconst 0, 1) := by decide +kernel
theorem dX3_combined_149 : decode cX3_combined 149 = .ok (.invokestatic 229, 3) := by decide +kernel
theorem dX3_combined_152 : decode cX3_combined 152 = .ok (.ireturn, 1) := by decide +kernel
theorem dX3_combined_153 : decode cX3_combined 153 = .ok (.iload_n 1, 1) := by decide +kernel
theorem dX3_combined_154 : decode cX3_combined 154 = .ok (.ifCond .ne 7, 3) := by decide +kernel
theorem dX3_combined_157 : decode cX3_combined 157 = .ok (.iload_n 2, 1) := by decide +kernel
theorem dX3_combined_158 : decode cX3_combined 158 = .ok (.ifCond .eq 7, 3) := by decide +kernel
theorem dX3_combined_161 : decode cX3_combined 161 = .ok (.iconst 1, 1) := by decide +kernel
theorem dX3_combined_162 : decode cX3_combined 162 = .ok (.goto 4, 3) := by decide +kernel
theorem dX3_combined_165 : decode cX3_combined 165 = .ok (.iconst 0, 1) := by decide +kernel
theorem dX3_combined_166 : decode cX3_combined 166 = .ok (.invokestatic 229, 3) := by decide +kernel
theorem dX3_combined_169 : decode cX3_combined 169 = .ok (.ireturn, 1) := by decide +kernel
theorem dX3_combined_170 : decode cX3_combined 170 = .ok (.iload_n 1, 1) := by decide +kernel
theorem dX3_combined_171 : decode cX3_combined 171 = .ok (.ifCond .ne 7, 3) := by decide +kernel
theorem dX3_combined_174 : decode cX3_combined 174 = .ok (.iconst 1, 1) := by decide +kernel
theorem dX3_combined_175 : decode cX3_combined 175 = .ok (.goto 4, 3) := by decide +kernel
theorem dX3_combined_178 : decode cX3_combined 178 = .ok (.iconst 0, 1) := by decide +kernel
theorem dX3_combined_179 : decode cX3_combined 179 = .ok (.invokestatic 229, 3) := by decide +kernel
theorem dX3_combined_182 : decode cX3_combined 182 = .ok (.ireturn, 1) := by decide +kernel
theorem dX3_combined_183 : decode cX3_combined 183 = .ok (.iload_n 1, 1) := by decide +kernel
theorem dX3_combined_184 : decode cX3_combined 184 = .ok (.ifCond .eq 7, 3) := by decide +kernel
theorem dX3_combined_187 : decode cX3_combined 187 = .ok (.iload_n 2, 1) := by decide +kernel
theorem dX3_combined_188 : decode cX3_combined 188 = .ok (.goto 4, 3) := by decide +kernel
theorem dX3_combined_191 : decode cX3_combined 191 = .ok (.iload_n 3, 1) := by decide +kernel
theorem dX3_combined_192 : decode cX3_combined 192 = .ok (.ireturn, 1) := by decide +kernel
theorem dX3_combined_193 : decode cX3_combined 193 = .ok (.iconst 0, 1) := by decide +kernel
theorem dX3_combined_194 : decode cX3_combined 194 = .ok (.ireturn, 1) := by decide +kernel
theorem dX3_quotient_0 : decode cX3_quotient 0 = .ok (.iload_n 1, 1) := by decide +kernel
theorem dX3_quotient_1 : decode cX3_quotient 1 = .ok (.ifCond .ne 7, 3) := by decide +kernel
theorem dX3_quotient_4 : decode cX3_quotient 4 = .ok (.iconst 0, 1) := by decide +kernel
theorem dX3_quotient_5 : decode cX3_quotient 5 = .ok (.goto 6, 3) := by decide +kernel
theorem dX3_quotient_8 : decode cX3_quotient 8 = .ok (.iload_n 0, 1) := by decide +kernel
theorem dX3_quotient_9 : decode cX3_quotient 9 = .ok (.iload_n 1, 1) := by decide +kernel
theorem dX3_quotient_10 : decode cX3_quotient 10 = .ok (.idiv, 1) := by decide +kernel
theorem dX3_quotient_11 : decode cX3_quotient 11 = .ok (.ireturn, 1) := by decide +kernel
theorem dX3_asNumber_0 : decode cX3_asNumber 0 = .ok (.iload_n 0, 1) := by decide +kernel
theorem dX3_asNumber_1 : decode cX3_asNumber 1 = .ok (.ifCond .eq 7, 3) := by decide +kernel
theorem dX3_asNumber_4 : decode cX3_asNumber 4 = .ok (.iconst 1, 1) := by decide +kernel
theorem dX3_asNumber_5 : decode cX3_asNumber 5 = .ok (.goto 4, 3) := by decide +kernel
theorem dX3_asNumber_8 : decode cX3_asNumber 8 = .ok (.iconst 0, 1) := by decide +kernel
theorem dX3_asNumber_9 : decode cX3_asNumber 9 = .ok (.ireturn, 1) := by decide +kernel
theorem dX4_init_0 : decode cX4_init 0 = .ok (.aload_n 0, 1) := by decide +kernel
theorem dX4_init_1 : decode cX4_init 1 = .ok (.invokespecial 1, 3) := by decide +kernel
theorem dX4_init_4 : decode cX4_init 4 = .ok (.aload_n 0, 1) := by decide +kernel
theorem dX4_init_5 : decode cX4_init 5 = .ok (.bipush 40, 2) := by decide +kernel
theorem dX4_init_7 : decode cX4_init 7 = .ok (.newarray .int, 2) := by decide +kernel
theorem dX4_init_9 : decode cX4_init 9 = .ok (.putfield 7, 3) := by decide +kernel
theorem dX4_init_12 : decode cX4_init 12 = .ok (.aload_n 0, 1) := by decide +kernel
theorem dX4_init_13 : decode cX4_init 13 = .ok (.bipush 40, 2) := by decide +kernel
theorem dX4_init_15 : decode cX4_init 15 = .ok (.newarray .int, 2) := by decide +kernel
theorem dX4_init_17 : decode cX4_init 17 = .ok (.putfield 13, 3) := by decide +kernel
theorem dX4_init_20 : decode cX4_init 20 = .ok (.aload_n 0, 1) := by decide +kernel
theorem dX4_init_21 : decode cX4_init 21 = .ok (.bipush 40, 2) := by decide +kernel
theorem dX4_init_23 : decode cX4_init 23 = .ok (.newarray .int, 2) := by decide +kernel
theorem dX4_init_25 : decode cX4_init 25 = .ok (.putfield 16, 3) := by decide +kernel
theorem dX4_init_28 : decode cX4_init 28 = .ok (.aload_n 0, 1) := by decide +kernel
theorem dX4_init_29 : decode cX4_init 29 = .ok (.bipush 40, 2) := by decide +kernel
theorem dX4_init_31 : decode cX4_init 31 = .ok (.newarray .int, 2) := by decide +kernel
theorem dX4_init_33 : decode cX4_init 33 = .ok (.putfield 19, 3) := by decide +kernel
theorem dX4_init_36 : decode cX4_init 36 = .ok (.aload_n 0, 1) := by decide +kernel
theorem dX4_init_37 : decode cX4_init 37 = .ok (.bipush 120, 2) := by decide +kernel
theorem dX4_init_39 : decode cX4_init 39 = .ok (.newarray .int, 2) := by decide +kernel
theorem dX4_init_41 : decode cX4_init 41 = .ok (.putfield 22, 3) := by decide +kernel
theorem dX4_init_44 : decode cX4_init 44 = .ok (.aload_n 0, 1) := by decide +kernel
theorem dX4_init_45 : decode cX4_init 45 = .ok (.bipush 40, 2) := by decide +kernel
theorem dX4_init_47 : decode cX4_init 47 = .ok (.newarray .int, 2) := by decide +kernel
theorem dX4_init_49 : decode cX4_init 49 = .ok (.putfield 25, 3) := by decide +kernel
theorem dX4_init_52 : decode cX4_init 52 = .ok (.aload_n 0, 1) := by decide +kernel
theorem dX4_init_53 : decode cX4_init 53 = .ok (.bipush 40, 2) := by decide +kernel
theorem dX4_init_55 : decode cX4_init 55 = .ok (.newarray .int, 2) := by decide +kernel
theorem dX4_init_57 : decode cX4_init 57 = .ok (.putfield 28, 3) := by decide +kernel
theorem dX4_init_60 : decode cX4_init 60 = .ok (.aload_n 0, 1) := by decide +kernel
theorem dX4_init_61 : decode cX4_init 61 = .ok (.bipush 40, 2) := by decide +kernel
theorem dX4_init_63 : decode cX4_init 63 = .ok (.newarray .int, 2) := by decide +kernel
theorem dX4_init_65 : decode cX4_init 65 = .ok (.putfield 31, 3) := by decide +kernel
theorem dX4_init_68 : decode cX4_init 68 = .ok (.aload_n 0, 1) := by decide +kernel
theorem dX4_init_69 : decode cX4_init 69 = .ok (.sipush 320, 3) := by decide +kernel
theorem dX4_init_72 : decode cX4_init 72 = .ok (.newarray .int, 2) := by decide +kernel
theorem dX4_init_74 : decode cX4_init 74 = .ok (.putfield 34, 3) := by decide +kernel
theorem dX4_init_77 : decode cX4_init 77 = .ok (.aload_n 0, 1) := by decide +kernel
theorem dX4_init_78 : decode cX4_init 78 = .ok (.bipush 40, 2) := by decide +kernel
theorem dX4_init_80 : decode cX4_init 80 = .ok (.newarray .boolean, 2) := by decide +kernel
theorem dX4_init_82 : decode cX4_init 82 = .ok (.putfield 37, 3) := by decide +kernel
theorem dX4_init_85 : decode cX4_init 85 = .ok (.aload_n 0, 1) := by decide +kernel
theorem dX4_init_86 : decode cX4_init 86 = .ok (.bipush 40, 2) := by decide +kernel
theorem dX4_init_88 : decode cX4_init 88 = .ok (.newarray .int, 2) := by decide +kernel
theorem dX4_init_90 : decode cX4_init 90 = .ok (.putfield 41, 3) := by decide +kernel
theorem dX4_init_93 : decode cX4_init 93 = .ok (.aload_n 0, 1) := by decide +kernel
theorem dX4_init_94 : decode cX4_init 94 = .ok (.bipush 10, 2) := by decide +kernel
theorem dX4_init_96 : decode cX4_init 96 = .ok (.newarray .int, 2) := by decide +kernel
theorem dX4_init_98 : decode cX4_init 98 = .ok (.putfield 44, 3) := by decide +kernel
theorem dX4_init_101 : decode cX4_init 101 = .ok (.aload_n 0, 1) := by decide +kernel
theorem dX4_init_102 : decode cX4_init 102 = .ok (.bipush 40, 2) := by decide +kernel
theorem dX4_init_104 : decode cX4_init 104 = .ok (.newarray .int, 2) := by decide +kernel
theorem dX4_init_106 : decode cX4_init 106 = .ok (.putfield 47, 3) := by decide +kernel
theorem dX4_init_109 : decode cX4_init 109 = .ok (.aload_n 0, 1) := by decide +kernel
theorem dX4_init_110 : decode cX4_init 110 = .ok (.bipush 40, 2) := by decide +kernel
theorem dX4_init_112 : decode cX4_init 112 = .ok (.newarray .boolean, 2) := by decide +kernel
theorem dX4_init_114 : decode cX4_init 114 = .ok (.putfield 50, 3) := by decide +kernel
theorem dX4_init_117 : decode cX4_init 117 = .ok (.aload_n 0, 1) := by decide +kernel
theorem dX4_init_118 : decode cX4_init 118 = .ok (.iconst 4, 1) := by decide +kernel
theorem dX4_init_119 : decode cX4_init 119 = .ok (.newarray .int, 2) := by decide +kernel
theorem dX4_init_121 : decode cX4_init 121 = .ok (.putfield 53, 3) := by decide +kernel
theorem dX4_init_124 : decode cX4_init 124 = .ok (.aload_n 0, 1) := by decide +kernel
theorem dX4_init_125 : decode cX4_init 125 = .ok (.bipush 96, 2) := by decide +kernel
theorem dX4_init_127 : decode cX4_init 127 = .ok (.newarray .int, 2) := by decide +kernel
theorem dX4_init_129 : decode cX4_init 129 = .ok (.putfield 56, 3) := by decide +kernel
theorem dX4_init_132 : decode cX4_init 132 = .ok (.aload_n 0, 1) := by decide +kernel
theorem dX4_init_133 : decode cX4_init 133 = .ok (.iconst 5, 1) := by decide +kernel
theorem dX4_init_134 : decode cX4_init 134 = .ok (.newarray .int, 2) := by decide +kernel
theorem dX4_init_136 : decode cX4_init 136 = .ok (.putfield 59, 3) := by decide +kernel
theorem dX4_init_139 : decode cX4_init 139 = .ok (.aload_n 0, 1) := by decide +kernel
theorem dX4_init_140 : decode cX4_init 140 = .ok (.sipush 800, 3) := by decide +kernel
theorem dX4_init_143 : decode cX4_init 143 = .ok (.newarray .int, 2) := by decide +kernel
theorem dX4_init_145 : decode cX4_init 145 = .ok (.putfield 62, 3) := by decide +kernel
theorem dX4_init_148 : decode cX4_init 148 = .ok (.return_, 1) := by decide +kernel
theorem dX4_thrown_0 : decode cX4_thrown 0 = .ok (.aload_n 0, 1) := by decide +kernel
theorem dX4_thrown_1 : decode cX4_thrown 1 = .ok (.getfield 65, 3) := by decide +kernel
theorem dX4_thrown_4 : decode cX4_thrown 4 = .ok (.ireturn, 1) := by decide +kernel
theorem dX4_in_0 : decode cX4_in 0 = .ok (.iload_n 0, 1) := by decide +kernel
theorem dX4_in_1 : decode cX4_in 1 = .ok (.iload_n 1, 1) := by decide +kernel
theorem dX4_in_2 : decode cX4_in 2 = .ok (.if_icmp .lt 12, 3) := by decide +kernel
theorem dX4_in_5 : decode cX4_in 5 = .ok (.iload_n 0, 1) := by decide +kernel
theorem dX4_in_6 : decode cX4_in 6 = .ok (.iload_n 2, 1) := by decide +kernel
theorem dX4_in_7 : decode cX4_in 7 = .ok (.if_icmp .gt 7, 3) := by decide +kernel
theorem dX4_in_10 : decode cX4_in 10 = .ok (.iconst 1, 1) := by decide +kernel
theorem dX4_in_11 : decode cX4_in 11 = .ok (.goto 4, 3) := by decide +kernel
theorem dX4_in_14 : decode cX4_in 14 = .ok (.iconst 0, 1) := by decide +kernel
theorem dX4_in_15 : decode cX4_in 15 = .ok (.ireturn, 1) := by decide +kernel
set_option maxRecDepth 20000 in
theorem ggX4_isBlock_X4_in : GoodIn wsX4_isBlock wsX4_in := goodIn_r _ [5] (by decide +kernel) (by decide +kernel)
set_option maxRecDepth 20000 in
theorem gX4_isBlock_X4_in : GoodIn wsX4_isBlock (va_wsS RX4 72 yX4_in wsX4_in) := goodIn_app (goodIn_of _ (by decide +kernel)) ggX4_isBlock_X4_in
theorem dX4_isBlock_0 : decode cX4_isBlock 0 = .ok (.iload_n 1, 1) := by decide +kernel
theorem dX4_isBlock_1 : decode cX4_isBlock 1 = .ok (.iconst 0, 1) := by decide +kernel
theorem dX4_isBlock_2 : decode cX4_isBlock 2 = .ok (.aload_n 0, 1) := by decide +kernel
theorem dX4_isBlock_3 : decode cX4_isBlock 3 = .ok (.getfield 69, 3) := by decide +kernel
theorem dX4_isBlock_6 : decode cX4_isBlock 6 = .ok (.iconst 1, 1) := by decide +kernel
theorem dX4_isBlock_7 : decode cX4_isBlock 7 = .ok (.isub, 1) := by decide +kernel
theorem dX4_isBlock_8 : decode cX4_isBlock 8 = .ok (.invokestatic 72, 3) := by decide +kernel
theorem dX4_isBlock_11 : decode cX4_isBlock 11 = .ok (.ireturn, 1) := by decide +kernel
set_option maxRecDepth 20000 in
theorem ggX4_block_X4_in : GoodIn wsX4_block wsX4_in := goodIn_r _ [8] (by decide +kernel) (by decide +kernel)
set_option maxRecDepth 20000 in
theorem gX4_block_X4_in : GoodIn wsX4_block (va_wsS RX4 72 yX4_in wsX4_in) := goodIn_app (goodIn_of _ (by decide +kernel)) ggX4_block_X4_in
theorem dX4_block_0 : decode cX4_block 0 = .ok (.aload_n 0, 1) := by decide +kernel
theorem dX4_block_1 : decode cX4_block 1 = .ok (.iload_n 1, 1) := by decide +kernel
theorem dX4_block_2 : decode cX4_block 2 = .ok (.iconst 0, 1) := by decide +kernel
theorem dX4_block_3 : decode cX4_block 3 = .ok (.bipush 25, 2) := by decide +kernel
theorem dX4_block_5 : decode cX4_block 5 = .ok (.invokestatic 72, 3) := by decide +kernel
theorem dX4_block_8 : decode cX4_block 8 = .ok (.ifCond .ne 7, 3) := by decide +kernel
theorem dX4_block_11 : decode cX4_block 11 = .ok (.iconst 1, 1) := by decide +kernel
theorem dX4_block_12 : decode cX4_block 12 = .ok (.goto 17, 3) := by decide +kernel
theorem dX4_block_15 : decode cX4_block 15 = .ok (.aload_n 0, 1) := by decide +kernel
theorem dX4_block_16 : decode cX4_block 16 = .ok (.getfield 69, 3) := by decide +kernel
theorem dX4_block_19 : decode cX4_block 19 = .ok (.bipush 40, 2) := by decide +kernel
theorem dX4_block_21 : decode cX4_block 21 = .ok (.if_icmp .ne 7, 3) := by decide +kernel
theorem dX4_block_24 : decode cX4_block 24 = .ok (.iconst 2, 1) := by decide +kernel
theorem dX4_block_25 : decode cX4_block 25 = .ok (.goto 4, 3) := by decide +kernel
theorem dX4_block_28 : decode cX4_block 28 = .ok (.iconst 0, 1) := by decide +kernel
theorem dX4_block_29 : decode cX4_block 29 = .ok (.putfield 65, 3) := by decide +kernel
theorem dX4_block_32 : decode cX4_block 32 = .ok (.aload_n 0, 1) := by decide +kernel
theorem dX4_block_33 : decode cX4_block 33 = .ok (.getfield 65, 3) := by decide +kernel
theorem dX4_block_36 : decode cX4_block 36 = .ok (.ifCond .le 5, 3) := by decide +kernel
theorem dX4_block_39 : decode cX4_block 39 = .ok (.iconst 0, 1) := by decide +kernel
theorem dX4_block_40 : decode cX4_block 40 = .ok (.ireturn, 1) := by decide +kernel
theorem dX4_block_41 : decode cX4_block 41 = .ok (.aload_n 0, 1) := by decide +kernel
theorem dX4_block_42 : decode cX4_block 42 = .ok (.getfield 7, 3) := by decide +kernel
theorem dX4_block_45 : decode cX4_block 45 = .ok (.aload_n 0, 1) := by decide +kernel
theorem dX4_block_46 : decode cX4_block 46 = .ok (.getfield 69, 3) := by decide +kernel
theorem dX4_block_49 : decode cX4_block 49 = .ok (.iload_n 1, 1) := by decide +kernel
theorem dX4_block_50 : decode cX4_block 50 = .ok (.iastore, 1) := by decide +kernel
theorem dX4_block_51 : decode cX4_block 51 = .ok (.iconst 0, 1) := by decide +kernel
theorem dX4_block_52 : decode cX4_block 52 = .ok (.istore_n 2, 1) := by decide +kernel
theorem dX4_block_53 : decode cX4_block 53 = .ok (.iload_n 2, 1) := by decide +kernel
theorem dX4_block_54 : decode cX4_block 54 = .ok (.iconst 3, 1) := by decide +kernel
theorem dX4_block_55 : decode cX4_block 55 = .ok (.if_icmp .ge 23, 3) := by decide +kernel
theorem dX4_block_58 : decode cX4_block 58 = .ok (.aload_n 0, 1) := by decide +kernel
theorem dX4_block_59 : decode cX4_block 59 = .ok (.getfield 22, 3) := by decide +kernel
theorem dX4_block_62 : decode cX4_block 62 = .ok (.iconst 3, 1) := by decide +kernel
theorem dX4_block_63 : decode cX4_block 63 = .ok (.aload_n 0, 1) := by decide +kernel
theorem dX4_block_64 : decode cX4_block 64 = .ok (.getfield 69, 3) := by decide +kernel
theorem dX4_block_67 : decode cX4_block 67 = .ok (.imul, 1) := by decide +kernel
theorem dX4_block_68 : decode cX4_block 68 = .ok (.iload_n 2, 1) := by decide +kernel
theorem dX4_block_69 : decode cX4_block 69 = .ok (.iadd, 1) := by decide +kernel
theorem dX4_block_70 : decode cX4_block 70 = .ok (.iconst (-1), 1) := by decide +kernel
theorem dX4_block_71 : decode cX4_block 71 = .ok (.iastore, 1) := by decide +kernel
theorem dX4_block_72 : decode cX4_block 72 = .ok (.iinc 2 1, 3) := by decide +kernel
theorem dX4_block_75 : decode cX4_block 75 = .ok (.goto (-22), 3) := by decide +kernel
theorem dX4_block_78 : decode cX4_block 78 = .ok (.aload_n 0, 1) := by decide +kernel
theorem dX4_block_79 : decode cX4_block 79 = .ok (.dup, 1) := by decide +kernel
theorem dX4_block_80 : decode cX4_block 80 = .ok (.getfield 69, 3) := by decide +kernel
theorem dX4_block_83 : decode cX4_block 83 = .ok (.iconst 1, 1) := by decide +kernel
theorem dX4_block_84 : decode cX4_block 84 = .ok (.iadd, 1) := by decide +kernel
theorem dX4_block_85 : decode cX4_block 85 = .ok (.putfield 69, 3) := by decide +kernel
theorem dX4_block_88 : decode cX4_block 88 = .ok (.aload_n 0, 1) := by decide +kernel
theorem dX4_block_89 : decode cX4_block 89 = .ok (.getfield 69, 3) := by decide +kernel
theorem dX4_block_92 : decode cX4_block 92 = .ok (.iconst 1, 1) := by decide +kernel
theorem dX4_block_93 : decode cX4_block 93 = .ok (.isub, 1) := by decide +kernel
theorem dX4_block_94 : decode cX4_block 94 = .ok (.ireturn, 1) := by decide +kernel
set_option maxRecDepth 20000 in
theorem ggX4_wire_X4_isBlock : GoodIn wsX4_wire wsX4_isBlock := goodIn_r _ [7, 8, 9, 10, 6, 11, 12, 13, 14, 15, 16, 17, 18, 19, 20, 21, 22, 23, 24, 25, 26, 27, 28, 29, 30, 31, 32, 33, 34, 35, 36] (by decide +kernel) (by decide +kernel)
set_option maxRecDepth 20000 in
theorem gX4_wire_X4_isBlock : GoodIn wsX4_wire (wsV RX4 76 RX4 yX4_isBlock wsX4_isBlock) := goodIn_app (goodIn_of _ (by decide +kernel)) ggX4_wire_X4_isBlock
set_option maxRecDepth 20000 in
theorem ggX4_wire_X4_in : GoodIn wsX4_wire wsX4_in := goodIn_r _ [11] (by decide +kernel) (by decide +kernel)
set_option maxRecDepth 20000 in
theorem gX4_wire_X4_in : GoodIn wsX4_wire (va_wsS RX4 72 yX4_in wsX4_in) := goodIn_app (goodIn_of _ (by decide +kernel)) ggX4_wire_X4_in
