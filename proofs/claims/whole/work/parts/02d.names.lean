theorem dX4_wire_0 : decode cX4_wire 0 = .ok (.aload_n 0, 1) := by decide +kernel
theorem dX4_wire_1 : decode cX4_wire 1 = .ok (.aload_n 0, 1) := by decide +kernel
theorem dX4_wire_2 : decode cX4_wire 2 = .ok (.iload_n 1, 1) := by decide +kernel
theorem dX4_wire_3 : decode cX4_wire 3 = .ok (.invokevirtual 76, 3) := by decide +kernel
theorem dX4_wire_6 : decode cX4_wire 6 = .ok (.ifCond .eq 29, 3) := by decide +kernel
theorem dX4_wire_9 : decode cX4_wire 9 = .ok (.iload_n 2, 1) := by decide +kernel
theorem dX4_wire_10 : decode cX4_wire 10 = .ok (.iconst 0, 1) := by decide +kernel
theorem dX4_wire_11 : decode cX4_wire 11 = .ok (.iconst 2, 1) := by decide +kernel
theorem dX4_wire_12 : decode cX4_wire 12 = .ok (.invokestatic 72, 3) := by decide +kernel
theorem dX4_wire_15 : decode cX4_wire 15 = .ok (.ifCond .eq 20, 3) := by decide +kernel
theorem dX4_wire_18 : decode cX4_wire 18 = .ok (.iload_n 3, 1) := by decide +kernel
theorem dX4_wire_19 : decode cX4_wire 19 = .ok (.iconst (-1), 1) := by decide +kernel
theorem dX4_wire_20 : decode cX4_wire 20 = .ok (.if_icmp .eq 11, 3) := by decide +kernel
theorem dX4_wire_23 : decode cX4_wire 23 = .ok (.aload_n 0, 1) := by decide +kernel
theorem dX4_wire_24 : decode cX4_wire 24 = .ok (.iload_n 3, 1) := by decide +kernel
theorem dX4_wire_25 : decode cX4_wire 25 = .ok (.invokevirtual 76, 3) := by decide +kernel
theorem dX4_wire_28 : decode cX4_wire 28 = .ok (.ifCond .eq 7, 3) := by decide +kernel
theorem dX4_wire_31 : decode cX4_wire 31 = .ok (.iconst 0, 1) := by decide +kernel
theorem dX4_wire_32 : decode cX4_wire 32 = .ok (.goto 4, 3) := by decide +kernel
theorem dX4_wire_35 : decode cX4_wire 35 = .ok (.iconst 1, 1) := by decide +kernel
theorem dX4_wire_36 : decode cX4_wire 36 = .ok (.putfield 65, 3) := by decide +kernel
theorem dX4_wire_39 : decode cX4_wire 39 = .ok (.aload_n 0, 1) := by decide +kernel
theorem dX4_wire_40 : decode cX4_wire 40 = .ok (.getfield 65, 3) := by decide +kernel
theorem dX4_wire_43 : decode cX4_wire 43 = .ok (.ifCond .le 5, 3) := by decide +kernel
theorem dX4_wire_46 : decode cX4_wire 46 = .ok (.iconst 0, 1) := by decide +kernel
theorem dX4_wire_47 : decode cX4_wire 47 = .ok (.ireturn, 1) := by decide +kernel
theorem dX4_wire_48 : decode cX4_wire 48 = .ok (.aload_n 0, 1) := by decide +kernel
theorem dX4_wire_49 : decode cX4_wire 49 = .ok (.getfield 22, 3) := by decide +kernel
theorem dX4_wire_52 : decode cX4_wire 52 = .ok (.iconst 3, 1) := by decide +kernel
theorem dX4_wire_53 : decode cX4_wire 53 = .ok (.iload_n 1, 1) := by decide +kernel
theorem dX4_wire_54 : decode cX4_wire 54 = .ok (.imul, 1) := by decide +kernel
theorem dX4_wire_55 : decode cX4_wire 55 = .ok (.iload_n 2, 1) := by decide +kernel
theorem dX4_wire_56 : decode cX4_wire 56 = .ok (.iadd, 1) := by decide +kernel
theorem dX4_wire_57 : decode cX4_wire 57 = .ok (.iaload, 1) := by decide +kernel
theorem dX4_wire_58 : decode cX4_wire 58 = .ok (.istore 4, 2) := by decide +kernel
theorem dX4_wire_60 : decode cX4_wire 60 = .ok (.aload_n 0, 1) := by decide +kernel
theorem dX4_wire_61 : decode cX4_wire 61 = .ok (.getfield 22, 3) := by decide +kernel
theorem dX4_wire_64 : decode cX4_wire 64 = .ok (.iconst 3, 1) := by decide +kernel
theorem dX4_wire_65 : decode cX4_wire 65 = .ok (.iload_n 1, 1) := by decide +kernel
theorem dX4_wire_66 : decode cX4_wire 66 = .ok (.imul, 1) := by decide +kernel
theorem dX4_wire_67 : decode cX4_wire 67 = .ok (.iload_n 2, 1) := by decide +kernel
theorem dX4_wire_68 : decode cX4_wire 68 = .ok (.iadd, 1) := by decide +kernel
theorem dX4_wire_69 : decode cX4_wire 69 = .ok (.iload_n 3, 1) := by decide +kernel
theorem dX4_wire_70 : decode cX4_wire 70 = .ok (.iastore, 1) := by decide +kernel
theorem dX4_wire_71 : decode cX4_wire 71 = .ok (.iload 4, 2) := by decide +kernel
theorem dX4_wire_73 : decode cX4_wire 73 = .ok (.ireturn, 1) := by decide +kernel
set_option maxRecDepth 20000 in
theorem ggX4_numbers_X4_isBlock : GoodIn wsX4_numbers wsX4_isBlock := goodIn_r _ [8, 9, 10, 11, 7, 12, 13, 14, 15, 16, 17, 18, 19, 20, 21, 22, 23, 24, 25, 26, 27, 28, 29, 30, 31, 32, 33, 34, 35, 36, 37] (by decide +kernel) (by decide +kernel)
set_option maxRecDepth 20000 in
theorem gX4_numbers_X4_isBlock : GoodIn wsX4_numbers (wsV RX4 76 RX4 yX4_isBlock wsX4_isBlock) := goodIn_app (goodIn_of _ (by decide +kernel)) ggX4_numbers_X4_isBlock
theorem dX4_numbers_0 : decode cX4_numbers 0 = .ok (.aload_n 0, 1) := by decide +kernel
theorem dX4_numbers_1 : decode cX4_numbers 1 = .ok (.aload_n 0, 1) := by decide +kernel
theorem dX4_numbers_2 : decode cX4_numbers 2 = .ok (.iload_n 1, 1) := by decide +kernel
theorem dX4_numbers_3 : decode cX4_numbers 3 = .ok (.invokevirtual 76, 3) := by decide +kernel
theorem dX4_numbers_6 : decode cX4_numbers 6 = .ok (.ifCond .eq 7, 3) := by decide +kernel
theorem dX4_numbers_9 : decode cX4_numbers 9 = .ok (.iconst 0, 1) := by decide +kernel
theorem dX4_numbers_10 : decode cX4_numbers 10 = .ok (.goto 4, 3) := by decide +kernel
theorem dX4_numbers_13 : decode cX4_numbers 13 = .ok (.iconst 1, 1) := by decide +kernel
theorem dX4_numbers_14 : decode cX4_numbers 14 = .ok (.putfield 65, 3) := by decide +kernel
theorem dX4_numbers_17 : decode cX4_numbers 17 = .ok (.aload_n 0, 1) := by decide +kernel
theorem dX4_numbers_18 : decode cX4_numbers 18 = .ok (.getfield 65, 3) := by decide +kernel
theorem dX4_numbers_21 : decode cX4_numbers 21 = .ok (.ifCond .ne 17, 3) := by decide +kernel
theorem dX4_numbers_24 : decode cX4_numbers 24 = .ok (.aload_n 0, 1) := by decide +kernel
theorem dX4_numbers_25 : decode cX4_numbers 25 = .ok (.getfield 13, 3) := by decide +kernel
theorem dX4_numbers_28 : decode cX4_numbers 28 = .ok (.iload_n 1, 1) := by decide +kernel
theorem dX4_numbers_29 : decode cX4_numbers 29 = .ok (.iload_n 2, 1) := by decide +kernel
theorem dX4_numbers_30 : decode cX4_numbers 30 = .ok (.iastore, 1) := by decide +kernel
theorem dX4_numbers_31 : decode cX4_numbers 31 = .ok (.aload_n 0, 1) := by decide +kernel
theorem dX4_numbers_32 : decode cX4_numbers 32 = .ok (.getfield 16, 3) := by decide +kernel
theorem dX4_numbers_35 : decode cX4_numbers 35 = .ok (.iload_n 1, 1) := by decide +kernel
theorem dX4_numbers_36 : decode cX4_numbers 36 = .ok (.iload_n 3, 1) := by decide +kernel
theorem dX4_numbers_37 : decode cX4_numbers 37 = .ok (.iastore, 1) := by decide +kernel
theorem dX4_numbers_38 : decode cX4_numbers 38 = .ok (.return_, 1) := by decide +kernel
set_option maxRecDepth 20000 in
theorem ggX4_row_X4_isBlock : GoodIn wsX4_row wsX4_isBlock := goodIn_r _ [8, 9, 10, 11, 7, 12, 13, 14, 15, 16, 17, 18, 19, 20, 21, 22, 23, 24, 25, 26, 27, 28, 29, 30, 31, 32, 33, 34, 35, 36, 37] (by decide +kernel) (by decide +kernel)
set_option maxRecDepth 20000 in
theorem gX4_row_X4_isBlock : GoodIn wsX4_row (wsV RX4 76 RX4 yX4_isBlock wsX4_isBlock) := goodIn_app (goodIn_of _ (by decide +kernel)) ggX4_row_X4_isBlock
set_option maxRecDepth 20000 in
theorem ggX4_row_X4_in : GoodIn wsX4_row wsX4_in := goodIn_r _ [12] (by decide +kernel) (by decide +kernel)
set_option maxRecDepth 20000 in
theorem gX4_row_X4_in : GoodIn wsX4_row (va_wsS RX4 72 yX4_in wsX4_in) := goodIn_app (goodIn_of _ (by decide +kernel)) ggX4_row_X4_in
theorem dX4_row_0 : decode cX4_row 0 = .ok (.aload_n 0, 1) := by decide +kernel
theorem dX4_row_1 : decode cX4_row 1 = .ok (.aload_n 0, 1) := by decide +kernel
theorem dX4_row_2 : decode cX4_row 2 = .ok (.iload_n 1, 1) := by decide +kernel
theorem dX4_row_3 : decode cX4_row 3 = .ok (.invokevirtual 76, 3) := by decide +kernel
theorem dX4_row_6 : decode cX4_row 6 = .ok (.ifCond .eq 13, 3) := by decide +kernel
theorem dX4_row_9 : decode cX4_row 9 = .ok (.iload_n 2, 1) := by decide +kernel
theorem dX4_row_10 : decode cX4_row 10 = .ok (.iconst 0, 1) := by decide +kernel
theorem dX4_row_11 : decode cX4_row 11 = .ok (.bipush 7, 2) := by decide +kernel
theorem dX4_row_13 : decode cX4_row 13 = .ok (.invokestatic 72, 3) := by decide +kernel
theorem dX4_row_16 : decode cX4_row 16 = .ok (.ifCond .ne 7, 3) := by decide +kernel
theorem dX4_row_19 : decode cX4_row 19 = .ok (.iconst 1, 1) := by decide +kernel
theorem dX4_row_20 : decode cX4_row 20 = .ok (.goto 19, 3) := by decide +kernel
theorem dX4_row_23 : decode cX4_row 23 = .ok (.aload_n 0, 1) := by decide +kernel
theorem dX4_row_24 : decode cX4_row 24 = .ok (.getfield 7, 3) := by decide +kernel
theorem dX4_row_27 : decode cX4_row 27 = .ok (.iload_n 1, 1) := by decide +kernel
theorem dX4_row_28 : decode cX4_row 28 = .ok (.iaload, 1) := by decide +kernel
theorem dX4_row_29 : decode cX4_row 29 = .ok (.bipush 15, 2) := by decide +kernel
theorem dX4_row_31 : decode cX4_row 31 = .ok (.if_icmp .eq 7, 3) := by decide +kernel
theorem dX4_row_34 : decode cX4_row 34 = .ok (.iconst 2, 1) := by decide +kernel
theorem dX4_row_35 : decode cX4_row 35 = .ok (.goto 4, 3) := by decide +kernel
theorem dX4_row_38 : decode cX4_row 38 = .ok (.iconst 0, 1) := by decide +kernel
theorem dX4_row_39 : decode cX4_row 39 = .ok (.putfield 65, 3) := by decide +kernel
theorem dX4_row_42 : decode cX4_row 42 = .ok (.aload_n 0, 1) := by decide +kernel
theorem dX4_row_43 : decode cX4_row 43 = .ok (.getfield 65, 3) := by decide +kernel
theorem dX4_row_46 : decode cX4_row 46 = .ok (.ifCond .le 5, 3) := by decide +kernel
theorem dX4_row_49 : decode cX4_row 49 = .ok (.iconst 0, 1) := by decide +kernel
theorem dX4_row_50 : decode cX4_row 50 = .ok (.ireturn, 1) := by decide +kernel
theorem dX4_row_51 : decode cX4_row 51 = .ok (.aload_n 0, 1) := by decide +kernel
theorem dX4_row_52 : decode cX4_row 52 = .ok (.getfield 34, 3) := by decide +kernel
theorem dX4_row_55 : decode cX4_row 55 = .ok (.bipush 8, 2) := by decide +kernel
theorem dX4_row_57 : decode cX4_row 57 = .ok (.iload_n 1, 1) := by decide +kernel
theorem dX4_row_58 : decode cX4_row 58 = .ok (.imul, 1) := by decide +kernel
theorem dX4_row_59 : decode cX4_row 59 = .ok (.iload_n 2, 1) := by decide +kernel
theorem dX4_row_60 : decode cX4_row 60 = .ok (.iadd, 1) := by decide +kernel
theorem dX4_row_61 : decode cX4_row 61 = .ok (.iaload, 1) := by decide +kernel
theorem dX4_row_62 : decode cX4_row 62 = .ok (.istore 4, 2) := by decide +kernel
theorem dX4_row_64 : decode cX4_row 64 = .ok (.aload_n 0, 1) := by decide +kernel
theorem dX4_row_65 : decode cX4_row 65 = .ok (.getfield 34, 3) := by decide +kernel
theorem dX4_row_68 : decode cX4_row 68 = .ok (.bipush 8, 2) := by decide +kernel
theorem dX4_row_70 : decode cX4_row 70 = .ok (.iload_n 1, 1) := by decide +kernel
theorem dX4_row_71 : decode cX4_row 71 = .ok (.imul, 1) := by decide +kernel
theorem dX4_row_72 : decode cX4_row 72 = .ok (.iload_n 2, 1) := by decide +kernel
theorem dX4_row_73 : decode cX4_row 73 = .ok (.iadd, 1) := by decide +kernel
theorem dX4_row_74 : decode cX4_row 74 = .ok (.iload_n 3, 1) := by decide +kernel
theorem dX4_row_75 : decode cX4_row 75 = .ok (.iastore, 1) := by decide +kernel
theorem dX4_row_76 : decode cX4_row 76 = .ok (.iload 4, 2) := by decide +kernel
theorem dX4_row_78 : decode cX4_row 78 = .ok (.ireturn, 1) := by decide +kernel
set_option maxRecDepth 20000 in
theorem ggX4_safe_X4_isBlock : GoodIn wsX4_safe wsX4_isBlock := goodIn_r _ [7, 8, 9, 10, 6, 11, 12, 13, 14, 15, 16, 17, 18, 19, 20, 21, 22, 23, 24, 25, 26, 27, 28, 29, 30, 31, 32, 33, 34, 35, 36] (by decide +kernel) (by decide +kernel)
set_option maxRecDepth 20000 in
theorem gX4_safe_X4_isBlock : GoodIn wsX4_safe (wsV RX4 76 RX4 yX4_isBlock wsX4_isBlock) := goodIn_app (goodIn_of _ (by decide +kernel)) ggX4_safe_X4_isBlock
theorem dX4_safe_0 : decode cX4_safe 0 = .ok (.aload_n 0, 1) := by decide +kernel
theorem dX4_safe_1 : decode cX4_safe 1 = .ok (.aload_n 0, 1) := by decide +kernel
theorem dX4_safe_2 : decode cX4_safe 2 = .ok (.iload_n 1, 1) := by decide +kernel
theorem dX4_safe_3 : decode cX4_safe 3 = .ok (.invokevirtual 76, 3) := by decide +kernel
theorem dX4_safe_6 : decode cX4_safe 6 = .ok (.ifCond .eq 7, 3) := by decide +kernel
theorem dX4_safe_9 : decode cX4_safe 9 = .ok (.iconst 0, 1) := by decide +kernel
theorem dX4_safe_10 : decode cX4_safe 10 = .ok (.goto 4, 3) := by decide +kernel
theorem dX4_safe_13 : decode cX4_safe 13 = .ok (.iconst 1, 1) := by decide +kernel
theorem dX4_safe_14 : decode cX4_safe 14 = .ok (.putfield 65, 3) := by decide +kernel
theorem dX4_safe_17 : decode cX4_safe 17 = .ok (.aload_n 0, 1) := by decide +kernel
theorem dX4_safe_18 : decode cX4_safe 18 = .ok (.getfield 65, 3) := by decide +kernel
theorem dX4_safe_21 : decode cX4_safe 21 = .ok (.ifCond .le 5, 3) := by decide +kernel
theorem dX4_safe_24 : decode cX4_safe 24 = .ok (.iconst 0, 1) := by decide +kernel
theorem dX4_safe_25 : decode cX4_safe 25 = .ok (.ireturn, 1) := by decide +kernel
theorem dX4_safe_26 : decode cX4_safe 26 = .ok (.aload_n 0, 1) := by decide +kernel
theorem dX4_safe_27 : decode cX4_safe 27 = .ok (.getfield 19, 3) := by decide +kernel
theorem dX4_safe_30 : decode cX4_safe 30 = .ok (.iload_n 1, 1) := by decide +kernel
theorem dX4_safe_31 : decode cX4_safe 31 = .ok (.iaload, 1) := by decide +kernel
theorem dX4_safe_32 : decode cX4_safe 32 = .ok (.istore_n 3, 1) := by decide +kernel
theorem dX4_safe_33 : decode cX4_safe 33 = .ok (.aload_n 0, 1) := by decide +kernel
theorem dX4_safe_34 : decode cX4_safe 34 = .ok (.getfield 19, 3) := by decide +kernel
theorem dX4_safe_37 : decode cX4_safe 37 = .ok (.iload_n 1, 1) := by decide +kernel
theorem dX4_safe_38 : decode cX4_safe 38 = .ok (.iload_n 2, 1) := by decide +kernel
theorem dX4_safe_39 : decode cX4_safe 39 = .ok (.iastore, 1) := by decide +kernel
theorem dX4_safe_40 : decode cX4_safe 40 = .ok (.iload_n 3, 1) := by decide +kernel
theorem dX4_safe_41 : decode cX4_safe 41 = .ok (.ireturn, 1) := by decide +kernel
set_option maxRecDepth 20000 in
theorem ggX4_point_X4_in : GoodIn wsX4_point wsX4_in := goodIn_r _ [6] (by decide +kernel) (by decide +kernel)
set_option maxRecDepth 20000 in
theorem gX4_point_X4_in : GoodIn wsX4_point (va_wsS RX4 72 yX4_in wsX4_in) := goodIn_app (goodIn_of _ (by decide +kernel)) ggX4_point_X4_in
theorem dX4_point_0 : decode cX4_point 0 = .ok (.aload_n 0, 1) := by decide +kernel
theorem dX4_point_1 : decode cX4_point 1 = .ok (.iload_n 1, 1) := by decide +kernel
theorem dX4_point_2 : decode cX4_point 2 = .ok (.iconst 0, 1) := by decide +kernel
theorem dX4_point_3 : decode cX4_point 3 = .ok (.bipush 9, 2) := by decide +kernel
theorem dX4_point_5 : decode cX4_point 5 = .ok (.invokestatic 72, 3) := by decide +kernel
theorem dX4_point_8 : decode cX4_point 8 = .ok (.ifCond .eq 7, 3) := by decide +kernel
theorem dX4_point_11 : decode cX4_point 11 = .ok (.iconst 0, 1) := by decide +kernel
theorem dX4_point_12 : decode cX4_point 12 = .ok (.goto 4, 3) := by decide +kernel
theorem dX4_point_15 : decode cX4_point 15 = .ok (.iconst 1, 1) := by decide +kernel
theorem dX4_point_16 : decode cX4_point 16 = .ok (.putfield 65, 3) := by decide +kernel
theorem dX4_point_19 : decode cX4_point 19 = .ok (.aload_n 0, 1) := by decide +kernel
theorem dX4_point_20 : decode cX4_point 20 = .ok (.getfield 65, 3) := by decide +kernel
theorem dX4_point_23 : decode cX4_point 23 = .ok (.ifCond .le 5, 3) := by decide +kernel
theorem dX4_point_26 : decode cX4_point 26 = .ok (.iconst 0, 1) := by decide +kernel
theorem dX4_point_27 : decode cX4_point 27 = .ok (.ireturn, 1) := by decide +kernel
theorem dX4_point_28 : decode cX4_point 28 = .ok (.aload_n 0, 1) := by decide +kernel
theorem dX4_point_29 : decode cX4_point 29 = .ok (.getfield 44, 3) := by decide +kernel
theorem dX4_point_32 : decode cX4_point 32 = .ok (.iload_n 1, 1) := by decide +kernel
theorem dX4_point_33 : decode cX4_point 33 = .ok (.iaload, 1) := by decide +kernel
theorem dX4_point_34 : decode cX4_point 34 = .ok (.istore_n 3, 1) := by decide +kernel
theorem dX4_point_35 : decode cX4_point 35 = .ok (.aload_n 0, 1) := by decide +kernel
theorem dX4_point_36 : decode cX4_point 36 = .ok (.getfield 44, 3) := by decide +kernel
theorem dX4_point_39 : decode cX4_point 39 = .ok (.iload_n 1, 1) := by decide +kernel
theorem dX4_point_40 : decode cX4_point 40 = .ok (.iload_n 2, 1) := by decide +kernel
theorem dX4_point_41 : decode cX4_point 41 = .ok (.iastore, 1) := by decide +kernel
theorem dX4_point_42 : decode cX4_point 42 = .ok (.iload_n 3, 1) := by decide +kernel
theorem dX4_point_43 : decode cX4_point 43 = .ok (.ireturn, 1) := by decide +kernel
set_option maxRecDepth 20000 in
theorem ggX4_hand_X4_isBlock : GoodIn wsX4_hand wsX4_isBlock := goodIn_r _ [8, 9, 10, 11, 7, 12, 13, 14, 15, 16, 17, 18, 19, 20, 21, 22, 23, 24, 25, 26, 27, 28, 29, 30, 31, 32, 33, 34, 35, 36, 37] (by decide +kernel) (by decide +kernel)
set_option maxRecDepth 20000 in
theorem gX4_hand_X4_isBlock : GoodIn wsX4_hand (wsV RX4 76 RX4 yX4_isBlock wsX4_isBlock) := goodIn_app (goodIn_of _ (by decide +kernel)) ggX4_hand_X4_isBlock
theorem dX4_hand_0 : decode cX4_hand 0 = .ok (.aload_n 0, 1) := by decide +kernel
theorem dX4_hand_1 : decode cX4_hand 1 = .ok (.aload_n 0, 1) := by decide +kernel
theorem dX4_hand_2 : decode cX4_hand 2 = .ok (.iload_n 1, 1) := by decide +kernel
theorem dX4_hand_3 : decode cX4_hand 3 = .ok (.invokevirtual 76, 3) := by decide +kernel
theorem dX4_hand_6 : decode cX4_hand 6 = .ok (.ifCond .eq 7, 3) := by decide +kernel
theorem dX4_hand_9 : decode cX4_hand 9 = .ok (.iconst 0, 1) := by decide +kernel
theorem dX4_hand_10 : decode cX4_hand 10 = .ok (.goto 4, 3) := by decide +kernel
theorem dX4_hand_13 : decode cX4_hand 13 = .ok (.iconst 1, 1) := by decide +kernel
theorem dX4_hand_14 : decode cX4_hand 14 = .ok (.putfield 65, 3) := by decide +kernel
theorem dX4_hand_17 : decode cX4_hand 17 = .ok (.aload_n 0, 1) := by decide +kernel
theorem dX4_hand_18 : decode cX4_hand 18 = .ok (.getfield 65, 3) := by decide +kernel
theorem dX4_hand_21 : decode cX4_hand 21 = .ok (.ifCond .le 5, 3) := by decide +kernel
theorem dX4_hand_24 : decode cX4_hand 24 = .ok (.iconst 0, 1) := by decide +kernel
theorem dX4_hand_25 : decode cX4_hand 25 = .ok (.ireturn, 1) := by decide +kernel
theorem dX4_hand_26 : decode cX4_hand 26 = .ok (.aload_n 0, 1) := by decide +kernel
theorem dX4_hand_27 : decode cX4_hand 27 = .ok (.getfield 37, 3) := by decide +kernel
theorem dX4_hand_30 : decode cX4_hand 30 = .ok (.iload_n 1, 1) := by decide +kernel
theorem dX4_hand_31 : decode cX4_hand 31 = .ok (.baload, 1) := by decide +kernel
theorem dX4_hand_32 : decode cX4_hand 32 = .ok (.istore 4, 2) := by decide +kernel
theorem dX4_hand_34 : decode cX4_hand 34 = .ok (.aload_n 0, 1) := by decide +kernel
theorem dX4_hand_35 : decode cX4_hand 35 = .ok (.getfield 37, 3) := by decide +kernel
theorem dX4_hand_38 : decode cX4_hand 38 = .ok (.iload_n 1, 1) := by decide +kernel
theorem dX4_hand_39 : decode cX4_hand 39 = .ok (.iload_n 2, 1) := by decide +kernel
theorem dX4_hand_40 : decode cX4_hand 40 = .ok (.bastore, 1) := by decide +kernel
theorem dX4_hand_41 : decode cX4_hand 41 = .ok (.aload_n 0, 1) := by decide +kernel
theorem dX4_hand_42 : decode cX4_hand 42 = .ok (.getfield 41, 3) := by decide +kernel
theorem dX4_hand_45 : decode cX4_hand 45 = .ok (.iload_n 1, 1) := by decide +kernel
theorem dX4_hand_46 : decode cX4_hand 46 = .ok (.iload_n 3, 1) := by decide +kernel
theorem dX4_hand_47 : decode cX4_hand 47 = .ok (.iastore, 1) := by decide +kernel
theorem dX4_hand_48 : decode cX4_hand 48 = .ok (.iload 4, 2) := by decide +kernel
theorem dX4_hand_50 : decode cX4_hand 50 = .ok (.ireturn, 1) := by decide +kernel
set_option maxRecDepth 20000 in
theorem ggX4_become_X4_isBlock : GoodIn wsX4_become wsX4_isBlock := goodIn_r _ [10, 11, 12, 13, 9, 14, 15, 16, 17, 18, 19, 20, 21, 22, 23, 24, 25, 26, 27, 28, 29, 30, 31, 32, 33, 34, 35, 36, 37, 38, 39] (by decide +kernel) (by decide +kernel)
set_option maxRecDepth 20000 in
theorem gX4_become_X4_isBlock : GoodIn wsX4_become (wsV RX4 76 RX4 yX4_isBlock wsX4_isBlock) := goodIn_app (goodIn_of _ (by decide +kernel)) ggX4_become_X4_isBlock
set_option maxRecDepth 20000 in
theorem ggX4_become_X4_in : GoodIn wsX4_become wsX4_in := goodIn_r _ [14] (by decide +kernel) (by decide +kernel)
set_option maxRecDepth 20000 in
theorem gX4_become_X4_in : GoodIn wsX4_become (va_wsS RX4 72 yX4_in wsX4_in) := goodIn_app (goodIn_of _ (by decide +kernel)) ggX4_become_X4_in
theorem dX4_become_0 : decode cX4_become 0 = .ok (.aload_n 0, 1) := by decide +kernel
theorem dX4_become_1 : decode cX4_become 1 = .ok (.aload_n 0, 1) := by decide +kernel
theorem dX4_become_2 : decode cX4_become 2 = .ok (.iload_n 1, 1) := by decide +kernel
theorem dX4_become_3 : decode cX4_become 3 = .ok (.invokevirtual 76, 3) := by decide +kernel
theorem dX4_become_6 : decode cX4_become 6 = .ok (.ifCond .eq 17, 3) := by decide +kernel
theorem dX4_become_9 : decode cX4_become 9 = .ok (.iload_n 2, 1) := by decide +kernel
theorem dX4_become_10 : decode cX4_become 10 = .ok (.iconst 0, 1) := by decide +kernel
theorem dX4_become_11 : decode cX4_become 11 = .ok (.bipush 25, 2) := by decide +kernel
theorem dX4_become_13 : decode cX4_become 13 = .ok (.invokestatic 72, 3) := by decide +kernel
theorem dX4_become_16 : decode cX4_become 16 = .ok (.ifCond .eq 7, 3) := by decide +kernel
theorem dX4_become_19 : decode cX4_become 19 = .ok (.iconst 0, 1) := by decide +kernel
theorem dX4_become_20 : decode cX4_become 20 = .ok (.goto 4, 3) := by decide +kernel
theorem dX4_become_23 : decode cX4_become 23 = .ok (.iconst 1, 1) := by decide +kernel
theorem dX4_become_24 : decode cX4_become 24 = .ok (.putfield 65, 3) := by decide +kernel
theorem dX4_become_27 : decode cX4_become 27 = .ok (.aload_n 0, 1) := by decide +kernel
theorem dX4_become_28 : decode cX4_become 28 = .ok (.getfield 65, 3) := by decide +kernel
theorem dX4_become_31 : decode cX4_become 31 = .ok (.ifCond .le 5, 3) := by decide +kernel
theorem dX4_become_34 : decode cX4_become 34 = .ok (.iconst 0, 1) := by decide +kernel
theorem dX4_become_35 : decode cX4_become 35 = .ok (.ireturn, 1) := by decide +kernel
theorem dX4_become_36 : decode cX4_become 36 = .ok (.aload_n 0, 1) := by decide +kernel
theorem dX4_become_37 : decode cX4_become 37 = .ok (.getfield 7, 3) := by decide +kernel
theorem dX4_become_40 : decode cX4_become 40 = .ok (.iload_n 1, 1) := by decide +kernel
theorem dX4_become_41 : decode cX4_become 41 = .ok (.iaload, 1) := by decide +kernel
theorem dX4_become_42 : decode cX4_become 42 = .ok (.istore_n 3, 1) := by decide +kernel
theorem dX4_become_43 : decode cX4_become 43 = .ok (.aload_n 0, 1) := by decide +kernel
theorem dX4_become_44 : decode cX4_become 44 = .ok (.getfield 7, 3) := by decide +kernel
theorem dX4_become_47 : decode cX4_become 47 = .ok (.iload_n 1, 1) := by decide +kernel
theorem dX4_become_48 : decode cX4_become 48 = .ok (.iload_n 2, 1) := by decide +kernel
theorem dX4_become_49 : decode cX4_become 49 = .ok (.iastore, 1) := by decide +kernel
theorem dX4_become_50 : decode cX4_become 50 = .ok (.aload_n 0, 1) := by decide +kernel
theorem dX4_become_51 : decode cX4_become 51 = .ok (.getfield 25, 3) := by decide +kernel
theorem dX4_become_54 : decode cX4_become 54 = .ok (.iload_n 1, 1) := by decide +kernel
theorem dX4_become_55 : decode cX4_become 55 = .ok (.iconst 0, 1) := by decide +kernel
theorem dX4_become_56 : decode cX4_become 56 = .ok (.iastore, 1) := by decide +kernel
theorem dX4_become_57 : decode cX4_become 57 = .ok (.aload_n 0, 1) := by decide +kernel
theorem dX4_become_58 : decode cX4_become 58 = .ok (.getfield 28, 3) := by decide +kernel
theorem dX4_become_61 : decode cX4_become 61 = .ok (.iload_n 1, 1) := by decide +kernel
theorem dX4_become_62 : decode cX4_become 62 = .ok (.iconst 0, 1) := by decide +kernel
theorem dX4_become_63 : decode cX4_become 63 = .ok (.iastore, 1) := by decide +kernel
theorem dX4_become_64 : decode cX4_become 64 = .ok (.aload_n 0, 1) := by decide +kernel
theorem dX4_become_65 : decode cX4_become 65 = .ok (.getfield 31, 3) := by decide +kernel
theorem dX4_become_68 : decode cX4_become 68 = .ok (.iload_n 1, 1) := by decide +kernel
theorem dX4_become_69 : decode cX4_become 69 = .ok (.iconst 0, 1) := by decide +kernel
theorem dX4_become_70 : decode cX4_become 70 = .ok (.iastore, 1) := by decide +kernel
theorem dX4_become_71 : decode cX4_become 71 = .ok (.iload_n 3, 1) := by decide +kernel
theorem dX4_become_72 : decode cX4_become 72 = .ok (.ireturn, 1) := by decide +kernel
set_option maxRecDepth 20000 in
theorem ggX4_inputsOf_X4_in : GoodIn wsX4_inputsOf wsX4_in := goodIn_r _ [4] (by decide +kernel) (by decide +kernel)
set_option maxRecDepth 20000 in
theorem gX4_inputsOf_X4_in : GoodIn wsX4_inputsOf (va_wsS RX4 72 yX4_in wsX4_in) := goodIn_app (goodIn_of _ (by decide +kernel)) ggX4_inputsOf_X4_in
theorem dX4_inputsOf_0 : decode cX4_inputsOf 0 = .ok (.iload_n 0, 1) := by decide +kernel
theorem dX4_inputsOf_1 : decode cX4_inputsOf 1 = .ok (.bipush 14, 2) := by decide +kernel
theorem dX4_inputsOf_3 : decode cX4_inputsOf 3 = .ok (.if_icmp .ne 5, 3) := by decide +kernel
theorem dX4_inputsOf_6 : decode cX4_inputsOf 6 = .ok (.iconst 3, 1) := by decide +kernel
theorem dX4_inputsOf_7 : decode cX4_inputsOf 7 = .ok (.ireturn, 1) := by decide +kernel
theorem dX4_inputsOf_8 : decode cX4_inputsOf 8 = .ok (.iload_n 0, 1) := by decide +kernel
theorem dX4_inputsOf_9 : decode cX4_inputsOf 9 = .ok (.iconst 2, 1) := by decide +kernel
theorem dX4_inputsOf_10 : decode cX4_inputsOf 10 = .ok (.bipush 12, 2) := by decide +kernel
theorem dX4_inputsOf_12 : decode cX4_inputsOf 12 = .ok (.invokestatic 72, 3) := by decide +kernel
theorem dX4_inputsOf_15 : decode cX4_inputsOf 15 = .ok (.ifCond .ne 27, 3) := by decide +kernel
theorem dX4_inputsOf_18 : decode cX4_inputsOf 18 = .ok (.iload_n 0, 1) := by decide +kernel
theorem dX4_inputsOf_19 : decode cX4_inputsOf 19 = .ok (.bipush 18, 2) := by decide +kernel
theorem dX4_inputsOf_21 : decode cX4_inputsOf 21 = .ok (.if_icmp .eq 21, 3) := by decide +kernel
theorem dX4_inputsOf_24 : decode cX4_inputsOf 24 = .ok (.iload_n 0, 1) := by decide +kernel
theorem dX4_inputsOf_25 : decode cX4_inputsOf 25 = .ok (.bipush 19, 2) := by decide +kernel
theorem dX4_inputsOf_27 : decode cX4_inputsOf 27 = .ok (.if_icmp .eq 15, 3) := by decide +kernel
theorem dX4_inputsOf_30 : decode cX4_inputsOf 30 = .ok (.iload_n 0, 1) := by decide +kernel
theorem dX4_inputsOf_31 : decode cX4_inputsOf 31 = .ok (.bipush 23, 2) := by decide +kernel
theorem dX4_inputsOf_33 : decode cX4_inputsOf 33 = .ok (.if_icmp .eq 9, 3) := by decide +kernel
theorem dX4_inputsOf_36 : decode cX4_inputsOf 36 = .ok (.iload_n 0, 1) := by decide +kernel
theorem dX4_inputsOf_37 : decode cX4_inputsOf 37 = .ok (.bipush 24, 2) := by decide +kernel
theorem dX4_inputsOf_39 : decode cX4_inputsOf 39 = .ok (.if_icmp .ne 5, 3) := by decide +kernel
theorem dX4_inputsOf_42 : decode cX4_inputsOf 42 = .ok (.iconst 2, 1) := by decide +kernel
theorem dX4_inputsOf_43 : decode cX4_inputsOf 43 = .ok (.ireturn, 1) := by decide +kernel
theorem dX4_inputsOf_44 : decode cX4_inputsOf 44 = .ok (.iload_n 0, 1) := by decide +kernel
theorem dX4_inputsOf_45 : decode cX4_inputsOf 45 = .ok (.iconst 2, 1) := by decide +kernel
theorem dX4_inputsOf_46 : decode cX4_inputsOf 46 = .ok (.if_icmp .lt 9, 3) := by decide +kernel
theorem dX4_inputsOf_49 : decode cX4_inputsOf 49 = .ok (.iload_n 0, 1) := by decide +kernel
theorem dX4_inputsOf_50 : decode cX4_inputsOf 50 = .ok (.bipush 20, 2) := by decide +kernel
theorem dX4_inputsOf_52 : decode cX4_inputsOf 52 = .ok (.if_icmp .ne 7, 3) := by decide +kernel
theorem dX4_inputsOf_55 : decode cX4_inputsOf 55 = .ok (.iconst 0, 1) := by decide +kernel
theorem dX4_inputsOf_56 : decode cX4_inputsOf 56 = .ok (.goto 4, 3) := by decide +kernel
theorem dX4_inputsOf_59 : decode cX4_inputsOf 59 = .ok (.iconst 1, 1) := by decide +kernel
theorem dX4_inputsOf_60 : decode cX4_inputsOf 60 = .ok (.ireturn, 1) := by decide +kernel
set_option maxRecDepth 20000 in
theorem ggX4_mayCome_X4_inputsOf : GoodIn wsX4_mayCome wsX4_inputsOf := goodIn_r _ [7, 8, 9, 6, 10] (by decide +kernel) (by decide +kernel)
set_option maxRecDepth 20000 in
theorem gX4_mayCome_X4_inputsOf : GoodIn wsX4_mayCome (va_wsS RX4 80 yX4_inputsOf wsX4_inputsOf) := goodIn_app (goodIn_of _ (by decide +kernel)) ggX4_mayCome_X4_inputsOf
theorem dX4_mayCome_0 : decode cX4_mayCome 0 = .ok (.aload_n 0, 1) := by decide +kernel
theorem dX4_mayCome_1 : decode cX4_mayCome 1 = .ok (.getfield 50, 3) := by decide +kernel
theorem dX4_mayCome_4 : decode cX4_mayCome 4 = .ok (.iload_n 1, 1) := by decide +kernel
theorem dX4_mayCome_5 : decode cX4_mayCome 5 = .ok (.baload, 1) := by decide +kernel
theorem dX4_mayCome_6 : decode cX4_mayCome 6 = .ok (.ifCond .eq 5, 3) := by decide +kernel
theorem dX4_mayCome_9 : decode cX4_mayCome 9 = .ok (.iconst 0, 1) := by decide +kernel
theorem dX4_mayCome_10 : decode cX4_mayCome 10 = .ok (.ireturn, 1) := by decide +kernel
theorem dX4_mayCome_11 : decode cX4_mayCome 11 = .ok (.iconst 1, 1) := by decide +kernel
theorem dX4_mayCome_12 : decode cX4_mayCome 12 = .ok (.istore_n 2, 1) := by decide +kernel
theorem dX4_mayCome_13 : decode cX4_mayCome 13 = .ok (.iconst 0, 1) := by decide +kernel
theorem dX4_mayCome_14 : decode cX4_mayCome 14 = .ok (.istore_n 3, 1) := by decide +kernel
theorem dX4_mayCome_15 : decode cX4_mayCome 15 = .ok (.iload_n 3, 1) := by decide +kernel
theorem dX4_mayCome_16 : decode cX4_mayCome 16 = .ok (.aload_n 0, 1) := by decide +kernel
theorem dX4_mayCome_17 : decode cX4_mayCome 17 = .ok (.getfield 7, 3) := by decide +kernel
theorem dX4_mayCome_20 : decode cX4_mayCome 20 = .ok (.iload_n 1, 1) := by decide +kernel
theorem dX4_mayCome_21 : decode cX4_mayCome 21 = .ok (.iaload, 1) := by decide +kernel
theorem dX4_mayCome_22 : decode cX4_mayCome 22 = .ok (.invokestatic 80, 3) := by decide +kernel
theorem dX4_mayCome_25 : decode cX4_mayCome 25 = .ok (.if_icmp .ge 58, 3) := by decide +kernel
theorem dX4_mayCome_28 : decode cX4_mayCome 28 = .ok (.aload_n 0, 1) := by decide +kernel
theorem dX4_mayCome_29 : decode cX4_mayCome 29 = .ok (.getfield 7, 3) := by decide +kernel
theorem dX4_mayCome_32 : decode cX4_mayCome 32 = .ok (.iload_n 1, 1) := by decide +kernel
theorem dX4_mayCome_33 : decode cX4_mayCome 33 = .ok (.iaload, 1) := by decide +kernel
theorem dX4_mayCome_34 : decode cX4_mayCome 34 = .ok (.bipush 16, 2) := by decide +kernel
theorem dX4_mayCome_36 : decode cX4_mayCome 36 = .ok (.if_icmp .eq 47, 3) := by decide +kernel
theorem dX4_mayCome_39 : decode cX4_mayCome 39 = .ok (.aload_n 0, 1) := by decide +kernel
theorem dX4_mayCome_40 : decode cX4_mayCome 40 = .ok (.getfield 22, 3) := by decide +kernel
theorem dX4_mayCome_43 : decode cX4_mayCome 43 = .ok (.iconst 3, 1) := by decide +kernel
theorem dX4_mayCome_44 : decode cX4_mayCome 44 = .ok (.iload_n 1, 1) := by decide +kernel
theorem dX4_mayCome_45 : decode cX4_mayCome 45 = .ok (.imul, 1) := by decide +kernel
theorem dX4_mayCome_46 : decode cX4_mayCome 46 = .ok (.iload_n 3, 1) := by decide +kernel
theorem dX4_mayCome_47 : decode cX4_mayCome 47 = .ok (.iadd, 1) := by decide +kernel
theorem dX4_mayCome_48 : decode cX4_mayCome 48 = .ok (.iaload, 1) := by decide +kernel
theorem dX4_mayCome_49 : decode cX4_mayCome 49 = .ok (.istore 4, 2) := by decide +kernel
theorem dX4_mayCome_51 : decode cX4_mayCome 51 = .ok (.iload_n 2, 1) := by decide +kernel
theorem dX4_mayCome_52 : decode cX4_mayCome 52 = .ok (.ifCond .eq 23, 3) := by decide +kernel
theorem dX4_mayCome_55 : decode cX4_mayCome 55 = .ok (.iload 4, 2) := by decide +kernel
theorem dX4_mayCome_57 : decode cX4_mayCome 57 = .ok (.iconst (-1), 1) := by decide +kernel
theorem dX4_mayCome_58 : decode cX4_mayCome 58 = .ok (.if_icmp .eq 13, 3) := by decide +kernel
theorem dX4_mayCome_61 : decode cX4_mayCome 61 = .ok (.aload_n 0, 1) := by decide +kernel
theorem dX4_mayCome_62 : decode cX4_mayCome 62 = .ok (.getfield 50, 3) := by decide +kernel
theorem dX4_mayCome_65 : decode cX4_mayCome 65 = .ok (.iload 4, 2) := by decide +kernel
theorem dX4_mayCome_67 : decode cX4_mayCome 67 = .ok (.baload, 1) := by decide +kernel
theorem dX4_mayCome_68 : decode cX4_mayCome 68 = .ok (.ifCond .eq 7, 3) := by decide +kernel
theorem dX4_mayCome_71 : decode cX4_mayCome 71 = .ok (.iconst 1, 1) := by decide +kernel
theorem dX4_mayCome_72 : decode cX4_mayCome 72 = .ok (.goto 4, 3) := by decide +kernel
theorem dX4_mayCome_75 : decode cX4_mayCome 75 = .ok (.iconst 0, 1) := by decide +kernel
theorem dX4_mayCome_76 : decode cX4_mayCome 76 = .ok (.istore_n 2, 1) := by decide +kernel
theorem dX4_mayCome_77 : decode cX4_mayCome 77 = .ok (.iinc 3 1, 3) := by decide +kernel
theorem dX4_mayCome_80 : decode cX4_mayCome 80 = .ok (.goto (-65), 3) := by decide +kernel
theorem dX4_mayCome_83 : decode cX4_mayCome 83 = .ok (.iload_n 2, 1) := by decide +kernel
theorem dX4_mayCome_84 : decode cX4_mayCome 84 = .ok (.ireturn, 1) := by decide +kernel
set_option maxRecDepth 20000 in
theorem ggX4_lay_X4_mayCome : GoodIn wsX4_lay wsX4_mayCome := goodIn_r _ [9, 3, 10, 11, 12, 13, 8, 14, 15, 16, 17, 18, 19, 20, 21, 22, 23, 24, 25, 26, 27, 28, 29, 30, 31, 32, 33, 34, 35, 36, 37, 38, 39, 40, 41, 42] (by decide +kernel) (by decide +kernel)
set_option maxRecDepth 20000 in
theorem gX4_lay_X4_mayCome : GoodIn wsX4_lay (wsV RX4 87 RX4 yX4_mayCome wsX4_mayCome) := goodIn_app (goodIn_of _ (by decide +kernel)) ggX4_lay_X4_mayCome
theorem dX4_lay_0 : decode cX4_lay 0 = .ok (.aload_n 0, 1) := by decide +kernel
theorem dX4_lay_1 : decode cX4_lay 1 = .ok (.iconst 0, 1) := by decide +kernel
theorem dX4_lay_2 : decode cX4_lay 2 = .ok (.putfield 84, 3) := by decide +kernel
theorem dX4_lay_5 : decode cX4_lay 5 = .ok (.iconst 0, 1) := by decide +kernel
theorem dX4_lay_6 : decode cX4_lay 6 = .ok (.istore_n 1, 1) := by decide +kernel
theorem dX4_lay_7 : decode cX4_lay 7 = .ok (.iload_n 1, 1) := by decide +kernel
theorem dX4_lay_8 : decode cX4_lay 8 = .ok (.aload_n 0, 1) := by decide +kernel
theorem dX4_lay_9 : decode cX4_lay 9 = .ok (.getfield 69, 3) := by decide +kernel
theorem dX4_lay_12 : decode cX4_lay 12 = .ok (.if_icmp .ge 16, 3) := by decide +kernel
theorem dX4_lay_15 : decode cX4_lay 15 = .ok (.aload_n 0, 1) := by decide +kernel
theorem dX4_lay_16 : decode cX4_lay 16 = .ok (.getfield 50, 3) := by decide +kernel
theorem dX4_lay_19 : decode cX4_lay 19 = .ok (.iload_n 1, 1) := by decide +kernel
theorem dX4_lay_20 : decode cX4_lay 20 = .ok (.iconst 0, 1) := by decide +kernel
theorem dX4_lay_21 : decode cX4_lay 21 = .ok (.bastore, 1) := by decide +kernel
theorem dX4_lay_22 : decode cX4_lay 22 = .ok (.iinc 1 1, 3) := by decide +kernel
theorem dX4_lay_25 : decode cX4_lay 25 = .ok (.goto (-18), 3) := by decide +kernel
theorem dX4_lay_28 : decode cX4_lay 28 = .ok (.iconst 1, 1) := by decide +kernel
theorem dX4_lay_29 : decode cX4_lay 29 = .ok (.istore_n 1, 1) := by decide +kernel
theorem dX4_lay_30 : decode cX4_lay 30 = .ok (.iload_n 1, 1) := by decide +kernel
theorem dX4_lay_31 : decode cX4_lay 31 = .ok (.ifCond .eq 81, 3) := by decide +kernel
theorem dX4_lay_34 : decode cX4_lay 34 = .ok (.iconst (-1), 1) := by decide +kernel
theorem dX4_lay_35 : decode cX4_lay 35 = .ok (.istore_n 2, 1) := by decide +kernel
theorem dX4_lay_36 : decode cX4_lay 36 = .ok (.aload_n 0, 1) := by decide +kernel
theorem dX4_lay_37 : decode cX4_lay 37 = .ok (.getfield 69, 3) := by decide +kernel
theorem dX4_lay_40 : decode cX4_lay 40 = .ok (.iconst 1, 1) := by decide +kernel
theorem dX4_lay_41 : decode cX4_lay 41 = .ok (.isub, 1) := by decide +kernel
theorem dX4_lay_42 : decode cX4_lay 42 = .ok (.istore_n 3, 1) := by decide +kernel
theorem dX4_lay_43 : decode cX4_lay 43 = .ok (.iload_n 3, 1) := by decide +kernel
theorem dX4_lay_44 : decode cX4_lay 44 = .ok (.ifCond .lt 23, 3) := by decide +kernel
theorem dX4_lay_47 : decode cX4_lay 47 = .ok (.aload_n 0, 1) := by decide +kernel
theorem dX4_lay_48 : decode cX4_lay 48 = .ok (.iload_n 3, 1) := by decide +kernel
theorem dX4_lay_49 : decode cX4_lay 49 = .ok (.invokevirtual 87, 3) := by decide +kernel
theorem dX4_lay_52 : decode cX4_lay 52 = .ok (.ifCond .eq 7, 3) := by decide +kernel
theorem dX4_lay_55 : decode cX4_lay 55 = .ok (.iload_n 3, 1) := by decide +kernel
theorem dX4_lay_56 : decode cX4_lay 56 = .ok (.goto 4, 3) := by decide +kernel
theorem dX4_lay_59 : decode cX4_lay 59 = .ok (.iload_n 2, 1) := by decide +kernel
theorem dX4_lay_60 : decode cX4_lay 60 = .ok (.istore_n 2, 1) := by decide +kernel
theorem dX4_lay_61 : decode cX4_lay 61 = .ok (.iinc 3 (-1), 3) := by decide +kernel
theorem dX4_lay_64 : decode cX4_lay 64 = .ok (.goto (-21), 3) := by decide +kernel
theorem dX4_lay_67 : decode cX4_lay 67 = .ok (.iload_n 2, 1) := by decide +kernel
theorem dX4_lay_68 : decode cX4_lay 68 = .ok (.iconst (-1), 1) := by decide +kernel
theorem dX4_lay_69 : decode cX4_lay 69 = .ok (.if_icmp .eq 7, 3) := by decide +kernel
theorem dX4_lay_72 : decode cX4_lay 72 = .ok (.iconst 1, 1) := by decide +kernel
theorem dX4_lay_73 : decode cX4_lay 73 = .ok (.goto 4, 3) := by decide +kernel
theorem dX4_lay_76 : decode cX4_lay 76 = .ok (.iconst 0, 1) := by decide +kernel
theorem dX4_lay_77 : decode cX4_lay 77 = .ok (.istore_n 1, 1) := by decide +kernel
theorem dX4_lay_78 : decode cX4_lay 78 = .ok (.iload_n 1, 1) := by decide +kernel
theorem dX4_lay_79 : decode cX4_lay 79 = .ok (.ifCond .eq 30, 3) := by decide +kernel
theorem dX4_lay_82 : decode cX4_lay 82 = .ok (.aload_n 0, 1) := by decide +kernel
theorem dX4_lay_83 : decode cX4_lay 83 = .ok (.getfield 47, 3) := by decide +kernel
theorem dX4_lay_86 : decode cX4_lay 86 = .ok (.aload_n 0, 1) := by decide +kernel
theorem dX4_lay_87 : decode cX4_lay 87 = .ok (.getfield 84, 3) := by decide +kernel
theorem dX4_lay_90 : decode cX4_lay 90 = .ok (.iload_n 2, 1) := by decide +kernel
theorem dX4_lay_91 : decode cX4_lay 91 = .ok (.iastore, 1) := by decide +kernel
theorem dX4_lay_92 : decode cX4_lay 92 = .ok (.aload_n 0, 1) := by decide +kernel
theorem dX4_lay_93 : decode cX4_lay 93 = .ok (.getfield 50, 3) := by decide +kernel
theorem dX4_lay_96 : decode cX4_lay 96 = .ok (.iload_n 2, 1) := by decide +kernel
theorem dX4_lay_97 : decode cX4_lay 97 = .ok (.iconst 1, 1) := by decide +kernel
theorem dX4_lay_98 : decode cX4_lay 98 = .ok (.bastore, 1) := by decide +kernel
theorem dX4_lay_99 : decode cX4_lay 99 = .ok (.aload_n 0, 1) := by decide +kernel
theorem dX4_lay_100 : decode cX4_lay 100 = .ok (.dup, 1) := by decide +kernel
theorem dX4_lay_101 : decode cX4_lay 101 = .ok (.getfield 84, 3) := by decide +kernel
theorem dX4_lay_104 : decode cX4_lay 104 = .ok (.iconst 1, 1) := by decide +kernel
theorem dX4_lay_105 : decode cX4_lay 105 = .ok (.iadd, 1) := by decide +kernel
theorem dX4_lay_106 : decode cX4_lay 106 = .ok (.putfield 84, 3) := by decide +kernel
theorem dX4_lay_109 : decode cX4_lay 109 = .ok (.goto (-79), 3) := by decide +kernel
theorem dX4_lay_112 : decode cX4_lay 112 = .ok (.aload_n 0, 1) := by decide +kernel
theorem dX4_lay_113 : decode cX4_lay 113 = .ok (.getfield 84, 3) := by decide +kernel
theorem dX4_lay_116 : decode cX4_lay 116 = .ok (.istore_n 2, 1) := by decide +kernel
theorem dX4_lay_117 : decode cX4_lay 117 = .ok (.iconst 0, 1) := by decide +kernel
theorem dX4_lay_118 : decode cX4_lay 118 = .ok (.istore_n 3, 1) := by decide +kernel
theorem dX4_lay_119 : decode cX4_lay 119 = .ok (.iload_n 3, 1) := by decide +kernel
theorem dX4_lay_120 : decode cX4_lay 120 = .ok (.aload_n 0, 1) := by decide +kernel
theorem dX4_lay_121 : decode cX4_lay 121 = .ok (.getfield 69, 3) := by decide +kernel
theorem dX4_lay_124 : decode cX4_lay 124 = .ok (.if_icmp .ge 28, 3) := by decide +kernel
theorem dX4_lay_127 : decode cX4_lay 127 = .ok (.aload_n 0, 1) := by decide +kernel
theorem dX4_lay_128 : decode cX4_lay 128 = .ok (.getfield 50, 3) := by decide +kernel
theorem dX4_lay_131 : decode cX4_lay 131 = .ok (.iload_n 3, 1) := by decide +kernel
theorem dX4_lay_132 : decode cX4_lay 132 = .ok (.baload, 1) := by decide +kernel
theorem dX4_lay_133 : decode cX4_lay 133 = .ok (.ifCond .ne 13, 3) := by decide +kernel
theorem dX4_lay_136 : decode cX4_lay 136 = .ok (.aload_n 0, 1) := by decide +kernel
theorem dX4_lay_137 : decode cX4_lay 137 = .ok (.getfield 47, 3) := by decide +kernel
theorem dX4_lay_140 : decode cX4_lay 140 = .ok (.iload_n 2, 1) := by decide +kernel
theorem dX4_lay_141 : decode cX4_lay 141 = .ok (.iload_n 3, 1) := by decide +kernel
theorem dX4_lay_142 : decode cX4_lay 142 = .ok (.iastore, 1) := by decide +kernel
theorem dX4_lay_143 : decode cX4_lay 143 = .ok (.iinc 2 1, 3) := by decide +kernel
theorem dX4_lay_146 : decode cX4_lay 146 = .ok (.iinc 3 1, 3) := by decide +kernel
theorem dX4_lay_149 : decode cX4_lay 149 = .ok (.goto (-30), 3) := by decide +kernel
theorem dX4_lay_152 : decode cX4_lay 152 = .ok (.return_, 1) := by decide +kernel
set_option maxRecDepth 20000 in
theorem ggX4_order_X4_lay : GoodIn wsX4_order wsX4_lay := goodIn_r _ [7, 2, 8, 9, 10, 11, 12, 13, 6, 14, 15, 16, 17, 18, 19, 20, 21, 22, 23, 24, 25, 26, 27, 28, 29, 30, 31, 32, 33, 34, 35, 36, 37, 38, 39, 40, 41, 42, 43, 44, 45, 46, 47] (by decide +kernel) (by decide +kernel)
set_option maxRecDepth 20000 in
theorem gX4_order_X4_lay : GoodIn wsX4_order (wsV RX4 90 RX4 yX4_lay wsX4_lay) := goodIn_app (goodIn_of _ (by decide +kernel)) ggX4_order_X4_lay
theorem dX4_order_0 : decode cX4_order 0 = .ok (.aload_n 0, 1) := by decide +kernel
theorem dX4_order_1 : decode cX4_order 1 = .ok (.iconst 0, 1) := by decide +kernel
theorem dX4_order_2 : decode cX4_order 2 = .ok (.putfield 65, 3) := by decide +kernel
theorem dX4_order_5 : decode cX4_order 5 = .ok (.aload_n 0, 1) := by decide +kernel
theorem dX4_order_6 : decode cX4_order 6 = .ok (.invokevirtual 90, 3) := by decide +kernel
theorem dX4_order_9 : decode cX4_order 9 = .ok (.aload_n 0, 1) := by decide +kernel
theorem dX4_order_10 : decode cX4_order 10 = .ok (.getfield 84, 3) := by decide +kernel
theorem dX4_order_13 : decode cX4_order 13 = .ok (.ireturn, 1) := by decide +kernel
set_option maxRecDepth 20000 in
theorem ggX4_at_X4_isBlock : GoodIn wsX4_at wsX4_isBlock := goodIn_r _ [7, 8, 9, 10, 6, 11, 27, 28, 29, 30, 31, 32, 33, 34, 35, 36, 37, 38, 39, 40, 41, 42, 43, 44, 45, 46, 47, 48, 49, 50, 51] (by decide +kernel) (by decide +kernel)
set_option maxRecDepth 20000 in
theorem gX4_at_X4_isBlock : GoodIn wsX4_at (wsV RX4 76 RX4 yX4_isBlock wsX4_isBlock) := goodIn_app (goodIn_of _ (by decide +kernel)) ggX4_at_X4_isBlock
set_option maxRecDepth 20000 in
theorem ggX4_at_X4_lay : GoodIn wsX4_at wsX4_lay := goodIn_r _ [15, 16, 8, 17, 2, 18, 19, 20, 6, 21, 22, 23, 24, 25, 26, 9, 10, 11, 27, 28, 29, 30, 31, 32, 33, 34, 35, 36, 37, 38, 39, 40, 41, 42, 43, 44, 45, 46, 47, 48, 49, 50, 51] (by decide +kernel) (by decide +kernel)
set_option maxRecDepth 20000 in
theorem gX4_at_X4_lay : GoodIn wsX4_at (wsV RX4 90 RX4 yX4_lay wsX4_lay) := goodIn_app (goodIn_of _ (by decide +kernel)) ggX4_at_X4_lay
theorem dX4_at_0 : decode cX4_at 0 = .ok (.aload_n 0, 1) := by decide +kernel
theorem dX4_at_1 : decode cX4_at 1 = .ok (.aload_n 0, 1) := by decide +kernel
theorem dX4_at_2 : decode cX4_at 2 = .ok (.iload_n 1, 1) := by decide +kernel
theorem dX4_at_3 : decode cX4_at 3 = .ok (.invokevirtual 76, 3) := by decide +kernel
theorem dX4_at_6 : decode cX4_at 6 = .ok (.ifCond .eq 7, 3) := by decide +kernel
theorem dX4_at_9 : decode cX4_at 9 = .ok (.iconst 0, 1) := by decide +kernel
theorem dX4_at_10 : decode cX4_at 10 = .ok (.goto 4, 3) := by decide +kernel
theorem dX4_at_13 : decode cX4_at 13 = .ok (.iconst 1, 1) := by decide +kernel
theorem dX4_at_14 : decode cX4_at 14 = .ok (.putfield 65, 3) := by decide +kernel
theorem dX4_at_17 : decode cX4_at 17 = .ok (.aload_n 0, 1) := by decide +kernel
theorem dX4_at_18 : decode cX4_at 18 = .ok (.getfield 65, 3) := by decide +kernel
theorem dX4_at_21 : decode cX4_at 21 = .ok (.ifCond .le 5, 3) := by decide +kernel
theorem dX4_at_24 : decode cX4_at 24 = .ok (.iconst 0, 1) := by decide +kernel
theorem dX4_at_25 : decode cX4_at 25 = .ok (.ireturn, 1) := by decide +kernel
theorem dX4_at_26 : decode cX4_at 26 = .ok (.aload_n 0, 1) := by decide +kernel
theorem dX4_at_27 : decode cX4_at 27 = .ok (.invokevirtual 90, 3) := by decide +kernel
theorem dX4_at_30 : decode cX4_at 30 = .ok (.aload_n 0, 1) := by decide +kernel
theorem dX4_at_31 : decode cX4_at 31 = .ok (.getfield 47, 3) := by decide +kernel
theorem dX4_at_34 : decode cX4_at 34 = .ok (.iload_n 1, 1) := by decide +kernel
theorem dX4_at_35 : decode cX4_at 35 = .ok (.iaload, 1) := by decide +kernel
theorem dX4_at_36 : decode cX4_at 36 = .ok (.ireturn, 1) := by decide +kernel
set_option maxRecDepth 20000 in
theorem ggX4_input_X4_inputsOf : GoodIn wsX4_input wsX4_inputsOf := goodIn_r _ [7, 8, 9, 6, 10] (by decide +kernel) (by decide +kernel)
set_option maxRecDepth 20000 in
theorem gX4_input_X4_inputsOf : GoodIn wsX4_input (va_wsS RX4 80 yX4_inputsOf wsX4_inputsOf) := goodIn_app (goodIn_of _ (by decide +kernel)) ggX4_input_X4_inputsOf
theorem dX4_input_0 : decode cX4_input 0 = .ok (.aload_n 0, 1) := by decide +kernel
theorem dX4_input_1 : decode cX4_input 1 = .ok (.getfield 22, 3) := by decide +kernel
theorem dX4_input_4 : decode cX4_input 4 = .ok (.iconst 3, 1) := by decide +kernel
theorem dX4_input_5 : decode cX4_input 5 = .ok (.iload_n 1, 1) := by decide +kernel
theorem dX4_input_6 : decode cX4_input 6 = .ok (.imul, 1) := by decide +kernel
theorem dX4_input_7 : decode cX4_input 7 = .ok (.iload_n 2, 1) := by decide +kernel
theorem dX4_input_8 : decode cX4_input 8 = .ok (.iadd, 1) := by decide +kernel
theorem dX4_input_9 : decode cX4_input 9 = .ok (.iaload, 1) := by decide +kernel
theorem dX4_input_10 : decode cX4_input 10 = .ok (.istore_n 3, 1) := by decide +kernel
theorem dX4_input_11 : decode cX4_input 11 = .ok (.iload_n 2, 1) := by decide +kernel
theorem dX4_input_12 : decode cX4_input 12 = .ok (.aload_n 0, 1) := by decide +kernel
theorem dX4_input_13 : decode cX4_input 13 = .ok (.getfield 7, 3) := by decide +kernel
theorem dX4_input_16 : decode cX4_input 16 = .ok (.iload_n 1, 1) := by decide +kernel
theorem dX4_input_17 : decode cX4_input 17 = .ok (.iaload, 1) := by decide +kernel
theorem dX4_input_18 : decode cX4_input 18 = .ok (.invokestatic 80, 3) := by decide +kernel
theorem dX4_input_21 : decode cX4_input 21 = .ok (.if_icmp .ge 17, 3) := by decide +kernel
theorem dX4_input_24 : decode cX4_input 24 = .ok (.iload_n 3, 1) := by decide +kernel
theorem dX4_input_25 : decode cX4_input 25 = .ok (.iconst (-1), 1) := by decide +kernel
theorem dX4_input_26 : decode cX4_input 26 = .ok (.if_icmp .eq 12, 3) := by decide +kernel
theorem dX4_input_29 : decode cX4_input 29 = .ok (.aload_n 0, 1) := by decide +kernel
theorem dX4_input_30 : decode cX4_input 30 = .ok (.getfield 25, 3) := by decide +kernel
theorem dX4_input_33 : decode cX4_input 33 = .ok (.iload_n 3, 1) := by decide +kernel
theorem dX4_input_34 : decode cX4_input 34 = .ok (.iaload, 1) := by decide +kernel
theorem dX4_input_35 : decode cX4_input 35 = .ok (.goto 4, 3) := by decide +kernel
theorem dX4_input_38 : decode cX4_input 38 = .ok (.iconst 0, 1) := by decide +kernel
theorem dX4_input_39 : decode cX4_input 39 = .ok (.ireturn, 1) := by decide +kernel
theorem dX4_one_0 : decode cX4_one 0 = .ok (.iload_n 0, 1) := by decide +kernel
theorem dX4_one_1 : decode cX4_one 1 = .ok (.ifCond .eq 7, 3) := by decide +kernel
theorem dX4_one_4 : decode cX4_one 4 = .ok (.iconst 1, 1) := by decide +kernel
theorem dX4_one_5 : decode cX4_one 5 = .ok (.goto 4, 3) := by decide +kernel
theorem dX4_one_8 : decode cX4_one 8 = .ok (.iconst 0, 1) := by decide +kernel
theorem dX4_one_9 : decode cX4_one 9 = .ok (.ireturn, 1) := by decide +kernel
set_option maxRecDepth 20000 in
theorem ggX4_plain_X4_in : GoodIn wsX4_plain wsX4_in := goodIn_r _ [9] (by decide +kernel) (by decide +kernel)
set_option maxRecDepth 20000 in
theorem gX4_plain_X4_in : GoodIn wsX4_plain (va_wsS RX4 72 yX4_in wsX4_in) := goodIn_app (goodIn_of _ (by decide +kernel)) ggX4_plain_X4_in
set_option maxRecDepth 20000 in
theorem ggX4_plain_X4_one : GoodIn wsX4_plain wsX4_one := goodIn_r _ [12] (by decide +kernel) (by decide +kernel)
set_option maxRecDepth 20000 in
theorem gX4_plain_X4_one : GoodIn wsX4_plain (va_wsS RX4 96 yX4_one wsX4_one) := goodIn_app (goodIn_of _ (by decide +kernel)) ggX4_plain_X4_one
theorem dX4_plain_0 : decode cX4_plain 0 = .ok (.aload_n 0, 1) := by decide +kernel
theorem dX4_plain_1 : decode cX4_plain 1 = .ok (.getfield 7, 3) := by decide +kernel
theorem dX4_plain_4 : decode cX4_plain 4 = .ok (.iload_n 1, 1) := by decide +kernel
theorem dX4_plain_5 : decode cX4_plain 5 = .ok (.iaload, 1) := by decide +kernel
theorem dX4_plain_6 : decode cX4_plain 6 = .ok (.tableswitch 299 0 14 #[74, 121, 128, 132, 136, 140, 140, 191, 202, 213, 227, 241, 258, 275, 288], 74) := by decide +kernel
theorem dX4_plain_80 : decode cX4_plain 80 = .ok (.aload_n 0, 1) := by decide +kernel
theorem dX4_plain_81 : decode cX4_plain 81 = .ok (.aload_n 0, 1) := by decide +kernel
theorem dX4_plain_82 : decode cX4_plain 82 = .ok (.getfield 13, 3) := by decide +kernel
theorem dX4_plain_85 : decode cX4_plain 85 = .ok (.iload_n 1, 1) := by decide +kernel
theorem dX4_plain_86 : decode cX4_plain 86 = .ok (.iaload, 1) := by decide +kernel
theorem dX4_plain_87 : decode cX4_plain 87 = .ok (.iconst 0, 1) := by decide +kernel
theorem dX4_plain_88 : decode cX4_plain 88 = .ok (.bipush 9, 2) := by decide +kernel
theorem dX4_plain_90 : decode cX4_plain 90 = .ok (.invokestatic 72, 3) := by decide +kernel
theorem dX4_plain_93 : decode cX4_plain 93 = .ok (.ifCond .eq 7, 3) := by decide +kernel
theorem dX4_plain_96 : decode cX4_plain 96 = .ok (.iconst 0, 1) := by decide +kernel
theorem dX4_plain_97 : decode cX4_plain 97 = .ok (.goto 4, 3) := by decide +kernel
theorem dX4_plain_100 : decode cX4_plain 100 = .ok (.iconst 2, 1) := by decide +kernel
theorem dX4_plain_101 : decode cX4_plain 101 = .ok (.putfield 93, 3) := by decide +kernel
theorem dX4_plain_104 : decode cX4_plain 104 = .ok (.aload_n 0, 1) := by decide +kernel
theorem dX4_plain_105 : decode cX4_plain 105 = .ok (.getfield 93, 3) := by decide +kernel
theorem dX4_plain_108 : decode cX4_plain 108 = .ok (.ifCond .ne 17, 3) := by decide +kernel
theorem dX4_plain_111 : decode cX4_plain 111 = .ok (.aload_n 0, 1) := by decide +kernel
theorem dX4_plain_112 : decode cX4_plain 112 = .ok (.getfield 44, 3) := by decide +kernel
theorem dX4_plain_115 : decode cX4_plain 115 = .ok (.aload_n 0, 1) := by decide +kernel
theorem dX4_plain_116 : decode cX4_plain 116 = .ok (.getfield 13, 3) := by decide +kernel
theorem dX4_plain_119 : decode cX4_plain 119 = .ok (.iload_n 1, 1) := by decide +kernel
theorem dX4_plain_120 : decode cX4_plain 120 = .ok (.iaload, 1) := by decide +kernel
theorem dX4_plain_121 : decode cX4_plain 121 = .ok (.iaload, 1) := by decide +kernel
theorem dX4_plain_122 : decode cX4_plain 122 = .ok (.goto 4, 3) := by decide +kernel
theorem dX4_plain_125 : decode cX4_plain 125 = .ok (.iconst 0, 1) := by decide +kernel
theorem dX4_plain_126 : decode cX4_plain 126 = .ok (.ireturn, 1) := by decide +kernel
theorem dX4_plain_127 : decode cX4_plain 127 = .ok (.aload_n 0, 1) := by decide +kernel
theorem dX4_plain_128 : decode cX4_plain 128 = .ok (.getfield 13, 3) := by decide +kernel
theorem dX4_plain_131 : decode cX4_plain 131 = .ok (.iload_n 1, 1) := by decide +kernel
theorem dX4_plain_132 : decode cX4_plain 132 = .ok (.iaload, 1) := by decide +kernel
theorem dX4_plain_133 : decode cX4_plain 133 = .ok (.ireturn, 1) := by decide +kernel
theorem dX4_plain_134 : decode cX4_plain 134 = .ok (.iload_n 2, 1) := by decide +kernel
theorem dX4_plain_135 : decode cX4_plain 135 = .ok (.iload_n 3, 1) := by decide +kernel
theorem dX4_plain_136 : decode cX4_plain 136 = .ok (.iadd, 1) := by decide +kernel
theorem dX4_plain_137 : decode cX4_plain 137 = .ok (.ireturn, 1) := by decide +kernel
theorem dX4_plain_138 : decode cX4_plain 138 = .ok (.iload_n 2, 1) := by decide +kernel
theorem dX4_plain_139 : decode cX4_plain 139 = .ok (.iload_n 3, 1) := by decide +kernel
theorem dX4_plain_140 : decode cX4_plain 140 = .ok (.isub, 1) := by decide +kernel
theorem dX4_plain_141 : decode cX4_plain 141 = .ok (.ireturn, 1) := by decide +kernel
theorem dX4_plain_142 : decode cX4_plain 142 = .ok (.iload_n 2, 1) := by decide +kernel
theorem dX4_plain_143 : decode cX4_plain 143 = .ok (.iload_n 3, 1) := by decide +kernel
theorem dX4_plain_144 : decode cX4_plain 144 = .ok (.imul, 1) := by decide +kernel
theorem dX4_plain_145 : decode cX4_plain 145 = .ok (.ireturn, 1) := by decide +kernel
theorem dX4_plain_146 : decode cX4_plain 146 = .ok (.aload_n 0, 1) := by decide +kernel
theorem dX4_plain_147 : decode cX4_plain 147 = .ok (.iload_n 3, 1) := by decide +kernel
theorem dX4_plain_148 : decode cX4_plain 148 = .ok (.ifCond .ne 7, 3) := by decide +kernel
theorem dX4_plain_151 : decode cX4_plain 151 = .ok (.iconst 1, 1) := by decide +kernel
theorem dX4_plain_152 : decode cX4_plain 152 = .ok (.goto 4, 3) := by decide +kernel
theorem dX4_plain_155 : decode cX4_plain 155 = .ok (.iconst 0, 1) := by decide +kernel
theorem dX4_plain_156 : decode cX4_plain 156 = .ok (.putfield 93, 3) := by decide +kernel
theorem dX4_plain_159 : decode cX4_plain 159 = .ok (.aload_n 0, 1) := by decide +kernel
theorem dX4_plain_160 : decode cX4_plain 160 = .ok (.getfield 93, 3) := by decide +kernel
theorem dX4_plain_163 : decode cX4_plain 163 = .ok (.ifCond .ne 9, 3) := by decide +kernel
theorem dX4_plain_166 : decode cX4_plain 166 = .ok (.iload_n 2, 1) := by decide +kernel
theorem dX4_plain_167 : decode cX4_plain 167 = .ok (.iload_n 3, 1) := by decide +kernel
theorem dX4_plain_168 : decode cX4_plain 168 = .ok (.idiv, 1) := by decide +kernel
theorem dX4_plain_169 : decode cX4_plain 169 = .ok (.goto 4, 3) := by decide +kernel
theorem dX4_plain_172 : decode cX4_plain 172 = .ok (.iconst 0, 1) := by decide +kernel
theorem dX4_plain_173 : decode cX4_plain 173 = .ok (.istore 5, 2) := by decide +kernel
theorem dX4_plain_175 : decode cX4_plain 175 = .ok (.aload_n 0, 1) := by decide +kernel
theorem dX4_plain_176 : decode cX4_plain 176 = .ok (.getfield 7, 3) := by decide +kernel
theorem dX4_plain_179 : decode cX4_plain 179 = .ok (.iload_n 1, 1) := by decide +kernel
theorem dX4_plain_180 : decode cX4_plain 180 = .ok (.iaload, 1) := by decide +kernel
theorem dX4_plain_181 : decode cX4_plain 181 = .ok (.iconst 5, 1) := by decide +kernel
theorem dX4_plain_182 : decode cX4_plain 182 = .ok (.if_icmp .ne 8, 3) := by decide +kernel
theorem dX4_plain_185 : decode cX4_plain 185 = .ok (.iload 5, 2) := by decide +kernel
theorem dX4_plain_187 : decode cX4_plain 187 = .ok (.goto 9, 3) := by decide +kernel
theorem dX4_plain_190 : decode cX4_plain 190 = .ok (.iload_n 2, 1) := by decide +kernel
theorem dX4_plain_191 : decode cX4_plain 191 = .ok (.iload_n 3, 1) := by decide +kernel
theorem dX4_plain_192 : decode cX4_plain 192 = .ok (.iload 5, 2) := by decide +kernel
theorem dX4_plain_194 : decode cX4_plain 194 = .ok (.imul, 1) := by decide +kernel
theorem dX4_plain_195 : decode cX4_plain 195 = .ok (.isub, 1) := by decide +kernel
theorem dX4_plain_196 : decode cX4_plain 196 = .ok (.ireturn, 1) := by decide +kernel
theorem dX4_plain_197 : decode cX4_plain 197 = .ok (.iload_n 2, 1) := by decide +kernel
theorem dX4_plain_198 : decode cX4_plain 198 = .ok (.iload_n 3, 1) := by decide +kernel
theorem dX4_plain_199 : decode cX4_plain 199 = .ok (.if_icmp .ge 7, 3) := by decide +kernel
theorem dX4_plain_202 : decode cX4_plain 202 = .ok (.iload_n 2, 1) := by decide +kernel
theorem dX4_plain_203 : decode cX4_plain 203 = .ok (.goto 4, 3) := by decide +kernel
theorem dX4_plain_206 : decode cX4_plain 206 = .ok (.iload_n 3, 1) := by decide +kernel
theorem dX4_plain_207 : decode cX4_plain 207 = .ok (.ireturn, 1) := by decide +kernel
theorem dX4_plain_208 : decode cX4_plain 208 = .ok (.iload_n 2, 1) := by decide +kernel
theorem dX4_plain_209 : decode cX4_plain 209 = .ok (.iload_n 3, 1) := by decide +kernel
theorem dX4_plain_210 : decode cX4_plain 210 = .ok (.if_icmp .le 7, 3) := by decide +kernel
theorem dX4_plain_213 : decode cX4_plain 213 = .ok (.iload_n 2, 1) := by decide +kernel
theorem dX4_plain_214 : decode cX4_plain 214 = .ok (.goto 4, 3) := by decide +kernel
theorem dX4_plain_217 : decode cX4_plain 217 = .ok (.iload_n 3, 1) := by decide +kernel
theorem dX4_plain_218 : decode cX4_plain 218 = .ok (.ireturn, 1) := by decide +kernel
theorem dX4_plain_219 : decode cX4_plain 219 = .ok (.iload_n 2, 1) := by decide +kernel
theorem dX4_plain_220 : decode cX4_plain 220 = .ok (.iload_n 3, 1) := by decide +kernel
theorem dX4_plain_221 : decode cX4_plain 221 = .ok (.if_icmp .ge 7, 3) := by decide +kernel
theorem dX4_plain_224 : decode cX4_plain 224 = .ok (.iconst 1, 1) := by decide +kernel
theorem dX4_plain_225 : decode cX4_plain 225 = .ok (.goto 4, 3) := by decide +kernel
theorem dX4_plain_228 : decode cX4_plain 228 = .ok (.iconst 0, 1) := by decide +kernel
theorem dX4_plain_229 : decode cX4_plain 229 = .ok (.invokestatic 96, 3) := by decide +kernel
theorem dX4_plain_232 : decode cX4_plain 232 = .ok (.ireturn, 1) := by decide +kernel
theorem dX4_plain_233 : decode cX4_plain 233 = .ok (.iload_n 2, 1) := by decide +kernel
theorem dX4_plain_234 : decode cX4_plain 234 = .ok (.iload_n 3, 1) := by decide +kernel
theorem dX4_plain_235 : decode cX4_plain 235 = .ok (.if_icmp .ne 7, 3) := by decide +kernel
theorem dX4_plain_238 : decode cX4_plain 238 = .ok (.iconst 1, 1) := by decide +kernel
theorem dX4_plain_239 : decode cX4_plain 239 = .ok (.goto 4, 3) := by decide +kernel
theorem dX4_plain_242 : decode cX4_plain 242 = .ok (.iconst 0, 1) := by decide +kernel
theorem dX4_plain_243 : decode cX4_plain 243 = .ok (.invokestatic 96, 3) := by decide +kernel
theorem dX4_plain_246 : decode cX4_plain 246 = .ok (.ireturn, 1) := by decide +kernel
theorem dX4_plain_247 : decode cX4_plain 247 = .ok (.iload_n 2, 1) := by decide +kernel
theorem dX4_plain_248 : decode cX4_plain 248 = .ok (.ifCond .eq 11, 3) := by decide +kernel
theorem dX4_plain_251 : decode cX4_plain 251 = .ok (.iload_n 3, 1) := by decide +kernel
theorem dX4_plain_252 : decode cX4_plain 252 = .ok (.ifCond .eq 7, 3) := by decide +kernel
theorem dX4_plain_255 : decode cX4_plain 255 = .ok (.iconst 1, 1) := by decide +kernel
theorem dX4_plain_256 : decode cX4_plain 256 = .ok (.goto 4, 3) := by decide +kernel
theorem dX4_plain_259 : decode cX4_plain 259 = .ok (.iconst 0, 1) := by decide +kernel
theorem dX4_plain_260 : decode cX4_plain 260 = .ok (.invokestatic 96, 3) := by decide +kernel
theorem dX4_plain_263 : decode cX4_plain 263 = .ok (.ireturn, 1) := by decide +kernel
theorem dX4_plain_264 : decode cX4_plain 264 = .ok (.iload_n 2, 1) := by decide +kernel
theorem dX4_plain_265 : decode cX4_plain 265 = .ok (.ifCond .ne 7, 3) := by decide +kernel
theorem dX4_plain_268 : decode cX4_plain 268 = .ok (.iload_n 3, 1) := by decide +kernel
theorem dX4_plain_269 : decode cX4_plain 269 = .ok (.ifCond .eq 7, 3) := by decide +kernel
theorem dX4_plain_272 : decode cX4_plain 272 = .ok (.iconst 1, 1) := by decide +kernel
theorem dX4_plain_273 : decode cX4_plain 273 = .ok (.goto 4, 3) := by decide +kernel
theorem dX4_plain_276 : decode cX4_plain 276 = .ok (.iconst 0, 1) := by decide +kernel
theorem dX4_plain_277 : decode cX4_plain 277 = .ok (.invokestatic 96, 3) := by decide +kernel
theorem dX4_plain_280 : decode cX4_plain 280 = .ok (.ireturn, 1) := by decide +kernel
theorem dX4_plain_281 : decode cX4_plain 281 = .ok (.iload_n 2, 1) := by decide +kernel
theorem dX4_plain_282 : decode cX4_plain 282 = .ok (.ifCond .ne 7, 3) := by decide +kernel
theorem dX4_plain_285 : decode cX4_plain 285 = .ok (.iconst 1, 1) := by decide +kernel
theorem dX4_plain_286 : decode cX4_plain 286 = .ok (.goto 4, 3) := by decide +kernel
theorem dX4_plain_289 : decode cX4_plain 289 = .ok (.iconst 0, 1) := by decide +kernel
theorem dX4_plain_290 : decode cX4_plain 290 = .ok (.invokestatic 96, 3) := by decide +kernel
theorem dX4_plain_293 : decode cX4_plain 293 = .ok (.ireturn, 1) := by decide +kernel
theorem dX4_plain_294 : decode cX4_plain 294 = .ok (.iload_n 2, 1) := by decide +kernel
theorem dX4_plain_295 : decode cX4_plain 295 = .ok (.ifCond .eq 7, 3) := by decide +kernel
theorem dX4_plain_298 : decode cX4_plain 298 = .ok (.iload_n 3, 1) := by decide +kernel
theorem dX4_plain_299 : decode cX4_plain 299 = .ok (.goto 5, 3) := by decide +kernel
theorem dX4_plain_302 : decode cX4_plain 302 = .ok (.iload 4, 2) := by decide +kernel
theorem dX4_plain_304 : decode cX4_plain 304 = .ok (.ireturn, 1) := by decide +kernel
theorem dX4_plain_305 : decode cX4_plain 305 = .ok (.aload_n 0, 1) := by decide +kernel
theorem dX4_plain_306 : decode cX4_plain 306 = .ok (.iload_n 2, 1) := by decide +kernel
theorem dX4_plain_307 : decode cX4_plain 307 = .ok (.iconst 0, 1) := by decide +kernel
theorem dX4_plain_308 : decode cX4_plain 308 = .ok (.bipush 7, 2) := by decide +kernel
theorem dX4_plain_310 : decode cX4_plain 310 = .ok (.invokestatic 72, 3) := by decide +kernel
theorem dX4_plain_313 : decode cX4_plain 313 = .ok (.ifCond .eq 7, 3) := by decide +kernel
theorem dX4_plain_316 : decode cX4_plain 316 = .ok (.iconst 0, 1) := by decide +kernel
theorem dX4_plain_317 : decode cX4_plain 317 = .ok (.goto 4, 3) := by decide +kernel
theorem dX4_plain_320 : decode cX4_plain 320 = .ok (.iconst 2, 1) := by decide +kernel
theorem dX4_plain_321 : decode cX4_plain 321 = .ok (.putfield 93, 3) := by decide +kernel
theorem dX4_plain_324 : decode cX4_plain 324 = .ok (.aload_n 0, 1) := by decide +kernel
theorem dX4_plain_325 : decode cX4_plain 325 = .ok (.getfield 93, 3) := by decide +kernel
theorem dX4_plain_328 : decode cX4_plain 328 = .ok (.ifCond .ne 17, 3) := by decide +kernel
theorem dX4_plain_331 : decode cX4_plain 331 = .ok (.aload_n 0, 1) := by decide +kernel
theorem dX4_plain_332 : decode cX4_plain 332 = .ok (.getfield 34, 3) := by decide +kernel
theorem dX4_plain_335 : decode cX4_plain 335 = .ok (.bipush 8, 2) := by decide +kernel
theorem dX4_plain_337 : decode cX4_plain 337 = .ok (.iload_n 1, 1) := by decide +kernel
theorem dX4_plain_338 : decode cX4_plain 338 = .ok (.imul, 1) := by decide +kernel
theorem dX4_plain_339 : decode cX4_plain 339 = .ok (.iload_n 2, 1) := by decide +kernel
theorem dX4_plain_340 : decode cX4_plain 340 = .ok (.iadd, 1) := by decide +kernel
theorem dX4_plain_341 : decode cX4_plain 341 = .ok (.iaload, 1) := by decide +kernel
theorem dX4_plain_342 : decode cX4_plain 342 = .ok (.goto 4, 3) := by decide +kernel
theorem dX4_plain_345 : decode cX4_plain 345 = .ok (.iconst 0, 1) := by decide +kernel
theorem dX4_plain_346 : decode cX4_plain 346 = .ok (.ireturn, 1) := by decide +kernel
theorem dX4_ramp_0 : decode cX4_ramp 0 = .ok (.aload_n 0, 1) := by decide +kernel
theorem dX4_ramp_1 : decode cX4_ramp 1 = .ok (.getfield 13, 3) := by decide +kernel
theorem dX4_ramp_4 : decode cX4_ramp 4 = .ok (.iload_n 1, 1) := by decide +kernel
theorem dX4_ramp_5 : decode cX4_ramp 5 = .ok (.iaload, 1) := by decide +kernel
theorem dX4_ramp_6 : decode cX4_ramp 6 = .ok (.ifCond .ge 7, 3) := by decide +kernel
theorem dX4_ramp_9 : decode cX4_ramp 9 = .ok (.lconst 0, 1) := by decide +kernel
theorem dX4_ramp_10 : decode cX4_ramp 10 = .ok (.goto 10, 3) := by decide +kernel
theorem dX4_ramp_13 : decode cX4_ramp 13 = .ok (.aload_n 0, 1) := by decide +kernel
theorem dX4_ramp_14 : decode cX4_ramp 14 = .ok (.getfield 13, 3) := by decide +kernel
theorem dX4_ramp_17 : decode cX4_ramp 17 = .ok (.iload_n 1, 1) := by decide +kernel
theorem dX4_ramp_18 : decode cX4_ramp 18 = .ok (.iaload, 1) := by decide +kernel
theorem dX4_ramp_19 : decode cX4_ramp 19 = .ok (.i2l, 1) := by decide +kernel
theorem dX4_ramp_20 : decode cX4_ramp 20 = .ok (.lstore_n 3, 1) := by decide +kernel
theorem dX4_ramp_21 : decode cX4_ramp 21 = .ok (.iload_n 2, 1) := by decide +kernel
theorem dX4_ramp_22 : decode cX4_ramp 22 = .ok (.i2l, 1) := by decide +kernel
theorem dX4_ramp_23 : decode cX4_ramp 23 = .ok (.aload_n 0, 1) := by decide +kernel
theorem dX4_ramp_24 : decode cX4_ramp 24 = .ok (.getfield 25, 3) := by decide +kernel
theorem dX4_ramp_27 : decode cX4_ramp 27 = .ok (.iload_n 1, 1) := by decide +kernel
theorem dX4_ramp_28 : decode cX4_ramp 28 = .ok (.iaload, 1) := by decide +kernel
theorem dX4_ramp_29 : decode cX4_ramp 29 = .ok (.i2l, 1) := by decide +kernel
theorem dX4_ramp_30 : decode cX4_ramp 30 = .ok (.lsub, 1) := by decide +kernel
theorem dX4_ramp_31 : decode cX4_ramp 31 = .ok (.lstore 5, 2) := by decide +kernel
theorem dX4_ramp_33 : decode cX4_ramp 33 = .ok (.lload 5, 2) := by decide +kernel
theorem dX4_ramp_35 : decode cX4_ramp 35 = .ok (.lload_n 3, 1) := by decide +kernel
theorem dX4_ramp_36 : decode cX4_ramp 36 = .ok (.lneg, 1) := by decide +kernel
theorem dX4_ramp_37 : decode cX4_ramp 37 = .ok (.lcmp, 1) := by decide +kernel
theorem dX4_ramp_38 : decode cX4_ramp 38 = .ok (.ifCond .lt 14, 3) := by decide +kernel
theorem dX4_ramp_41 : decode cX4_ramp 41 = .ok (.lload 5, 2) := by decide +kernel
theorem dX4_ramp_43 : decode cX4_ramp 43 = .ok (.lload_n 3, 1) := by decide +kernel
theorem dX4_ramp_44 : decode cX4_ramp 44 = .ok (.lcmp, 1) := by decide +kernel
theorem dX4_ramp_45 : decode cX4_ramp 45 = .ok (.ifCond .gt 7, 3) := by decide +kernel
theorem dX4_ramp_48 : decode cX4_ramp 48 = .ok (.iload_n 2, 1) := by decide +kernel
theorem dX4_ramp_49 : decode cX4_ramp 49 = .ok (.goto 33, 3) := by decide +kernel
theorem dX4_ramp_52 : decode cX4_ramp 52 = .ok (.lload 5, 2) := by decide +kernel
theorem dX4_ramp_54 : decode cX4_ramp 54 = .ok (.lconst 0, 1) := by decide +kernel
theorem dX4_ramp_55 : decode cX4_ramp 55 = .ok (.lcmp, 1) := by decide +kernel
theorem dX4_ramp_56 : decode cX4_ramp 56 = .ok (.ifCond .le 16, 3) := by decide +kernel
theorem dX4_ramp_59 : decode cX4_ramp 59 = .ok (.aload_n 0, 1) := by decide +kernel
theorem dX4_ramp_60 : decode cX4_ramp 60 = .ok (.getfield 25, 3) := by decide +kernel
theorem dX4_ramp_63 : decode cX4_ramp 63 = .ok (.iload_n 1, 1) := by decide +kernel
theorem dX4_ramp_64 : decode cX4_ramp 64 = .ok (.iaload, 1) := by decide +kernel
theorem dX4_ramp_65 : decode cX4_ramp 65 = .ok (.i2l, 1) := by decide +kernel
theorem dX4_ramp_66 : decode cX4_ramp 66 = .ok (.lload_n 3, 1) := by decide +kernel
theorem dX4_ramp_67 : decode cX4_ramp 67 = .ok (.ladd, 1) := by decide +kernel
theorem dX4_ramp_68 : decode cX4_ramp 68 = .ok (.l2i, 1) := by decide +kernel
theorem dX4_ramp_69 : decode cX4_ramp 69 = .ok (.goto 13, 3) := by decide +kernel
theorem dX4_ramp_72 : decode cX4_ramp 72 = .ok (.aload_n 0, 1) := by decide +kernel
theorem dX4_ramp_73 : decode cX4_ramp 73 = .ok (.getfield 25, 3) := by decide +kernel
theorem dX4_ramp_76 : decode cX4_ramp 76 = .ok (.iload_n 1, 1) := by decide +kernel
theorem dX4_ramp_77 : decode cX4_ramp 77 = .ok (.iaload, 1) := by decide +kernel
theorem dX4_ramp_78 : decode cX4_ramp 78 = .ok (.i2l, 1) := by decide +kernel
theorem dX4_ramp_79 : decode cX4_ramp 79 = .ok (.lload_n 3, 1) := by decide +kernel
theorem dX4_ramp_80 : decode cX4_ramp 80 = .ok (.lsub, 1) := by decide +kernel
theorem dX4_ramp_81 : decode cX4_ramp 81 = .ok (.l2i, 1) := by decide +kernel
theorem dX4_ramp_82 : decode cX4_ramp 82 = .ok (.ireturn, 1) := by decide +kernel
theorem dX4_clock_0 : decode cX4_clock 0 = .ok (.aload_n 0, 1) := by decide +kernel
theorem dX4_clock_1 : decode cX4_clock 1 = .ok (.getfield 100, 3) := by decide +kernel
theorem dX4_clock_4 : decode cX4_clock 4 = .ok (.sipush 1440, 3) := by decide +kernel
theorem dX4_clock_7 : decode cX4_clock 7 = .ok (.irem, 1) := by decide +kernel
theorem dX4_clock_8 : decode cX4_clock 8 = .ok (.istore_n 2, 1) := by decide +kernel
theorem dX4_clock_9 : decode cX4_clock 9 = .ok (.aload_n 0, 1) := by decide +kernel
theorem dX4_clock_10 : decode cX4_clock 10 = .ok (.getfield 13, 3) := by decide +kernel
theorem dX4_clock_13 : decode cX4_clock 13 = .ok (.iload_n 1, 1) := by decide +kernel
theorem dX4_clock_14 : decode cX4_clock 14 = .ok (.iaload, 1) := by decide +kernel
theorem dX4_clock_15 : decode cX4_clock 15 = .ok (.aload_n 0, 1) := by decide +kernel
theorem dX4_clock_16 : decode cX4_clock 16 = .ok (.getfield 16, 3) := by decide +kernel
theorem dX4_clock_19 : decode cX4_clock 19 = .ok (.iload_n 1, 1) := by decide +kernel
theorem dX4_clock_20 : decode cX4_clock 20 = .ok (.iaload, 1) := by decide +kernel
theorem dX4_clock_21 : decode cX4_clock 21 = .ok (.if_icmp .le 31, 3) := by decide +kernel
theorem dX4_clock_24 : decode cX4_clock 24 = .ok (.iload_n 2, 1) := by decide +kernel
theorem dX4_clock_25 : decode cX4_clock 25 = .ok (.aload_n 0, 1) := by decide +kernel
theorem dX4_clock_26 : decode cX4_clock 26 = .ok (.getfield 13, 3) := by decide +kernel
theorem dX4_clock_29 : decode cX4_clock 29 = .ok (.iload_n 1, 1) := by decide +kernel
theorem dX4_clock_30 : decode cX4_clock 30 = .ok (.iaload, 1) := by decide +kernel
theorem dX4_clock_31 : decode cX4_clock 31 = .ok (.if_icmp .ge 13, 3) := by decide +kernel
theorem dX4_clock_34 : decode cX4_clock 34 = .ok (.iload_n 2, 1) := by decide +kernel
theorem dX4_clock_35 : decode cX4_clock 35 = .ok (.aload_n 0, 1) := by decide +kernel
theorem dX4_clock_36 : decode cX4_clock 36 = .ok (.getfield 16, 3) := by decide +kernel
theorem dX4_clock_39 : decode cX4_clock 39 = .ok (.iload_n 1, 1) := by decide +kernel
theorem dX4_clock_40 : decode cX4_clock 40 = .ok (.iaload, 1) := by decide +kernel
theorem dX4_clock_41 : decode cX4_clock 41 = .ok (.if_icmp .ge 7, 3) := by decide +kernel
theorem dX4_clock_44 : decode cX4_clock 44 = .ok (.iconst 1, 1) := by decide +kernel
theorem dX4_clock_45 : decode cX4_clock 45 = .ok (.goto 32, 3) := by decide +kernel
theorem dX4_clock_48 : decode cX4_clock 48 = .ok (.iconst 0, 1) := by decide +kernel
theorem dX4_clock_49 : decode cX4_clock 49 = .ok (.goto 28, 3) := by decide +kernel
theorem dX4_clock_52 : decode cX4_clock 52 = .ok (.iload_n 2, 1) := by decide +kernel
theorem dX4_clock_53 : decode cX4_clock 53 = .ok (.aload_n 0, 1) := by decide +kernel
theorem dX4_clock_54 : decode cX4_clock 54 = .ok (.getfield 13, 3) := by decide +kernel
theorem dX4_clock_57 : decode cX4_clock 57 = .ok (.iload_n 1, 1) := by decide +kernel
theorem dX4_clock_58 : decode cX4_clock 58 = .ok (.iaload, 1) := by decide +kernel
theorem dX4_clock_59 : decode cX4_clock 59 = .ok (.if_icmp .lt 17, 3) := by decide +kernel
theorem dX4_clock_62 : decode cX4_clock 62 = .ok (.iload_n 2, 1) := by decide +kernel
theorem dX4_clock_63 : decode cX4_clock 63 = .ok (.aload_n 0, 1) := by decide +kernel
theorem dX4_clock_64 : decode cX4_clock 64 = .ok (.getfield 16, 3) := by decide +kernel
theorem dX4_clock_67 : decode cX4_clock 67 = .ok (.iload_n 1, 1) := by decide +kernel
theorem dX4_clock_68 : decode cX4_clock 68 = .ok (.iaload, 1) := by decide +kernel
theorem dX4_clock_69 : decode cX4_clock 69 = .ok (.if_icmp .ge 7, 3) := by decide +kernel
theorem dX4_clock_72 : decode cX4_clock 72 = .ok (.iconst 1, 1) := by decide +kernel
theorem dX4_clock_73 : decode cX4_clock 73 = .ok (.goto 4, 3) := by decide +kernel
theorem dX4_clock_76 : decode cX4_clock 76 = .ok (.iconst 0, 1) := by decide +kernel
theorem dX4_clock_77 : decode cX4_clock 77 = .ok (.ireturn, 1) := by decide +kernel
theorem dX4_pulse_0 : decode cX4_pulse 0 = .ok (.iload_n 2, 1) := by decide +kernel
theorem dX4_pulse_1 : decode cX4_pulse 1 = .ok (.ifCond .eq 24, 3) := by decide +kernel
theorem dX4_pulse_4 : decode cX4_pulse 4 = .ok (.aload_n 0, 1) := by decide +kernel
theorem dX4_pulse_5 : decode cX4_pulse 5 = .ok (.getfield 31, 3) := by decide +kernel
theorem dX4_pulse_8 : decode cX4_pulse 8 = .ok (.iload_n 1, 1) := by decide +kernel
theorem dX4_pulse_9 : decode cX4_pulse 9 = .ok (.iaload, 1) := by decide +kernel
theorem dX4_pulse_10 : decode cX4_pulse 10 = .ok (.ifCond .ne 15, 3) := by decide +kernel
theorem dX4_pulse_13 : decode cX4_pulse 13 = .ok (.aload_n 0, 1) := by decide +kernel
theorem dX4_pulse_14 : decode cX4_pulse 14 = .ok (.getfield 28, 3) := by decide +kernel
theorem dX4_pulse_17 : decode cX4_pulse 17 = .ok (.iload_n 1, 1) := by decide +kernel
theorem dX4_pulse_18 : decode cX4_pulse 18 = .ok (.aload_n 0, 1) := by decide +kernel
theorem dX4_pulse_19 : decode cX4_pulse 19 = .ok (.getfield 13, 3) := by decide +kernel
theorem dX4_pulse_22 : decode cX4_pulse 22 = .ok (.iload_n 1, 1) := by decide +kernel
theorem dX4_pulse_23 : decode cX4_pulse 23 = .ok (.iaload, 1) := by decide +kernel
theorem dX4_pulse_24 : decode cX4_pulse 24 = .ok (.iastore, 1) := by decide +kernel
theorem dX4_pulse_25 : decode cX4_pulse 25 = .ok (.aload_n 0, 1) := by decide +kernel
theorem dX4_pulse_26 : decode cX4_pulse 26 = .ok (.getfield 31, 3) := by decide +kernel
theorem dX4_pulse_29 : decode cX4_pulse 29 = .ok (.iload_n 1, 1) := by decide +kernel
theorem dX4_pulse_30 : decode cX4_pulse 30 = .ok (.iload_n 2, 1) := by decide +kernel
theorem dX4_pulse_31 : decode cX4_pulse 31 = .ok (.iastore, 1) := by decide +kernel
theorem dX4_pulse_32 : decode cX4_pulse 32 = .ok (.aload_n 0, 1) := by decide +kernel
theorem dX4_pulse_33 : decode cX4_pulse 33 = .ok (.getfield 28, 3) := by decide +kernel
theorem dX4_pulse_36 : decode cX4_pulse 36 = .ok (.iload_n 1, 1) := by decide +kernel
theorem dX4_pulse_37 : decode cX4_pulse 37 = .ok (.iaload, 1) := by decide +kernel
theorem dX4_pulse_38 : decode cX4_pulse 38 = .ok (.ifCond .gt 5, 3) := by decide +kernel
theorem dX4_pulse_41 : decode cX4_pulse 41 = .ok (.iconst 0, 1) := by decide +kernel
theorem dX4_pulse_42 : decode cX4_pulse 42 = .ok (.ireturn, 1) := by decide +kernel
theorem dX4_pulse_43 : decode cX4_pulse 43 = .ok (.aload_n 0, 1) := by decide +kernel
theorem dX4_pulse_44 : decode cX4_pulse 44 = .ok (.getfield 28, 3) := by decide +kernel
theorem dX4_pulse_47 : decode cX4_pulse 47 = .ok (.iload_n 1, 1) := by decide +kernel
theorem dX4_pulse_48 : decode cX4_pulse 48 = .ok (.dup2, 1) := by decide +kernel
theorem dX4_pulse_49 : decode cX4_pulse 49 = .ok (.iaload, 1) := by decide +kernel
theorem dX4_pulse_50 : decode cX4_pulse 50 = .ok (.iconst 1, 1) := by decide +kernel
theorem dX4_pulse_51 : decode cX4_pulse 51 = .ok (.isub, 1) := by decide +kernel
theorem dX4_pulse_52 : decode cX4_pulse 52 = .ok (.iastore, 1) := by decide +kernel
theorem dX4_pulse_53 : decode cX4_pulse 53 = .ok (.iconst 1, 1) := by decide +kernel
theorem dX4_pulse_54 : decode cX4_pulse 54 = .ok (.ireturn, 1) := by decide +kernel
theorem dX4_since_0 : decode cX4_since 0 = .ok (.iload_n 2, 1) := by decide +kernel
theorem dX4_since_1 : decode cX4_since 1 = .ok (.ifCond .eq 14, 3) := by decide +kernel
theorem dX4_since_4 : decode cX4_since 4 = .ok (.aload_n 0, 1) := by decide +kernel
theorem dX4_since_5 : decode cX4_since 5 = .ok (.getfield 28, 3) := by decide +kernel
theorem dX4_since_8 : decode cX4_since 8 = .ok (.iload_n 1, 1) := by decide +kernel
theorem dX4_since_9 : decode cX4_since 9 = .ok (.iaload, 1) := by decide +kernel
theorem dX4_since_10 : decode cX4_since 10 = .ok (.iconst 1, 1) := by decide +kernel
theorem dX4_since_11 : decode cX4_since 11 = .ok (.iadd, 1) := by decide +kernel
theorem dX4_since_12 : decode cX4_since 12 = .ok (.goto 4, 3) := by decide +kernel
theorem dX4_since_15 : decode cX4_since 15 = .ok (.iconst 0, 1) := by decide +kernel
theorem dX4_since_16 : decode cX4_since 16 = .ok (.istore_n 3, 1) := by decide +kernel
theorem dX4_since_17 : decode cX4_since 17 = .ok (.aload_n 0, 1) := by decide +kernel
theorem dX4_since_18 : decode cX4_since 18 = .ok (.getfield 28, 3) := by decide +kernel
theorem dX4_since_21 : decode cX4_since 21 = .ok (.iload_n 1, 1) := by decide +kernel
theorem dX4_since_22 : decode cX4_since 22 = .ok (.iload_n 3, 1) := by decide +kernel
theorem dX4_since_23 : decode cX4_since 23 = .ok (.aload_n 0, 1) := by decide +kernel
theorem dX4_since_24 : decode cX4_since 24 = .ok (.getfield 13, 3) := by decide +kernel
theorem dX4_since_27 : decode cX4_since 27 = .ok (.iload_n 1, 1) := by decide +kernel
theorem dX4_since_28 : decode cX4_since 28 = .ok (.iaload, 1) := by decide +kernel
theorem dX4_since_29 : decode cX4_since 29 = .ok (.if_icmp .le 12, 3) := by decide +kernel
theorem dX4_since_32 : decode cX4_since 32 = .ok (.aload_n 0, 1) := by decide +kernel
theorem dX4_since_33 : decode cX4_since 33 = .ok (.getfield 13, 3) := by decide +kernel
theorem dX4_since_36 : decode cX4_since 36 = .ok (.iload_n 1, 1) := by decide +kernel
theorem dX4_since_37 : decode cX4_since 37 = .ok (.iaload, 1) := by decide +kernel
theorem dX4_since_38 : decode cX4_since 38 = .ok (.goto 4, 3) := by decide +kernel
theorem dX4_since_41 : decode cX4_since 41 = .ok (.iload_n 3, 1) := by decide +kernel
theorem dX4_since_42 : decode cX4_since 42 = .ok (.iastore, 1) := by decide +kernel
theorem dX4_since_43 : decode cX4_since 43 = .ok (.aload_n 0, 1) := by decide +kernel
theorem dX4_since_44 : decode cX4_since 44 = .ok (.getfield 28, 3) := by decide +kernel
theorem dX4_since_47 : decode cX4_since 47 = .ok (.iload_n 1, 1) := by decide +kernel
theorem dX4_since_48 : decode cX4_since 48 = .ok (.iaload, 1) := by decide +kernel
theorem dX4_since_49 : decode cX4_since 49 = .ok (.ireturn, 1) := by decide +kernel
set_option maxRecDepth 20000 in
theorem ggX4_withState_X4_ramp : GoodIn wsX4_withState wsX4_ramp := goodIn_r _ [11, 4, 6, 28, 29, 30, 31, 32, 33, 34, 35, 36, 37, 38, 39, 40, 41, 42, 43, 44, 45, 46, 47, 48, 49, 50, 51, 52] (by decide +kernel) (by decide +kernel)
set_option maxRecDepth 20000 in
theorem gX4_withState_X4_ramp : GoodIn wsX4_withState (wsV RX4 103 RX4 yX4_ramp wsX4_ramp) := goodIn_app (goodIn_of _ (by decide +kernel)) ggX4_withState_X4_ramp
set_option maxRecDepth 20000 in
theorem ggX4_withState_X4_clock : GoodIn wsX4_withState wsX4_clock := goodIn_r _ [15, 16, 4, 5, 28, 29, 30, 31, 32, 33, 34, 35, 36, 37, 38, 39, 40, 41, 42, 43, 44, 45, 46, 47, 48, 49, 50, 51, 52] (by decide +kernel) (by decide +kernel)
set_option maxRecDepth 20000 in
theorem gX4_withState_X4_clock : GoodIn wsX4_withState (wsV RX4 107 RX4 yX4_clock wsX4_clock) := goodIn_app (goodIn_of _ (by decide +kernel)) ggX4_withState_X4_clock
set_option maxRecDepth 20000 in
theorem ggX4_withState_X4_one : GoodIn wsX4_withState wsX4_one := goodIn_r _ [19] (by decide +kernel) (by decide +kernel)
set_option maxRecDepth 20000 in
theorem gX4_withState_X4_one : GoodIn wsX4_withState (va_wsS RX4 96 yX4_one wsX4_one) := goodIn_app (goodIn_of _ (by decide +kernel)) ggX4_withState_X4_one
set_option maxRecDepth 20000 in
theorem ggX4_withState_X4_pulse : GoodIn wsX4_withState wsX4_pulse := goodIn_r _ [23, 3, 2, 4, 28, 29, 30, 31, 32, 33, 34, 35, 36, 37, 38, 39, 40, 41, 42, 43, 44, 45, 46, 47, 48, 49, 50, 51, 52] (by decide +kernel) (by decide +kernel)
set_option maxRecDepth 20000 in
theorem gX4_withState_X4_pulse : GoodIn wsX4_withState (wsV RX4 110 RX4 yX4_pulse wsX4_pulse) := goodIn_app (goodIn_of _ (by decide +kernel)) ggX4_withState_X4_pulse
set_option maxRecDepth 20000 in
theorem ggX4_withState_X4_since : GoodIn wsX4_withState wsX4_since := goodIn_r _ [27, 2, 4, 28, 29, 30, 31, 32, 33, 34, 35, 36, 37, 38, 39, 40, 41, 42, 43, 44, 45, 46, 47, 48, 49, 50, 51, 52] (by decide +kernel) (by decide +kernel)
set_option maxRecDepth 20000 in
theorem gX4_withState_X4_since : GoodIn wsX4_withState (wsV RX4 113 RX4 yX4_since wsX4_since) := goodIn_app (goodIn_of _ (by decide +kernel)) ggX4_withState_X4_since
