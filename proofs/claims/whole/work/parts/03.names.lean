set_option maxRecDepth 20000 in
theorem ggX1_isIn_X1_isClient : GoodIn wsX1_isIn wsX1_isClient := goodIn_r _ [6, 7, 8, 9, 10, 11, 12, 13, 14, 15] (by decide +kernel) (by decide +kernel)
set_option maxRecDepth 20000 in
theorem gX1_isIn_X1_isClient : GoodIn wsX1_isIn (wsV RX1 31 RX1 yX1_isClient wsX1_isClient) := goodIn_app (goodIn_of _ (by decide +kernel)) ggX1_isIn_X1_isClient
theorem dX1_isIn_0 : decode cX1_isIn 0 = .ok (.aload_n 0, 1) := by decide +kernel
theorem dX1_isIn_1 : decode cX1_isIn 1 = .ok (.iload_n 1, 1) := by decide +kernel
theorem dX1_isIn_2 : decode cX1_isIn 2 = .ok (.invokevirtual 31, 3) := by decide +kernel
theorem dX1_isIn_5 : decode cX1_isIn 5 = .ok (.ifCond .eq 16, 3) := by decide +kernel
theorem dX1_isIn_8 : decode cX1_isIn 8 = .ok (.aload_n 0, 1) := by decide +kernel
theorem dX1_isIn_9 : decode cX1_isIn 9 = .ok (.getfield 7, 3) := by decide +kernel
theorem dX1_isIn_12 : decode cX1_isIn 12 = .ok (.iload_n 1, 1) := by decide +kernel
theorem dX1_isIn_13 : decode cX1_isIn 13 = .ok (.baload, 1) := by decide +kernel
theorem dX1_isIn_14 : decode cX1_isIn 14 = .ok (.ifCond .eq 7, 3) := by decide +kernel
theorem dX1_isIn_17 : decode cX1_isIn 17 = .ok (.iconst 1, 1) := by decide +kernel
theorem dX1_isIn_18 : decode cX1_isIn 18 = .ok (.goto 4, 3) := by decide +kernel
theorem dX1_isIn_21 : decode cX1_isIn 21 = .ok (.iconst 0, 1) := by decide +kernel
theorem dX1_isIn_22 : decode cX1_isIn 22 = .ok (.ireturn, 1) := by decide +kernel
theorem dX1_areTickets_0 : decode cX1_areTickets 0 = .ok (.iload_n 1, 1) := by decide +kernel
theorem dX1_areTickets_1 : decode cX1_areTickets 1 = .ok (.ifCond .le 15, 3) := by decide +kernel
theorem dX1_areTickets_4 : decode cX1_areTickets 4 = .ok (.iload_n 1, 1) := by decide +kernel
theorem dX1_areTickets_5 : decode cX1_areTickets 5 = .ok (.aload_n 0, 1) := by decide +kernel
theorem dX1_areTickets_6 : decode cX1_areTickets 6 = .ok (.getfield 28, 3) := by decide +kernel
theorem dX1_areTickets_9 : decode cX1_areTickets 9 = .ok (.if_icmp .ge 7, 3) := by decide +kernel
theorem dX1_areTickets_12 : decode cX1_areTickets 12 = .ok (.iconst 1, 1) := by decide +kernel
theorem dX1_areTickets_13 : decode cX1_areTickets 13 = .ok (.goto 4, 3) := by decide +kernel
theorem dX1_areTickets_16 : decode cX1_areTickets 16 = .ok (.iconst 0, 1) := by decide +kernel
theorem dX1_areTickets_17 : decode cX1_areTickets 17 = .ok (.ireturn, 1) := by decide +kernel
theorem dX1_isBefore_0 : decode cX1_isBefore 0 = .ok (.aload_n 0, 1) := by decide +kernel
theorem dX1_isBefore_1 : decode cX1_isBefore 1 = .ok (.getfield 17, 3) := by decide +kernel
theorem dX1_isBefore_4 : decode cX1_isBefore 4 = .ok (.iload_n 1, 1) := by decide +kernel
theorem dX1_isBefore_5 : decode cX1_isBefore 5 = .ok (.laload, 1) := by decide +kernel
theorem dX1_isBefore_6 : decode cX1_isBefore 6 = .ok (.aload_n 0, 1) := by decide +kernel
theorem dX1_isBefore_7 : decode cX1_isBefore 7 = .ok (.getfield 17, 3) := by decide +kernel
theorem dX1_isBefore_10 : decode cX1_isBefore 10 = .ok (.iload_n 2, 1) := by decide +kernel
theorem dX1_isBefore_11 : decode cX1_isBefore 11 = .ok (.laload, 1) := by decide +kernel
theorem dX1_isBefore_12 : decode cX1_isBefore 12 = .ok (.lcmp, 1) := by decide +kernel
theorem dX1_isBefore_13 : decode cX1_isBefore 13 = .ok (.ifCond .lt 24, 3) := by decide +kernel
theorem dX1_isBefore_16 : decode cX1_isBefore 16 = .ok (.aload_n 0, 1) := by decide +kernel
theorem dX1_isBefore_17 : decode cX1_isBefore 17 = .ok (.getfield 17, 3) := by decide +kernel
theorem dX1_isBefore_20 : decode cX1_isBefore 20 = .ok (.iload_n 1, 1) := by decide +kernel
theorem dX1_isBefore_21 : decode cX1_isBefore 21 = .ok (.laload, 1) := by decide +kernel
theorem dX1_isBefore_22 : decode cX1_isBefore 22 = .ok (.aload_n 0, 1) := by decide +kernel
theorem dX1_isBefore_23 : decode cX1_isBefore 23 = .ok (.getfield 17, 3) := by decide +kernel
theorem dX1_isBefore_26 : decode cX1_isBefore 26 = .ok (.iload_n 2, 1) := by decide +kernel
theorem dX1_isBefore_27 : decode cX1_isBefore 27 = .ok (.laload, 1) := by decide +kernel
theorem dX1_isBefore_28 : decode cX1_isBefore 28 = .ok (.lcmp, 1) := by decide +kernel
theorem dX1_isBefore_29 : decode cX1_isBefore 29 = .ok (.ifCond .ne 12, 3) := by decide +kernel
theorem dX1_isBefore_32 : decode cX1_isBefore 32 = .ok (.iload_n 1, 1) := by decide +kernel
theorem dX1_isBefore_33 : decode cX1_isBefore 33 = .ok (.iload_n 2, 1) := by decide +kernel
theorem dX1_isBefore_34 : decode cX1_isBefore 34 = .ok (.if_icmp .ge 7, 3) := by decide +kernel
theorem dX1_isBefore_37 : decode cX1_isBefore 37 = .ok (.iconst 1, 1) := by decide +kernel
theorem dX1_isBefore_38 : decode cX1_isBefore 38 = .ok (.goto 4, 3) := by decide +kernel
theorem dX1_isBefore_41 : decode cX1_isBefore 41 = .ok (.iconst 0, 1) := by decide +kernel
theorem dX1_isBefore_42 : decode cX1_isBefore 42 = .ok (.ireturn, 1) := by decide +kernel
set_option maxRecDepth 20000 in
theorem ggX1_first_X1_isBefore : GoodIn wsX1_first wsX1_isBefore := goodIn_r _ [7, 8, 9, 10, 11, 12, 13, 14, 15, 16] (by decide +kernel) (by decide +kernel)
set_option maxRecDepth 20000 in
theorem gX1_first_X1_isBefore : GoodIn wsX1_first (wsV RX1 35 RX1 yX1_isBefore wsX1_isBefore) := goodIn_app (goodIn_of _ (by decide +kernel)) ggX1_first_X1_isBefore
theorem dX1_first_0 : decode cX1_first 0 = .ok (.iconst (-1), 1) := by decide +kernel
theorem dX1_first_1 : decode cX1_first 1 = .ok (.istore_n 1, 1) := by decide +kernel
theorem dX1_first_2 : decode cX1_first 2 = .ok (.iconst 0, 1) := by decide +kernel
theorem dX1_first_3 : decode cX1_first 3 = .ok (.istore_n 2, 1) := by decide +kernel
theorem dX1_first_4 : decode cX1_first 4 = .ok (.iload_n 2, 1) := by decide +kernel
theorem dX1_first_5 : decode cX1_first 5 = .ok (.aload_n 0, 1) := by decide +kernel
theorem dX1_first_6 : decode cX1_first 6 = .ok (.getfield 24, 3) := by decide +kernel
theorem dX1_first_9 : decode cX1_first 9 = .ok (.if_icmp .ge 33, 3) := by decide +kernel
theorem dX1_first_12 : decode cX1_first 12 = .ok (.aload_n 0, 1) := by decide +kernel
theorem dX1_first_13 : decode cX1_first 13 = .ok (.getfield 7, 3) := by decide +kernel
theorem dX1_first_16 : decode cX1_first 16 = .ok (.iload_n 2, 1) := by decide +kernel
theorem dX1_first_17 : decode cX1_first 17 = .ok (.baload, 1) := by decide +kernel
theorem dX1_first_18 : decode cX1_first 18 = .ok (.ifCond .eq 18, 3) := by decide +kernel
theorem dX1_first_21 : decode cX1_first 21 = .ok (.iload_n 1, 1) := by decide +kernel
theorem dX1_first_22 : decode cX1_first 22 = .ok (.ifCond .lt 12, 3) := by decide +kernel
theorem dX1_first_25 : decode cX1_first 25 = .ok (.aload_n 0, 1) := by decide +kernel
theorem dX1_first_26 : decode cX1_first 26 = .ok (.iload_n 2, 1) := by decide +kernel
theorem dX1_first_27 : decode cX1_first 27 = .ok (.iload_n 1, 1) := by decide +kernel
theorem dX1_first_28 : decode cX1_first 28 = .ok (.invokevirtual 35, 3) := by decide +kernel
theorem dX1_first_31 : decode cX1_first 31 = .ok (.ifCond .eq 5, 3) := by decide +kernel
theorem dX1_first_34 : decode cX1_first 34 = .ok (.iload_n 2, 1) := by decide +kernel
theorem dX1_first_35 : decode cX1_first 35 = .ok (.istore_n 1, 1) := by decide +kernel
theorem dX1_first_36 : decode cX1_first 36 = .ok (.iinc 2 1, 3) := by decide +kernel
theorem dX1_first_39 : decode cX1_first 39 = .ok (.goto (-35), 3) := by decide +kernel
theorem dX1_first_42 : decode cX1_first 42 = .ok (.iload_n 1, 1) := by decide +kernel
theorem dX1_first_43 : decode cX1_first 43 = .ok (.ireturn, 1) := by decide +kernel
set_option maxRecDepth 20000 in
theorem ggX1_join_X1_isClient : GoodIn wsX1_join wsX1_isClient := goodIn_r _ [10, 11, 25, 26, 27, 28, 29, 30, 31, 32] (by decide +kernel) (by decide +kernel)
set_option maxRecDepth 20000 in
theorem gX1_join_X1_isClient : GoodIn wsX1_join (wsV RX1 31 RX1 yX1_isClient wsX1_isClient) := goodIn_app (goodIn_of _ (by decide +kernel)) ggX1_join_X1_isClient
set_option maxRecDepth 20000 in
theorem ggX1_join_X1_areTickets : GoodIn wsX1_join wsX1_areTickets := goodIn_r _ [15, 16, 25, 26, 27, 28, 29, 30, 31, 32] (by decide +kernel) (by decide +kernel)
set_option maxRecDepth 20000 in
theorem gX1_join_X1_areTickets : GoodIn wsX1_join (wsV RX1 39 RX1 yX1_areTickets wsX1_areTickets) := goodIn_app (goodIn_of _ (by decide +kernel)) ggX1_join_X1_areTickets
set_option maxRecDepth 20000 in
theorem ggX1_join_X1_first : GoodIn wsX1_join wsX1_first := goodIn_r _ [20, 11, 1, 21, 22, 23, 9, 24, 2, 25, 26, 27, 28, 29, 30, 31, 32] (by decide +kernel) (by decide +kernel)
set_option maxRecDepth 20000 in
theorem gX1_join_X1_first : GoodIn wsX1_join (wsV RX1 42 RX1 yX1_first wsX1_first) := goodIn_app (goodIn_of _ (by decide +kernel)) ggX1_join_X1_first
theorem dX1_join_0 : decode cX1_join 0 = .ok (.aload_n 0, 1) := by decide +kernel
theorem dX1_join_1 : decode cX1_join 1 = .ok (.iload_n 1, 1) := by decide +kernel
theorem dX1_join_2 : decode cX1_join 2 = .ok (.invokevirtual 31, 3) := by decide +kernel
theorem dX1_join_5 : decode cX1_join 5 = .ok (.ifCond .ne 5, 3) := by decide +kernel
theorem dX1_join_8 : decode cX1_join 8 = .ok (.iconst (-1), 1) := by decide +kernel
theorem dX1_join_9 : decode cX1_join 9 = .ok (.ireturn, 1) := by decide +kernel
theorem dX1_join_10 : decode cX1_join 10 = .ok (.aload_n 0, 1) := by decide +kernel
theorem dX1_join_11 : decode cX1_join 11 = .ok (.getfield 7, 3) := by decide +kernel
theorem dX1_join_14 : decode cX1_join 14 = .ok (.iload_n 1, 1) := by decide +kernel
theorem dX1_join_15 : decode cX1_join 15 = .ok (.baload, 1) := by decide +kernel
theorem dX1_join_16 : decode cX1_join 16 = .ok (.ifCond .eq 6, 3) := by decide +kernel
theorem dX1_join_19 : decode cX1_join 19 = .ok (.bipush (-2), 2) := by decide +kernel
theorem dX1_join_21 : decode cX1_join 21 = .ok (.ireturn, 1) := by decide +kernel
theorem dX1_join_22 : decode cX1_join 22 = .ok (.aload_n 0, 1) := by decide +kernel
theorem dX1_join_23 : decode cX1_join 23 = .ok (.iload_n 2, 1) := by decide +kernel
theorem dX1_join_24 : decode cX1_join 24 = .ok (.invokevirtual 39, 3) := by decide +kernel
theorem dX1_join_27 : decode cX1_join 27 = .ok (.ifCond .ne 6, 3) := by decide +kernel
theorem dX1_join_30 : decode cX1_join 30 = .ok (.bipush (-3), 2) := by decide +kernel
theorem dX1_join_32 : decode cX1_join 32 = .ok (.ireturn, 1) := by decide +kernel
theorem dX1_join_33 : decode cX1_join 33 = .ok (.aload_n 0, 1) := by decide +kernel
theorem dX1_join_34 : decode cX1_join 34 = .ok (.invokevirtual 42, 3) := by decide +kernel
theorem dX1_join_37 : decode cX1_join 37 = .ok (.istore_n 3, 1) := by decide +kernel
theorem dX1_join_38 : decode cX1_join 38 = .ok (.aload_n 0, 1) := by decide +kernel
theorem dX1_join_39 : decode cX1_join 39 = .ok (.getfield 17, 3) := by decide +kernel
theorem dX1_join_42 : decode cX1_join 42 = .ok (.iload_n 1, 1) := by decide +kernel
theorem dX1_join_43 : decode cX1_join 43 = .ok (.iload_n 3, 1) := by decide +kernel
theorem dX1_join_44 : decode cX1_join 44 = .ok (.ifCond .ge 10, 3) := by decide +kernel
theorem dX1_join_47 : decode cX1_join 47 = .ok (.aload_n 0, 1) := by decide +kernel
theorem dX1_join_48 : decode cX1_join 48 = .ok (.getfield 46, 3) := by decide +kernel
theorem dX1_join_51 : decode cX1_join 51 = .ok (.goto 9, 3) := by decide +kernel
theorem dX1_join_54 : decode cX1_join 54 = .ok (.aload_n 0, 1) := by decide +kernel
theorem dX1_join_55 : decode cX1_join 55 = .ok (.getfield 17, 3) := by decide +kernel
theorem dX1_join_58 : decode cX1_join 58 = .ok (.iload_n 3, 1) := by decide +kernel
theorem dX1_join_59 : decode cX1_join 59 = .ok (.laload, 1) := by decide +kernel
theorem dX1_join_60 : decode cX1_join 60 = .ok (.lastore, 1) := by decide +kernel
theorem dX1_join_61 : decode cX1_join 61 = .ok (.aload_n 0, 1) := by decide +kernel
theorem dX1_join_62 : decode cX1_join 62 = .ok (.getfield 7, 3) := by decide +kernel
theorem dX1_join_65 : decode cX1_join 65 = .ok (.iload_n 1, 1) := by decide +kernel
theorem dX1_join_66 : decode cX1_join 66 = .ok (.iconst 1, 1) := by decide +kernel
theorem dX1_join_67 : decode cX1_join 67 = .ok (.bastore, 1) := by decide +kernel
theorem dX1_join_68 : decode cX1_join 68 = .ok (.aload_n 0, 1) := by decide +kernel
theorem dX1_join_69 : decode cX1_join 69 = .ok (.getfield 13, 3) := by decide +kernel
theorem dX1_join_72 : decode cX1_join 72 = .ok (.iload_n 1, 1) := by decide +kernel
theorem dX1_join_73 : decode cX1_join 73 = .ok (.iload_n 2, 1) := by decide +kernel
theorem dX1_join_74 : decode cX1_join 74 = .ok (.iastore, 1) := by decide +kernel
theorem dX1_join_75 : decode cX1_join 75 = .ok (.aload_n 0, 1) := by decide +kernel
theorem dX1_join_76 : decode cX1_join 76 = .ok (.dup, 1) := by decide +kernel
theorem dX1_join_77 : decode cX1_join 77 = .ok (.getfield 50, 3) := by decide +kernel
theorem dX1_join_80 : decode cX1_join 80 = .ok (.iconst 1, 1) := by decide +kernel
theorem dX1_join_81 : decode cX1_join 81 = .ok (.iadd, 1) := by decide +kernel
theorem dX1_join_82 : decode cX1_join 82 = .ok (.putfield 50, 3) := by decide +kernel
theorem dX1_join_85 : decode cX1_join 85 = .ok (.iconst 1, 1) := by decide +kernel
theorem dX1_join_86 : decode cX1_join 86 = .ok (.ireturn, 1) := by decide +kernel
set_option maxRecDepth 20000 in
theorem ggX1_leave_X1_isClient : GoodIn wsX1_leave wsX1_isClient := goodIn_r _ [9, 10, 11, 12, 13, 14, 15, 16, 17, 18] (by decide +kernel) (by decide +kernel)
set_option maxRecDepth 20000 in
theorem gX1_leave_X1_isClient : GoodIn wsX1_leave (wsV RX1 31 RX1 yX1_isClient wsX1_isClient) := goodIn_app (goodIn_of _ (by decide +kernel)) ggX1_leave_X1_isClient
theorem dX1_leave_0 : decode cX1_leave 0 = .ok (.aload_n 0, 1) := by decide +kernel
theorem dX1_leave_1 : decode cX1_leave 1 = .ok (.iload_n 1, 1) := by decide +kernel
theorem dX1_leave_2 : decode cX1_leave 2 = .ok (.invokevirtual 31, 3) := by decide +kernel
theorem dX1_leave_5 : decode cX1_leave 5 = .ok (.ifCond .ne 5, 3) := by decide +kernel
theorem dX1_leave_8 : decode cX1_leave 8 = .ok (.iconst (-1), 1) := by decide +kernel
theorem dX1_leave_9 : decode cX1_leave 9 = .ok (.ireturn, 1) := by decide +kernel
theorem dX1_leave_10 : decode cX1_leave 10 = .ok (.aload_n 0, 1) := by decide +kernel
theorem dX1_leave_11 : decode cX1_leave 11 = .ok (.getfield 7, 3) := by decide +kernel
theorem dX1_leave_14 : decode cX1_leave 14 = .ok (.iload_n 1, 1) := by decide +kernel
theorem dX1_leave_15 : decode cX1_leave 15 = .ok (.baload, 1) := by decide +kernel
theorem dX1_leave_16 : decode cX1_leave 16 = .ok (.ifCond .ne 6, 3) := by decide +kernel
theorem dX1_leave_19 : decode cX1_leave 19 = .ok (.bipush (-2), 2) := by decide +kernel
theorem dX1_leave_21 : decode cX1_leave 21 = .ok (.ireturn, 1) := by decide +kernel
theorem dX1_leave_22 : decode cX1_leave 22 = .ok (.aload_n 0, 1) := by decide +kernel
theorem dX1_leave_23 : decode cX1_leave 23 = .ok (.getfield 7, 3) := by decide +kernel
theorem dX1_leave_26 : decode cX1_leave 26 = .ok (.iload_n 1, 1) := by decide +kernel
theorem dX1_leave_27 : decode cX1_leave 27 = .ok (.iconst 0, 1) := by decide +kernel
theorem dX1_leave_28 : decode cX1_leave 28 = .ok (.bastore, 1) := by decide +kernel
theorem dX1_leave_29 : decode cX1_leave 29 = .ok (.aload_n 0, 1) := by decide +kernel
theorem dX1_leave_30 : decode cX1_leave 30 = .ok (.aload_n 0, 1) := by decide +kernel
theorem dX1_leave_31 : decode cX1_leave 31 = .ok (.getfield 17, 3) := by decide +kernel
theorem dX1_leave_34 : decode cX1_leave 34 = .ok (.iload_n 1, 1) := by decide +kernel
theorem dX1_leave_35 : decode cX1_leave 35 = .ok (.laload, 1) := by decide +kernel
theorem dX1_leave_36 : decode cX1_leave 36 = .ok (.putfield 46, 3) := by decide +kernel
theorem dX1_leave_39 : decode cX1_leave 39 = .ok (.aload_n 0, 1) := by decide +kernel
theorem dX1_leave_40 : decode cX1_leave 40 = .ok (.dup, 1) := by decide +kernel
theorem dX1_leave_41 : decode cX1_leave 41 = .ok (.getfield 50, 3) := by decide +kernel
theorem dX1_leave_44 : decode cX1_leave 44 = .ok (.iconst 1, 1) := by decide +kernel
theorem dX1_leave_45 : decode cX1_leave 45 = .ok (.isub, 1) := by decide +kernel
theorem dX1_leave_46 : decode cX1_leave 46 = .ok (.putfield 50, 3) := by decide +kernel
theorem dX1_leave_49 : decode cX1_leave 49 = .ok (.iconst 1, 1) := by decide +kernel
theorem dX1_leave_50 : decode cX1_leave 50 = .ok (.ireturn, 1) := by decide +kernel
set_option maxRecDepth 20000 in
theorem ggX1_next_X1_first : GoodIn wsX1_next wsX1_first := goodIn_r _ [10, 11, 12, 13, 14, 15, 9, 16, 1, 17, 18, 19, 20, 21, 22, 23, 24] (by decide +kernel) (by decide +kernel)
set_option maxRecDepth 20000 in
theorem gX1_next_X1_first : GoodIn wsX1_next (wsV RX1 42 RX1 yX1_first wsX1_first) := goodIn_app (goodIn_of _ (by decide +kernel)) ggX1_next_X1_first
theorem dX1_next_0 : decode cX1_next 0 = .ok (.aload_n 0, 1) := by decide +kernel
theorem dX1_next_1 : decode cX1_next 1 = .ok (.invokevirtual 42, 3) := by decide +kernel
theorem dX1_next_4 : decode cX1_next 4 = .ok (.istore_n 1, 1) := by decide +kernel
theorem dX1_next_5 : decode cX1_next 5 = .ok (.iload_n 1, 1) := by decide +kernel
theorem dX1_next_6 : decode cX1_next 6 = .ok (.ifCond .ge 5, 3) := by decide +kernel
theorem dX1_next_9 : decode cX1_next 9 = .ok (.iconst (-1), 1) := by decide +kernel
theorem dX1_next_10 : decode cX1_next 10 = .ok (.ireturn, 1) := by decide +kernel
theorem dX1_next_11 : decode cX1_next 11 = .ok (.aload_n 0, 1) := by decide +kernel
theorem dX1_next_12 : decode cX1_next 12 = .ok (.getfield 17, 3) := by decide +kernel
theorem dX1_next_15 : decode cX1_next 15 = .ok (.iload_n 1, 1) := by decide +kernel
theorem dX1_next_16 : decode cX1_next 16 = .ok (.laload, 1) := by decide +kernel
theorem dX1_next_17 : decode cX1_next 17 = .ok (.aload_n 0, 1) := by decide +kernel
theorem dX1_next_18 : decode cX1_next 18 = .ok (.getfield 28, 3) := by decide +kernel
theorem dX1_next_21 : decode cX1_next 21 = .ok (.aload_n 0, 1) := by decide +kernel
theorem dX1_next_22 : decode cX1_next 22 = .ok (.getfield 13, 3) := by decide +kernel
theorem dX1_next_25 : decode cX1_next 25 = .ok (.iload_n 1, 1) := by decide +kernel
theorem dX1_next_26 : decode cX1_next 26 = .ok (.iaload, 1) := by decide +kernel
theorem dX1_next_27 : decode cX1_next 27 = .ok (.idiv, 1) := by decide +kernel
theorem dX1_next_28 : decode cX1_next 28 = .ok (.i2l, 1) := by decide +kernel
theorem dX1_next_29 : decode cX1_next 29 = .ok (.ladd, 1) := by decide +kernel
theorem dX1_next_30 : decode cX1_next 30 = .ok (.lstore_n 2, 1) := by decide +kernel
theorem dX1_next_31 : decode cX1_next 31 = .ok (.lload_n 2, 1) := by decide +kernel
theorem dX1_next_32 : decode cX1_next 32 = .ok (.ldc2_w 53, 3) := by decide +kernel
theorem dX1_next_35 : decode cX1_next 35 = .ok (.lcmp, 1) := by decide +kernel
theorem dX1_next_36 : decode cX1_next 36 = .ok (.ifCond .le 6, 3) := by decide +kernel
theorem dX1_next_39 : decode cX1_next 39 = .ok (.bipush (-2), 2) := by decide +kernel
theorem dX1_next_41 : decode cX1_next 41 = .ok (.ireturn, 1) := by decide +kernel
theorem dX1_next_42 : decode cX1_next 42 = .ok (.aload_n 0, 1) := by decide +kernel
theorem dX1_next_43 : decode cX1_next 43 = .ok (.getfield 17, 3) := by decide +kernel
theorem dX1_next_46 : decode cX1_next 46 = .ok (.iload_n 1, 1) := by decide +kernel
theorem dX1_next_47 : decode cX1_next 47 = .ok (.lload_n 2, 1) := by decide +kernel
theorem dX1_next_48 : decode cX1_next 48 = .ok (.lastore, 1) := by decide +kernel
theorem dX1_next_49 : decode cX1_next 49 = .ok (.aload_n 0, 1) := by decide +kernel
theorem dX1_next_50 : decode cX1_next 50 = .ok (.getfield 21, 3) := by decide +kernel
theorem dX1_next_53 : decode cX1_next 53 = .ok (.iload_n 1, 1) := by decide +kernel
theorem dX1_next_54 : decode cX1_next 54 = .ok (.dup2, 1) := by decide +kernel
theorem dX1_next_55 : decode cX1_next 55 = .ok (.iaload, 1) := by decide +kernel
theorem dX1_next_56 : decode cX1_next 56 = .ok (.iconst 1, 1) := by decide +kernel
theorem dX1_next_57 : decode cX1_next 57 = .ok (.iadd, 1) := by decide +kernel
theorem dX1_next_58 : decode cX1_next 58 = .ok (.iastore, 1) := by decide +kernel
theorem dX1_next_59 : decode cX1_next 59 = .ok (.iload_n 1, 1) := by decide +kernel
theorem dX1_next_60 : decode cX1_next 60 = .ok (.ireturn, 1) := by decide +kernel
set_option maxRecDepth 20000 in
theorem ggX1_turns_X1_next : GoodIn wsX1_turns wsX1_next := goodIn_r _ [5, 6, 7, 8, 9, 10, 11, 12, 13, 4, 14, 15, 16, 17, 18, 19, 20, 21, 22, 23, 24, 25, 26, 27, 28] (by decide +kernel) (by decide +kernel)
set_option maxRecDepth 20000 in
theorem gX1_turns_X1_next : GoodIn wsX1_turns (wsV RX1 55 RX1 yX1_next wsX1_next) := goodIn_app (goodIn_of _ (by decide +kernel)) ggX1_turns_X1_next
theorem dX1_turns_0 : decode cX1_turns 0 = .ok (.iload_n 1, 1) := by decide +kernel
theorem dX1_turns_1 : decode cX1_turns 1 = .ok (.iconst 1, 1) := by decide +kernel
theorem dX1_turns_2 : decode cX1_turns 2 = .ok (.if_icmp .lt 10, 3) := by decide +kernel
theorem dX1_turns_5 : decode cX1_turns 5 = .ok (.iload_n 1, 1) := by decide +kernel
theorem dX1_turns_6 : decode cX1_turns 6 = .ok (.sipush 1000, 3) := by decide +kernel
theorem dX1_turns_9 : decode cX1_turns 9 = .ok (.if_icmp .le 5, 3) := by decide +kernel
theorem dX1_turns_12 : decode cX1_turns 12 = .ok (.iconst (-1), 1) := by decide +kernel
theorem dX1_turns_13 : decode cX1_turns 13 = .ok (.ireturn, 1) := by decide +kernel
theorem dX1_turns_14 : decode cX1_turns 14 = .ok (.iconst 0, 1) := by decide +kernel
theorem dX1_turns_15 : decode cX1_turns 15 = .ok (.istore_n 2, 1) := by decide +kernel
theorem dX1_turns_16 : decode cX1_turns 16 = .ok (.iconst 1, 1) := by decide +kernel
theorem dX1_turns_17 : decode cX1_turns 17 = .ok (.istore_n 3, 1) := by decide +kernel
theorem dX1_turns_18 : decode cX1_turns 18 = .ok (.iload_n 3, 1) := by decide +kernel
theorem dX1_turns_19 : decode cX1_turns 19 = .ok (.ifCond .eq 36, 3) := by decide +kernel
theorem dX1_turns_22 : decode cX1_turns 22 = .ok (.iload_n 2, 1) := by decide +kernel
theorem dX1_turns_23 : decode cX1_turns 23 = .ok (.iload_n 1, 1) := by decide +kernel
theorem dX1_turns_24 : decode cX1_turns 24 = .ok (.if_icmp .ge 31, 3) := by decide +kernel
theorem dX1_turns_27 : decode cX1_turns 27 = .ok (.aload_n 0, 1) := by decide +kernel
theorem dX1_turns_28 : decode cX1_turns 28 = .ok (.invokevirtual 55, 3) := by decide +kernel
theorem dX1_turns_31 : decode cX1_turns 31 = .ok (.ifCond .lt 7, 3) := by decide +kernel
theorem dX1_turns_34 : decode cX1_turns 34 = .ok (.iconst 1, 1) := by decide +kernel
theorem dX1_turns_35 : decode cX1_turns 35 = .ok (.goto 4, 3) := by decide +kernel
theorem dX1_turns_38 : decode cX1_turns 38 = .ok (.iconst 0, 1) := by decide +kernel
theorem dX1_turns_39 : decode cX1_turns 39 = .ok (.istore_n 3, 1) := by decide +kernel
theorem dX1_turns_40 : decode cX1_turns 40 = .ok (.iload_n 3, 1) := by decide +kernel
theorem dX1_turns_41 : decode cX1_turns 41 = .ok (.ifCond .eq 9, 3) := by decide +kernel
theorem dX1_turns_44 : decode cX1_turns 44 = .ok (.iload_n 2, 1) := by decide +kernel
theorem dX1_turns_45 : decode cX1_turns 45 = .ok (.iconst 1, 1) := by decide +kernel
theorem dX1_turns_46 : decode cX1_turns 46 = .ok (.iadd, 1) := by decide +kernel
theorem dX1_turns_47 : decode cX1_turns 47 = .ok (.goto 4, 3) := by decide +kernel
theorem dX1_turns_50 : decode cX1_turns 50 = .ok (.iload_n 2, 1) := by decide +kernel
theorem dX1_turns_51 : decode cX1_turns 51 = .ok (.istore_n 2, 1) := by decide +kernel
theorem dX1_turns_52 : decode cX1_turns 52 = .ok (.goto (-34), 3) := by decide +kernel
theorem dX1_turns_55 : decode cX1_turns 55 = .ok (.iload_n 2, 1) := by decide +kernel
theorem dX1_turns_56 : decode cX1_turns 56 = .ok (.ireturn, 1) := by decide +kernel
set_option maxRecDepth 20000 in
theorem ggX1_change_X1_isClient : GoodIn wsX1_change wsX1_isClient := goodIn_r _ [7, 8, 14, 15, 16, 17, 18, 19, 20, 21] (by decide +kernel) (by decide +kernel)
set_option maxRecDepth 20000 in
theorem gX1_change_X1_isClient : GoodIn wsX1_change (wsV RX1 31 RX1 yX1_isClient wsX1_isClient) := goodIn_app (goodIn_of _ (by decide +kernel)) ggX1_change_X1_isClient
set_option maxRecDepth 20000 in
theorem ggX1_change_X1_areTickets : GoodIn wsX1_change wsX1_areTickets := goodIn_r _ [12, 13, 14, 15, 16, 17, 18, 19, 20, 21] (by decide +kernel) (by decide +kernel)
set_option maxRecDepth 20000 in
theorem gX1_change_X1_areTickets : GoodIn wsX1_change (wsV RX1 39 RX1 yX1_areTickets wsX1_areTickets) := goodIn_app (goodIn_of _ (by decide +kernel)) ggX1_change_X1_areTickets
theorem dX1_change_0 : decode cX1_change 0 = .ok (.aload_n 0, 1) := by decide +kernel
theorem dX1_change_1 : decode cX1_change 1 = .ok (.iload_n 1, 1) := by decide +kernel
theorem dX1_change_2 : decode cX1_change 2 = .ok (.invokevirtual 31, 3) := by decide +kernel
theorem dX1_change_5 : decode cX1_change 5 = .ok (.ifCond .ne 5, 3) := by decide +kernel
theorem dX1_change_8 : decode cX1_change 8 = .ok (.iconst (-1), 1) := by decide +kernel
theorem dX1_change_9 : decode cX1_change 9 = .ok (.ireturn, 1) := by decide +kernel
theorem dX1_change_10 : decode cX1_change 10 = .ok (.aload_n 0, 1) := by decide +kernel
theorem dX1_change_11 : decode cX1_change 11 = .ok (.getfield 7, 3) := by decide +kernel
theorem dX1_change_14 : decode cX1_change 14 = .ok (.iload_n 1, 1) := by decide +kernel
theorem dX1_change_15 : decode cX1_change 15 = .ok (.baload, 1) := by decide +kernel
theorem dX1_change_16 : decode cX1_change 16 = .ok (.ifCond .ne 6, 3) := by decide +kernel
theorem dX1_change_19 : decode cX1_change 19 = .ok (.bipush (-2), 2) := by decide +kernel
theorem dX1_change_21 : decode cX1_change 21 = .ok (.ireturn, 1) := by decide +kernel
theorem dX1_change_22 : decode cX1_change 22 = .ok (.aload_n 0, 1) := by decide +kernel
theorem dX1_change_23 : decode cX1_change 23 = .ok (.iload_n 2, 1) := by decide +kernel
theorem dX1_change_24 : decode cX1_change 24 = .ok (.invokevirtual 39, 3) := by decide +kernel
theorem dX1_change_27 : decode cX1_change 27 = .ok (.ifCond .ne 6, 3) := by decide +kernel
theorem dX1_change_30 : decode cX1_change 30 = .ok (.bipush (-3), 2) := by decide +kernel
theorem dX1_change_32 : decode cX1_change 32 = .ok (.ireturn, 1) := by decide +kernel
theorem dX1_change_33 : decode cX1_change 33 = .ok (.aload_n 0, 1) := by decide +kernel
theorem dX1_change_34 : decode cX1_change 34 = .ok (.getfield 13, 3) := by decide +kernel
theorem dX1_change_37 : decode cX1_change 37 = .ok (.iload_n 1, 1) := by decide +kernel
theorem dX1_change_38 : decode cX1_change 38 = .ok (.iaload, 1) := by decide +kernel
theorem dX1_change_39 : decode cX1_change 39 = .ok (.istore_n 3, 1) := by decide +kernel
theorem dX1_change_40 : decode cX1_change 40 = .ok (.aload_n 0, 1) := by decide +kernel
theorem dX1_change_41 : decode cX1_change 41 = .ok (.getfield 13, 3) := by decide +kernel
theorem dX1_change_44 : decode cX1_change 44 = .ok (.iload_n 1, 1) := by decide +kernel
theorem dX1_change_45 : decode cX1_change 45 = .ok (.iload_n 2, 1) := by decide +kernel
theorem dX1_change_46 : decode cX1_change 46 = .ok (.iastore, 1) := by decide +kernel
theorem dX1_change_47 : decode cX1_change 47 = .ok (.iload_n 3, 1) := by decide +kernel
theorem dX1_change_48 : decode cX1_change 48 = .ok (.ireturn, 1) := by decide +kernel
set_option maxRecDepth 20000 in
theorem ggX1_ranOf_X1_isClient : GoodIn wsX1_ranOf wsX1_isClient := goodIn_r _ [6, 7, 8, 9, 10, 11, 12, 13, 14, 15] (by decide +kernel) (by decide +kernel)
set_option maxRecDepth 20000 in
theorem gX1_ranOf_X1_isClient : GoodIn wsX1_ranOf (wsV RX1 31 RX1 yX1_isClient wsX1_isClient) := goodIn_app (goodIn_of _ (by decide +kernel)) ggX1_ranOf_X1_isClient
theorem dX1_ranOf_0 : decode cX1_ranOf 0 = .ok (.aload_n 0, 1) := by decide +kernel
theorem dX1_ranOf_1 : decode cX1_ranOf 1 = .ok (.iload_n 1, 1) := by decide +kernel
theorem dX1_ranOf_2 : decode cX1_ranOf 2 = .ok (.invokevirtual 31, 3) := by decide +kernel
theorem dX1_ranOf_5 : decode cX1_ranOf 5 = .ok (.ifCond .eq 12, 3) := by decide +kernel
theorem dX1_ranOf_8 : decode cX1_ranOf 8 = .ok (.aload_n 0, 1) := by decide +kernel
theorem dX1_ranOf_9 : decode cX1_ranOf 9 = .ok (.getfield 21, 3) := by decide +kernel
theorem dX1_ranOf_12 : decode cX1_ranOf 12 = .ok (.iload_n 1, 1) := by decide +kernel
theorem dX1_ranOf_13 : decode cX1_ranOf 13 = .ok (.iaload, 1) := by decide +kernel
theorem dX1_ranOf_14 : decode cX1_ranOf 14 = .ok (.goto 4, 3) := by decide +kernel
theorem dX1_ranOf_17 : decode cX1_ranOf 17 = .ok (.iconst (-1), 1) := by decide +kernel
theorem dX1_ranOf_18 : decode cX1_ranOf 18 = .ok (.ireturn, 1) := by decide +kernel
set_option maxRecDepth 20000 in
theorem ggX1_passOf_X1_isIn : GoodIn wsX1_passOf wsX1_isIn := goodIn_r _ [6, 7, 8, 9, 10, 5, 11, 12, 13, 14, 15, 16, 17, 18, 19, 20] (by decide +kernel) (by decide +kernel)
set_option maxRecDepth 20000 in
theorem gX1_passOf_X1_isIn : GoodIn wsX1_passOf (wsV RX1 58 RX1 yX1_isIn wsX1_isIn) := goodIn_app (goodIn_of _ (by decide +kernel)) ggX1_passOf_X1_isIn
theorem dX1_passOf_0 : decode cX1_passOf 0 = .ok (.aload_n 0, 1) := by decide +kernel
theorem dX1_passOf_1 : decode cX1_passOf 1 = .ok (.iload_n 1, 1) := by decide +kernel
theorem dX1_passOf_2 : decode cX1_passOf 2 = .ok (.invokevirtual 58, 3) := by decide +kernel
theorem dX1_passOf_5 : decode cX1_passOf 5 = .ok (.ifCond .eq 13, 3) := by decide +kernel
theorem dX1_passOf_8 : decode cX1_passOf 8 = .ok (.aload_n 0, 1) := by decide +kernel
theorem dX1_passOf_9 : decode cX1_passOf 9 = .ok (.getfield 17, 3) := by decide +kernel
theorem dX1_passOf_12 : decode cX1_passOf 12 = .ok (.iload_n 1, 1) := by decide +kernel
theorem dX1_passOf_13 : decode cX1_passOf 13 = .ok (.laload, 1) := by decide +kernel
theorem dX1_passOf_14 : decode cX1_passOf 14 = .ok (.l2i, 1) := by decide +kernel
theorem dX1_passOf_15 : decode cX1_passOf 15 = .ok (.goto 4, 3) := by decide +kernel
theorem dX1_passOf_18 : decode cX1_passOf 18 = .ok (.iconst (-1), 1) := by decide +kernel
theorem dX1_passOf_19 : decode cX1_passOf 19 = .ok (.ireturn, 1) := by decide +kernel
set_option maxRecDepth 20000 in
theorem ggX1_strideOf_X1_isIn : GoodIn wsX1_strideOf wsX1_isIn := goodIn_r _ [7, 8, 9, 10, 11, 6, 12, 13, 14, 15, 16, 17, 18, 19, 20, 21] (by decide +kernel) (by decide +kernel)
set_option maxRecDepth 20000 in
theorem gX1_strideOf_X1_isIn : GoodIn wsX1_strideOf (wsV RX1 58 RX1 yX1_isIn wsX1_isIn) := goodIn_app (goodIn_of _ (by decide +kernel)) ggX1_strideOf_X1_isIn
theorem dX1_strideOf_0 : decode cX1_strideOf 0 = .ok (.aload_n 0, 1) := by decide +kernel
theorem dX1_strideOf_1 : decode cX1_strideOf 1 = .ok (.iload_n 1, 1) := by decide +kernel
theorem dX1_strideOf_2 : decode cX1_strideOf 2 = .ok (.invokevirtual 58, 3) := by decide +kernel
theorem dX1_strideOf_5 : decode cX1_strideOf 5 = .ok (.ifCond .eq 17, 3) := by decide +kernel
theorem dX1_strideOf_8 : decode cX1_strideOf 8 = .ok (.aload_n 0, 1) := by decide +kernel
theorem dX1_strideOf_9 : decode cX1_strideOf 9 = .ok (.getfield 28, 3) := by decide +kernel
theorem dX1_strideOf_12 : decode cX1_strideOf 12 = .ok (.aload_n 0, 1) := by decide +kernel
theorem dX1_strideOf_13 : decode cX1_strideOf 13 = .ok (.getfield 13, 3) := by decide +kernel
theorem dX1_strideOf_16 : decode cX1_strideOf 16 = .ok (.iload_n 1, 1) := by decide +kernel
theorem dX1_strideOf_17 : decode cX1_strideOf 17 = .ok (.iaload, 1) := by decide +kernel
theorem dX1_strideOf_18 : decode cX1_strideOf 18 = .ok (.idiv, 1) := by decide +kernel
theorem dX1_strideOf_19 : decode cX1_strideOf 19 = .ok (.goto 4, 3) := by decide +kernel
theorem dX1_strideOf_22 : decode cX1_strideOf 22 = .ok (.iconst (-1), 1) := by decide +kernel
theorem dX1_strideOf_23 : decode cX1_strideOf 23 = .ok (.ireturn, 1) := by decide +kernel
theorem dX1_clients_0 : decode cX1_clients 0 = .ok (.aload_n 0, 1) := by decide +kernel
theorem dX1_clients_1 : decode cX1_clients 1 = .ok (.getfield 50, 3) := by decide +kernel
theorem dX1_clients_4 : decode cX1_clients 4 = .ok (.ireturn, 1) := by decide +kernel
set_option maxRecDepth 20000 in
theorem ggX1_spread_X1_first : GoodIn wsX1_spread wsX1_first := goodIn_r _ [8, 1, 2, 9, 10, 11, 7, 12, 3, 13, 14, 15, 16, 17, 18, 19, 20] (by decide +kernel) (by decide +kernel)
set_option maxRecDepth 20000 in
theorem gX1_spread_X1_first : GoodIn wsX1_spread (wsV RX1 42 RX1 yX1_first wsX1_first) := goodIn_app (goodIn_of _ (by decide +kernel)) ggX1_spread_X1_first
theorem dX1_spread_0 : decode cX1_spread 0 = .ok (.aload_n 0, 1) := by decide +kernel
theorem dX1_spread_1 : decode cX1_spread 1 = .ok (.invokevirtual 42, 3) := by decide +kernel
theorem dX1_spread_4 : decode cX1_spread 4 = .ok (.istore_n 1, 1) := by decide +kernel
theorem dX1_spread_5 : decode cX1_spread 5 = .ok (.lconst 0, 1) := by decide +kernel
theorem dX1_spread_6 : decode cX1_spread 6 = .ok (.lstore_n 2, 1) := by decide +kernel
theorem dX1_spread_7 : decode cX1_spread 7 = .ok (.iconst 0, 1) := by decide +kernel
theorem dX1_spread_8 : decode cX1_spread 8 = .ok (.istore 4, 2) := by decide +kernel
theorem dX1_spread_10 : decode cX1_spread 10 = .ok (.iload 4, 2) := by decide +kernel
theorem dX1_spread_12 : decode cX1_spread 12 = .ok (.aload_n 0, 1) := by decide +kernel
theorem dX1_spread_13 : decode cX1_spread 13 = .ok (.getfield 24, 3) := by decide +kernel
theorem dX1_spread_16 : decode cX1_spread 16 = .ok (.if_icmp .ge 43, 3) := by decide +kernel
theorem dX1_spread_19 : decode cX1_spread 19 = .ok (.aload_n 0, 1) := by decide +kernel
theorem dX1_spread_20 : decode cX1_spread 20 = .ok (.getfield 7, 3) := by decide +kernel
theorem dX1_spread_23 : decode cX1_spread 23 = .ok (.iload 4, 2) := by decide +kernel
theorem dX1_spread_25 : decode cX1_spread 25 = .ok (.baload, 1) := by decide +kernel
theorem dX1_spread_26 : decode cX1_spread 26 = .ok (.ifCond .eq 25, 3) := by decide +kernel
theorem dX1_spread_29 : decode cX1_spread 29 = .ok (.aload_n 0, 1) := by decide +kernel
theorem dX1_spread_30 : decode cX1_spread 30 = .ok (.getfield 17, 3) := by decide +kernel
theorem dX1_spread_33 : decode cX1_spread 33 = .ok (.iload 4, 2) := by decide +kernel
theorem dX1_spread_35 : decode cX1_spread 35 = .ok (.laload, 1) := by decide +kernel
theorem dX1_spread_36 : decode cX1_spread 36 = .ok (.lload_n 2, 1) := by decide +kernel
theorem dX1_spread_37 : decode cX1_spread 37 = .ok (.lcmp, 1) := by decide +kernel
theorem dX1_spread_38 : decode cX1_spread 38 = .ok (.ifCond .le 13, 3) := by decide +kernel
theorem dX1_spread_41 : decode cX1_spread 41 = .ok (.aload_n 0, 1) := by decide +kernel
theorem dX1_spread_42 : decode cX1_spread 42 = .ok (.getfield 17, 3) := by decide +kernel
theorem dX1_spread_45 : decode cX1_spread 45 = .ok (.iload 4, 2) := by decide +kernel
theorem dX1_spread_47 : decode cX1_spread 47 = .ok (.laload, 1) := by decide +kernel
theorem dX1_spread_48 : decode cX1_spread 48 = .ok (.goto 4, 3) := by decide +kernel
theorem dX1_spread_51 : decode cX1_spread 51 = .ok (.lload_n 2, 1) := by decide +kernel
theorem dX1_spread_52 : decode cX1_spread 52 = .ok (.lstore_n 2, 1) := by decide +kernel
theorem dX1_spread_53 : decode cX1_spread 53 = .ok (.iinc 4 1, 3) := by decide +kernel
theorem dX1_spread_56 : decode cX1_spread 56 = .ok (.goto (-46), 3) := by decide +kernel
theorem dX1_spread_59 : decode cX1_spread 59 = .ok (.iload_n 1, 1) := by decide +kernel
theorem dX1_spread_60 : decode cX1_spread 60 = .ok (.ifCond .ge 7, 3) := by decide +kernel
theorem dX1_spread_63 : decode cX1_spread 63 = .ok (.iconst (-1), 1) := by decide +kernel
theorem dX1_spread_64 : decode cX1_spread 64 = .ok (.goto 12, 3) := by decide +kernel
theorem dX1_spread_67 : decode cX1_spread 67 = .ok (.lload_n 2, 1) := by decide +kernel
theorem dX1_spread_68 : decode cX1_spread 68 = .ok (.aload_n 0, 1) := by decide +kernel
theorem dX1_spread_69 : decode cX1_spread 69 = .ok (.getfield 17, 3) := by decide +kernel
theorem dX1_spread_72 : decode cX1_spread 72 = .ok (.iload_n 1, 1) := by decide +kernel
theorem dX1_spread_73 : decode cX1_spread 73 = .ok (.laload, 1) := by decide +kernel
theorem dX1_spread_74 : decode cX1_spread 74 = .ok (.lsub, 1) := by decide +kernel
theorem dX1_spread_75 : decode cX1_spread 75 = .ok (.l2i, 1) := by decide +kernel
theorem dX1_spread_76 : decode cX1_spread 76 = .ok (.ireturn, 1) := by decide +kernel
set_option maxRecDepth 20000 in
theorem ggX1_order_X1_isBefore : GoodIn wsX1_order wsX1_isBefore := goodIn_r _ [8, 9, 10, 11, 12, 13, 14, 15, 16, 17] (by decide +kernel) (by decide +kernel)
set_option maxRecDepth 20000 in
theorem gX1_order_X1_isBefore : GoodIn wsX1_order (wsV RX1 35 RX1 yX1_isBefore wsX1_isBefore) := goodIn_app (goodIn_of _ (by decide +kernel)) ggX1_order_X1_isBefore
theorem dX1_order_0 : decode cX1_order 0 = .ok (.iload_n 1, 1) := by decide +kernel
theorem dX1_order_1 : decode cX1_order 1 = .ok (.ifCond .lt 11, 3) := by decide +kernel
theorem dX1_order_4 : decode cX1_order 4 = .ok (.iload_n 1, 1) := by decide +kernel
theorem dX1_order_5 : decode cX1_order 5 = .ok (.aload_n 0, 1) := by decide +kernel
theorem dX1_order_6 : decode cX1_order 6 = .ok (.getfield 50, 3) := by decide +kernel
theorem dX1_order_9 : decode cX1_order 9 = .ok (.if_icmp .lt 5, 3) := by decide +kernel
theorem dX1_order_12 : decode cX1_order 12 = .ok (.iconst (-1), 1) := by decide +kernel
theorem dX1_order_13 : decode cX1_order 13 = .ok (.ireturn, 1) := by decide +kernel
theorem dX1_order_14 : decode cX1_order 14 = .ok (.iconst 0, 1) := by decide +kernel
theorem dX1_order_15 : decode cX1_order 15 = .ok (.istore_n 2, 1) := by decide +kernel
theorem dX1_order_16 : decode cX1_order 16 = .ok (.iload_n 2, 1) := by decide +kernel
theorem dX1_order_17 : decode cX1_order 17 = .ok (.aload_n 0, 1) := by decide +kernel
theorem dX1_order_18 : decode cX1_order 18 = .ok (.getfield 24, 3) := by decide +kernel
theorem dX1_order_21 : decode cX1_order 21 = .ok (.if_icmp .ge 88, 3) := by decide +kernel
theorem dX1_order_24 : decode cX1_order 24 = .ok (.iconst 0, 1) := by decide +kernel
theorem dX1_order_25 : decode cX1_order 25 = .ok (.istore_n 3, 1) := by decide +kernel
theorem dX1_order_26 : decode cX1_order 26 = .ok (.iconst 0, 1) := by decide +kernel
theorem dX1_order_27 : decode cX1_order 27 = .ok (.istore 4, 2) := by decide +kernel
theorem dX1_order_29 : decode cX1_order 29 = .ok (.iload 4, 2) := by decide +kernel
theorem dX1_order_31 : decode cX1_order 31 = .ok (.aload_n 0, 1) := by decide +kernel
theorem dX1_order_32 : decode cX1_order 32 = .ok (.getfield 24, 3) := by decide +kernel
theorem dX1_order_35 : decode cX1_order 35 = .ok (.if_icmp .ge 52, 3) := by decide +kernel
theorem dX1_order_38 : decode cX1_order 38 = .ok (.aload_n 0, 1) := by decide +kernel
theorem dX1_order_39 : decode cX1_order 39 = .ok (.getfield 7, 3) := by decide +kernel
theorem dX1_order_42 : decode cX1_order 42 = .ok (.iload_n 2, 1) := by decide +kernel
theorem dX1_order_43 : decode cX1_order 43 = .ok (.baload, 1) := by decide +kernel
theorem dX1_order_44 : decode cX1_order 44 = .ok (.ifCond .eq 35, 3) := by decide +kernel
theorem dX1_order_47 : decode cX1_order 47 = .ok (.aload_n 0, 1) := by decide +kernel
theorem dX1_order_48 : decode cX1_order 48 = .ok (.getfield 7, 3) := by decide +kernel
theorem dX1_order_51 : decode cX1_order 51 = .ok (.iload 4, 2) := by decide +kernel
theorem dX1_order_53 : decode cX1_order 53 = .ok (.baload, 1) := by decide +kernel
theorem dX1_order_54 : decode cX1_order 54 = .ok (.ifCond .eq 25, 3) := by decide +kernel
theorem dX1_order_57 : decode cX1_order 57 = .ok (.iload 4, 2) := by decide +kernel
theorem dX1_order_59 : decode cX1_order 59 = .ok (.iload_n 2, 1) := by decide +kernel
theorem dX1_order_60 : decode cX1_order 60 = .ok (.if_icmp .eq 19, 3) := by decide +kernel
theorem dX1_order_63 : decode cX1_order 63 = .ok (.aload_n 0, 1) := by decide +kernel
theorem dX1_order_64 : decode cX1_order 64 = .ok (.iload 4, 2) := by decide +kernel
theorem dX1_order_66 : decode cX1_order 66 = .ok (.iload_n 2, 1) := by decide +kernel
theorem dX1_order_67 : decode cX1_order 67 = .ok (.invokevirtual 35, 3) := by decide +kernel
theorem dX1_order_70 : decode cX1_order 70 = .ok (.ifCond .eq 9, 3) := by decide +kernel
theorem dX1_order_73 : decode cX1_order 73 = .ok (.iload_n 3, 1) := by decide +kernel
theorem dX1_order_74 : decode cX1_order 74 = .ok (.iconst 1, 1) := by decide +kernel
theorem dX1_order_75 : decode cX1_order 75 = .ok (.iadd, 1) := by decide +kernel
theorem dX1_order_76 : decode cX1_order 76 = .ok (.goto 4, 3) := by decide +kernel
theorem dX1_order_79 : decode cX1_order 79 = .ok (.iload_n 3, 1) := by decide +kernel
theorem dX1_order_80 : decode cX1_order 80 = .ok (.istore_n 3, 1) := by decide +kernel
theorem dX1_order_81 : decode cX1_order 81 = .ok (.iinc 4 1, 3) := by decide +kernel
theorem dX1_order_84 : decode cX1_order 84 = .ok (.goto (-55), 3) := by decide +kernel
theorem dX1_order_87 : decode cX1_order 87 = .ok (.aload_n 0, 1) := by decide +kernel
theorem dX1_order_88 : decode cX1_order 88 = .ok (.getfield 7, 3) := by decide +kernel
theorem dX1_order_91 : decode cX1_order 91 = .ok (.iload_n 2, 1) := by decide +kernel
theorem dX1_order_92 : decode cX1_order 92 = .ok (.baload, 1) := by decide +kernel
theorem dX1_order_93 : decode cX1_order 93 = .ok (.ifCond .eq 10, 3) := by decide +kernel
theorem dX1_order_96 : decode cX1_order 96 = .ok (.iload_n 3, 1) := by decide +kernel
theorem dX1_order_97 : decode cX1_order 97 = .ok (.iload_n 1, 1) := by decide +kernel
theorem dX1_order_98 : decode cX1_order 98 = .ok (.if_icmp .ne 5, 3) := by decide +kernel
theorem dX1_order_101 : decode cX1_order 101 = .ok (.iload_n 2, 1) := by decide +kernel
theorem dX1_order_102 : decode cX1_order 102 = .ok (.ireturn, 1) := by decide +kernel
theorem dX1_order_103 : decode cX1_order 103 = .ok (.iinc 2 1, 3) := by decide +kernel
theorem dX1_order_106 : decode cX1_order 106 = .ok (.goto (-90), 3) := by decide +kernel
theorem dX1_order_109 : decode cX1_order 109 = .ok (.iconst (-1), 1) := by decide +kernel
theorem dX1_order_110 : decode cX1_order 110 = .ok (.ireturn, 1) := by decide +kernel
theorem dJ9_floorMod_7cf53_0 : decode cJ9_floorMod_7cf53 0 = .ok (.iload_n 0, 1) := by decide +kernel
theorem dJ9_floorMod_7cf53_1 : decode cJ9_floorMod_7cf53 1 = .ok (.iload_n 1, 1) := by decide +kernel
theorem dJ9_floorMod_7cf53_2 : decode cJ9_floorMod_7cf53 2 = .ok (.irem, 1) := by decide +kernel
theorem dJ9_floorMod_7cf53_3 : decode cJ9_floorMod_7cf53 3 = .ok (.istore_n 2, 1) := by decide +kernel
theorem dJ9_floorMod_7cf53_4 : decode cJ9_floorMod_7cf53 4 = .ok (.iload_n 0, 1) := by decide +kernel
theorem dJ9_floorMod_7cf53_5 : decode cJ9_floorMod_7cf53 5 = .ok (.iload_n 1, 1) := by decide +kernel
theorem dJ9_floorMod_7cf53_6 : decode cJ9_floorMod_7cf53 6 = .ok (.ixor, 1) := by decide +kernel
theorem dJ9_floorMod_7cf53_7 : decode cJ9_floorMod_7cf53 7 = .ok (.ifCond .ge 11, 3) := by decide +kernel
theorem dJ9_floorMod_7cf53_10 : decode cJ9_floorMod_7cf53 10 = .ok (.iload_n 2, 1) := by decide +kernel
theorem dJ9_floorMod_7cf53_11 : decode cJ9_floorMod_7cf53 11 = .ok (.ifCond .eq 7, 3) := by decide +kernel
theorem dJ9_floorMod_7cf53_14 : decode cJ9_floorMod_7cf53 14 = .ok (.iload_n 2, 1) := by decide +kernel
theorem dJ9_floorMod_7cf53_15 : decode cJ9_floorMod_7cf53 15 = .ok (.iload_n 1, 1) := by decide +kernel
theorem dJ9_floorMod_7cf53_16 : decode cJ9_floorMod_7cf53 16 = .ok (.iadd, 1) := by decide +kernel
theorem dJ9_floorMod_7cf53_17 : decode cJ9_floorMod_7cf53 17 = .ok (.ireturn, 1) := by decide +kernel
theorem dJ9_floorMod_7cf53_18 : decode cJ9_floorMod_7cf53 18 = .ok (.iload_n 2, 1) := by decide +kernel
theorem dJ9_floorMod_7cf53_19 : decode cJ9_floorMod_7cf53 19 = .ok (.ireturn, 1) := by decide +kernel
theorem dL_cell_0 : decode cL_cell 0 = .ok (.iload_n 1, 1) := by decide +kernel
theorem dL_cell_1 : decode cL_cell 1 = .ok (.aload_n 0, 1) := by decide +kernel
theorem dL_cell_2 : decode cL_cell 2 = .ok (.arraylength, 1) := by decide +kernel
theorem dL_cell_3 : decode cL_cell 3 = .ok (.if_icmp .ge 9, 3) := by decide +kernel
theorem dL_cell_6 : decode cL_cell 6 = .ok (.aload_n 0, 1) := by decide +kernel
theorem dL_cell_7 : decode cL_cell 7 = .ok (.iload_n 1, 1) := by decide +kernel
theorem dL_cell_8 : decode cL_cell 8 = .ok (.iaload, 1) := by decide +kernel
theorem dL_cell_9 : decode cL_cell 9 = .ok (.goto 4, 3) := by decide +kernel
theorem dL_cell_12 : decode cL_cell 12 = .ok (.iconst 0, 1) := by decide +kernel
theorem dL_cell_13 : decode cL_cell 13 = .ok (.ireturn, 1) := by decide +kernel
