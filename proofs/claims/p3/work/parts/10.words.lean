/-! printed rows of NAMES that the contracts use -/
set_option maxRecDepth 20000 in
theorem ggX2_copyWithout_X7_inHeap : GoodIn wsX2_copyWithout wsX7_inHeap := goodIn_r _ [6] (by decide +kernel) (by decide +kernel)
set_option maxRecDepth 20000 in
theorem gX2_copyWithout_X7_inHeap_n26 : GoodIn wsX2_copyWithout (wsX7_inHeap) := ggX2_copyWithout_X7_inHeap
set_option maxRecDepth 20000 in
theorem ggX2_copyWithout_X7_bit : GoodIn wsX2_copyWithout wsX7_bit := goodIn_r _ [8] (by decide +kernel) (by decide +kernel)
set_option maxRecDepth 20000 in
theorem gX2_copyWithout_X7_bit_n37 : GoodIn wsX2_copyWithout (wsX7_bit) := ggX2_copyWithout_X7_bit
theorem dX2_copyWithout_0 : decode cX2_copyWithout 0 = .ok (.aload_n 0, 1) := by decide +kernel
theorem dX2_copyWithout_1 : decode cX2_copyWithout 1 = .ok (.aload_n 1, 1) := by decide +kernel
theorem dX2_copyWithout_2 : decode cX2_copyWithout 2 = .ok (.getfield 18, 3) := by decide +kernel
theorem dX2_copyWithout_5 : decode cX2_copyWithout 5 = .ok (.putfield 18, 3) := by decide +kernel
theorem dX2_copyWithout_8 : decode cX2_copyWithout 8 = .ok (.iconst 0, 1) := by decide +kernel
theorem dX2_copyWithout_9 : decode cX2_copyWithout 9 = .ok (.istore 4, 2) := by decide +kernel
theorem dX2_copyWithout_11 : decode cX2_copyWithout 11 = .ok (.iload 4, 2) := by decide +kernel
theorem dX2_copyWithout_13 : decode cX2_copyWithout 13 = .ok (.bipush 8, 2) := by decide +kernel
theorem dX2_copyWithout_15 : decode cX2_copyWithout 15 = .ok (.if_icmp .ge 83, 3) := by decide +kernel
theorem dX2_copyWithout_18 : decode cX2_copyWithout 18 = .ok (.aload_n 0, 1) := by decide +kernel
theorem dX2_copyWithout_19 : decode cX2_copyWithout 19 = .ok (.getfield 9, 3) := by decide +kernel
theorem dX2_copyWithout_22 : decode cX2_copyWithout 22 = .ok (.iload 4, 2) := by decide +kernel
theorem dX2_copyWithout_24 : decode cX2_copyWithout 24 = .ok (.iload_n 3, 1) := by decide +kernel
theorem dX2_copyWithout_25 : decode cX2_copyWithout 25 = .ok (.iload 4, 2) := by decide +kernel
theorem dX2_copyWithout_27 : decode cX2_copyWithout 27 = .ok (.invokestatic 26, 3) := by decide +kernel
theorem dX2_copyWithout_30 : decode cX2_copyWithout 30 = .ok (.ifCond .eq 20, 3) := by decide +kernel
theorem dX2_copyWithout_33 : decode cX2_copyWithout 33 = .ok (.aload_n 1, 1) := by decide +kernel
theorem dX2_copyWithout_34 : decode cX2_copyWithout 34 = .ok (.getfield 9, 3) := by decide +kernel
theorem dX2_copyWithout_37 : decode cX2_copyWithout 37 = .ok (.iload 4, 2) := by decide +kernel
theorem dX2_copyWithout_39 : decode cX2_copyWithout 39 = .ok (.iaload, 1) := by decide +kernel
theorem dX2_copyWithout_40 : decode cX2_copyWithout 40 = .ok (.iload_n 2, 1) := by decide +kernel
theorem dX2_copyWithout_41 : decode cX2_copyWithout 41 = .ok (.invokestatic 37, 3) := by decide +kernel
theorem dX2_copyWithout_44 : decode cX2_copyWithout 44 = .ok (.iconst (-1), 1) := by decide +kernel
theorem dX2_copyWithout_45 : decode cX2_copyWithout 45 = .ok (.ixor, 1) := by decide +kernel
theorem dX2_copyWithout_46 : decode cX2_copyWithout 46 = .ok (.iand, 1) := by decide +kernel
theorem dX2_copyWithout_47 : decode cX2_copyWithout 47 = .ok (.goto 10, 3) := by decide +kernel
theorem dX2_copyWithout_50 : decode cX2_copyWithout 50 = .ok (.aload_n 1, 1) := by decide +kernel
theorem dX2_copyWithout_51 : decode cX2_copyWithout 51 = .ok (.getfield 9, 3) := by decide +kernel
theorem dX2_copyWithout_54 : decode cX2_copyWithout 54 = .ok (.iload 4, 2) := by decide +kernel
theorem dX2_copyWithout_56 : decode cX2_copyWithout 56 = .ok (.iaload, 1) := by decide +kernel
theorem dX2_copyWithout_57 : decode cX2_copyWithout 57 = .ok (.iastore, 1) := by decide +kernel
theorem dX2_copyWithout_58 : decode cX2_copyWithout 58 = .ok (.aload_n 0, 1) := by decide +kernel
theorem dX2_copyWithout_59 : decode cX2_copyWithout 59 = .ok (.getfield 15, 3) := by decide +kernel
theorem dX2_copyWithout_62 : decode cX2_copyWithout 62 = .ok (.iload 4, 2) := by decide +kernel
theorem dX2_copyWithout_64 : decode cX2_copyWithout 64 = .ok (.iload 4, 2) := by decide +kernel
theorem dX2_copyWithout_66 : decode cX2_copyWithout 66 = .ok (.iload_n 2, 1) := by decide +kernel
theorem dX2_copyWithout_67 : decode cX2_copyWithout 67 = .ok (.if_icmp .ne 17, 3) := by decide +kernel
theorem dX2_copyWithout_70 : decode cX2_copyWithout 70 = .ok (.aload_n 1, 1) := by decide +kernel
theorem dX2_copyWithout_71 : decode cX2_copyWithout 71 = .ok (.getfield 15, 3) := by decide +kernel
theorem dX2_copyWithout_74 : decode cX2_copyWithout 74 = .ok (.iload 4, 2) := by decide +kernel
theorem dX2_copyWithout_76 : decode cX2_copyWithout 76 = .ok (.iaload, 1) := by decide +kernel
theorem dX2_copyWithout_77 : decode cX2_copyWithout 77 = .ok (.iload_n 3, 1) := by decide +kernel
theorem dX2_copyWithout_78 : decode cX2_copyWithout 78 = .ok (.iconst (-1), 1) := by decide +kernel
theorem dX2_copyWithout_79 : decode cX2_copyWithout 79 = .ok (.ixor, 1) := by decide +kernel
theorem dX2_copyWithout_80 : decode cX2_copyWithout 80 = .ok (.iand, 1) := by decide +kernel
theorem dX2_copyWithout_81 : decode cX2_copyWithout 81 = .ok (.goto 10, 3) := by decide +kernel
theorem dX2_copyWithout_84 : decode cX2_copyWithout 84 = .ok (.aload_n 1, 1) := by decide +kernel
theorem dX2_copyWithout_85 : decode cX2_copyWithout 85 = .ok (.getfield 15, 3) := by decide +kernel
theorem dX2_copyWithout_88 : decode cX2_copyWithout 88 = .ok (.iload 4, 2) := by decide +kernel
theorem dX2_copyWithout_90 : decode cX2_copyWithout 90 = .ok (.iaload, 1) := by decide +kernel
theorem dX2_copyWithout_91 : decode cX2_copyWithout 91 = .ok (.iastore, 1) := by decide +kernel
theorem dX2_copyWithout_92 : decode cX2_copyWithout 92 = .ok (.iinc 4 1, 3) := by decide +kernel
theorem dX2_copyWithout_95 : decode cX2_copyWithout 95 = .ok (.goto (-84), 3) := by decide +kernel
theorem dX2_copyWithout_98 : decode cX2_copyWithout 98 = .ok (.return_, 1) := by decide +kernel
set_option maxRecDepth 20000 in
theorem ggX7_thing_X2_grow : GoodIn wsX7_thing wsX2_grow := goodIn_r _ [8, 9, 30, 31, 32] (by decide +kernel) (by decide +kernel)
set_option maxRecDepth 20000 in
theorem gX7_thing_X2_grow : GoodIn wsX7_thing (wsV RX7 65 RX2 yX2_grow wsX2_grow) := goodIn_app (goodIn_of _ (by decide +kernel)) ggX7_thing_X2_grow
set_option maxRecDepth 20000 in
theorem ggX7_thing_X1_blank : GoodIn wsX7_thing wsX1_blank := goodIn_r _ [14, 15, 33] (by decide +kernel) (by decide +kernel)
set_option maxRecDepth 20000 in
theorem gX7_thing_X1_blank : GoodIn wsX7_thing (wsV RX7 69 RX1 yX1_blank wsX1_blank) := goodIn_app (goodIn_of _ (by decide +kernel)) ggX7_thing_X1_blank
set_option maxRecDepth 20000 in
theorem ggX7_thing_X7_bit : GoodIn wsX7_thing wsX7_bit := goodIn_r _ [19] (by decide +kernel) (by decide +kernel)
set_option maxRecDepth 20000 in
theorem gX7_thing_X7_bit : GoodIn wsX7_thing (va_wsS RX7 73 yX7_bit wsX7_bit) := goodIn_app (goodIn_of _ (by decide +kernel)) ggX7_thing_X7_bit
theorem dX7_thing_0 : decode cX7_thing 0 = .ok (.aload_n 0, 1) := by decide +kernel
theorem dX7_thing_1 : decode cX7_thing 1 = .ok (.getfield 12, 3) := by decide +kernel
theorem dX7_thing_4 : decode cX7_thing 4 = .ok (.invokevirtual 65, 3) := by decide +kernel
theorem dX7_thing_7 : decode cX7_thing 7 = .ok (.istore_n 2, 1) := by decide +kernel
theorem dX7_thing_8 : decode cX7_thing 8 = .ok (.iload_n 2, 1) := by decide +kernel
theorem dX7_thing_9 : decode cX7_thing 9 = .ok (.iconst (-1), 1) := by decide +kernel
theorem dX7_thing_10 : decode cX7_thing 10 = .ok (.if_icmp .ne 5, 3) := by decide +kernel
theorem dX7_thing_13 : decode cX7_thing 13 = .ok (.iconst (-1), 1) := by decide +kernel
theorem dX7_thing_14 : decode cX7_thing 14 = .ok (.ireturn, 1) := by decide +kernel
theorem dX7_thing_15 : decode cX7_thing 15 = .ok (.aload_n 0, 1) := by decide +kernel
theorem dX7_thing_16 : decode cX7_thing 16 = .ok (.getfield 22, 3) := by decide +kernel
theorem dX7_thing_19 : decode cX7_thing 19 = .ok (.iload_n 2, 1) := by decide +kernel
theorem dX7_thing_20 : decode cX7_thing 20 = .ok (.invokevirtual 69, 3) := by decide +kernel
theorem dX7_thing_23 : decode cX7_thing 23 = .ok (.iload_n 1, 1) := by decide +kernel
theorem dX7_thing_24 : decode cX7_thing 24 = .ok (.ifCond .eq 16, 3) := by decide +kernel
theorem dX7_thing_27 : decode cX7_thing 27 = .ok (.aload_n 0, 1) := by decide +kernel
theorem dX7_thing_28 : decode cX7_thing 28 = .ok (.dup, 1) := by decide +kernel
theorem dX7_thing_29 : decode cX7_thing 29 = .ok (.getfield 54, 3) := by decide +kernel
theorem dX7_thing_32 : decode cX7_thing 32 = .ok (.iload_n 2, 1) := by decide +kernel
theorem dX7_thing_33 : decode cX7_thing 33 = .ok (.invokestatic 73, 3) := by decide +kernel
theorem dX7_thing_36 : decode cX7_thing 36 = .ok (.ior, 1) := by decide +kernel
theorem dX7_thing_37 : decode cX7_thing 37 = .ok (.putfield 54, 3) := by decide +kernel
theorem dX7_thing_40 : decode cX7_thing 40 = .ok (.iload_n 2, 1) := by decide +kernel
theorem dX7_thing_41 : decode cX7_thing 41 = .ok (.ireturn, 1) := by decide +kernel
set_option maxRecDepth 20000 in
theorem ggX7_arrow_X2_has : GoodIn wsX7_arrow wsX2_has := goodIn_r _ [7, 8, 64, 65, 66] (by decide +kernel) (by decide +kernel)
set_option maxRecDepth 20000 in
theorem gX7_arrow_X2_has : GoodIn wsX7_arrow (wsV RX7 77 RX2 yX2_has wsX2_has) := goodIn_app (goodIn_of _ (by decide +kernel)) ggX7_arrow_X2_has
set_option maxRecDepth 20000 in
theorem ggX7_arrow_X2_canJoin : GoodIn wsX7_arrow wsX2_canJoin := goodIn_r _ [12, 13, 14, 15, 6, 16, 17, 18, 19, 4, 5, 7, 8, 20, 21, 22, 23, 24, 25, 26, 27, 28, 29, 30, 31, 32, 33, 34, 35, 36, 37, 38, 39, 40, 41, 64, 65, 66] (by decide +kernel) (by decide +kernel)
set_option maxRecDepth 20000 in
theorem gX7_arrow_X2_canJoin : GoodIn wsX7_arrow (wsV RX7 81 RX2 yX2_canJoin wsX2_canJoin) := goodIn_app (goodIn_of _ (by decide +kernel)) ggX7_arrow_X2_canJoin
set_option maxRecDepth 20000 in
theorem ggX7_arrow_X2_join : GoodIn wsX7_arrow wsX2_join := goodIn_r _ [45, 18, 17, 19, 4, 5, 6, 7, 8, 46, 21, 47, 64, 65, 66] (by decide +kernel) (by decide +kernel)
set_option maxRecDepth 20000 in
theorem gX7_arrow_X2_join : GoodIn wsX7_arrow (wsV RX7 85 RX2 yX2_join wsX2_join) := goodIn_app (goodIn_of _ (by decide +kernel)) ggX7_arrow_X2_join
set_option maxRecDepth 20000 in
theorem ggX7_arrow_X1_blank : GoodIn wsX7_arrow wsX1_blank := goodIn_r _ [52, 53, 67] (by decide +kernel) (by decide +kernel)
set_option maxRecDepth 20000 in
theorem gX7_arrow_X1_blank : GoodIn wsX7_arrow (wsV RX7 69 RX1 yX1_blank wsX1_blank) := goodIn_app (goodIn_of _ (by decide +kernel)) ggX7_arrow_X1_blank
theorem dX7_arrow_0 : decode cX7_arrow 0 = .ok (.aload_n 0, 1) := by decide +kernel
theorem dX7_arrow_1 : decode cX7_arrow 1 = .ok (.getfield 12, 3) := by decide +kernel
theorem dX7_arrow_4 : decode cX7_arrow 4 = .ok (.iload_n 1, 1) := by decide +kernel
theorem dX7_arrow_5 : decode cX7_arrow 5 = .ok (.invokevirtual 77, 3) := by decide +kernel
theorem dX7_arrow_8 : decode cX7_arrow 8 = .ok (.ifCond .eq 26, 3) := by decide +kernel
theorem dX7_arrow_11 : decode cX7_arrow 11 = .ok (.aload_n 0, 1) := by decide +kernel
theorem dX7_arrow_12 : decode cX7_arrow 12 = .ok (.getfield 12, 3) := by decide +kernel
theorem dX7_arrow_15 : decode cX7_arrow 15 = .ok (.iload_n 2, 1) := by decide +kernel
theorem dX7_arrow_16 : decode cX7_arrow 16 = .ok (.invokevirtual 77, 3) := by decide +kernel
theorem dX7_arrow_19 : decode cX7_arrow 19 = .ok (.ifCond .eq 15, 3) := by decide +kernel
theorem dX7_arrow_22 : decode cX7_arrow 22 = .ok (.aload_n 0, 1) := by decide +kernel
theorem dX7_arrow_23 : decode cX7_arrow 23 = .ok (.getfield 12, 3) := by decide +kernel
theorem dX7_arrow_26 : decode cX7_arrow 26 = .ok (.iload_n 1, 1) := by decide +kernel
theorem dX7_arrow_27 : decode cX7_arrow 27 = .ok (.iload_n 2, 1) := by decide +kernel
theorem dX7_arrow_28 : decode cX7_arrow 28 = .ok (.invokevirtual 81, 3) := by decide +kernel
theorem dX7_arrow_31 : decode cX7_arrow 31 = .ok (.ifCond .ne 5, 3) := by decide +kernel
theorem dX7_arrow_34 : decode cX7_arrow 34 = .ok (.iconst 0, 1) := by decide +kernel
theorem dX7_arrow_35 : decode cX7_arrow 35 = .ok (.ireturn, 1) := by decide +kernel
theorem dX7_arrow_36 : decode cX7_arrow 36 = .ok (.aload_n 0, 1) := by decide +kernel
theorem dX7_arrow_37 : decode cX7_arrow 37 = .ok (.getfield 12, 3) := by decide +kernel
theorem dX7_arrow_40 : decode cX7_arrow 40 = .ok (.iload_n 1, 1) := by decide +kernel
theorem dX7_arrow_41 : decode cX7_arrow 41 = .ok (.iload_n 2, 1) := by decide +kernel
theorem dX7_arrow_42 : decode cX7_arrow 42 = .ok (.invokevirtual 85, 3) := by decide +kernel
theorem dX7_arrow_45 : decode cX7_arrow 45 = .ok (.aload_n 0, 1) := by decide +kernel
theorem dX7_arrow_46 : decode cX7_arrow 46 = .ok (.getfield 22, 3) := by decide +kernel
theorem dX7_arrow_49 : decode cX7_arrow 49 = .ok (.iload_n 2, 1) := by decide +kernel
theorem dX7_arrow_50 : decode cX7_arrow 50 = .ok (.invokevirtual 69, 3) := by decide +kernel
theorem dX7_arrow_53 : decode cX7_arrow 53 = .ok (.iconst 1, 1) := by decide +kernel
theorem dX7_arrow_54 : decode cX7_arrow 54 = .ok (.ireturn, 1) := by decide +kernel
set_option maxRecDepth 20000 in
theorem ggX7_cut_X2_leads : GoodIn wsX7_cut wsX2_leads := goodIn_r _ [7, 8, 9, 10, 11, 6, 12, 13, 14, 15, 16, 40, 41, 42] (by decide +kernel) (by decide +kernel)
set_option maxRecDepth 20000 in
theorem gX7_cut_X2_leads : GoodIn wsX7_cut (wsV RX7 89 RX2 yX2_leads wsX2_leads) := goodIn_app (goodIn_of _ (by decide +kernel)) ggX7_cut_X2_leads
set_option maxRecDepth 20000 in
theorem ggX7_cut_X2_part : GoodIn wsX7_cut wsX2_part := goodIn_r _ [20, 8, 21, 9, 10, 11, 6, 12, 13, 22, 15, 23, 40, 41, 42] (by decide +kernel) (by decide +kernel)
set_option maxRecDepth 20000 in
theorem gX7_cut_X2_part : GoodIn wsX7_cut (wsV RX7 92 RX2 yX2_part wsX2_part) := goodIn_app (goodIn_of _ (by decide +kernel)) ggX7_cut_X2_part
set_option maxRecDepth 20000 in
theorem ggX7_cut_X1_blank : GoodIn wsX7_cut wsX1_blank := goodIn_r _ [28, 29, 43] (by decide +kernel) (by decide +kernel)
set_option maxRecDepth 20000 in
theorem gX7_cut_X1_blank : GoodIn wsX7_cut (wsV RX7 69 RX1 yX1_blank wsX1_blank) := goodIn_app (goodIn_of _ (by decide +kernel)) ggX7_cut_X1_blank
theorem dX7_cut_0 : decode cX7_cut 0 = .ok (.aload_n 0, 1) := by decide +kernel
theorem dX7_cut_1 : decode cX7_cut 1 = .ok (.getfield 12, 3) := by decide +kernel
theorem dX7_cut_4 : decode cX7_cut 4 = .ok (.iload_n 1, 1) := by decide +kernel
theorem dX7_cut_5 : decode cX7_cut 5 = .ok (.iload_n 2, 1) := by decide +kernel
theorem dX7_cut_6 : decode cX7_cut 6 = .ok (.invokevirtual 89, 3) := by decide +kernel
theorem dX7_cut_9 : decode cX7_cut 9 = .ok (.ifCond .ne 5, 3) := by decide +kernel
theorem dX7_cut_12 : decode cX7_cut 12 = .ok (.iconst 0, 1) := by decide +kernel
theorem dX7_cut_13 : decode cX7_cut 13 = .ok (.ireturn, 1) := by decide +kernel
theorem dX7_cut_14 : decode cX7_cut 14 = .ok (.aload_n 0, 1) := by decide +kernel
theorem dX7_cut_15 : decode cX7_cut 15 = .ok (.getfield 12, 3) := by decide +kernel
theorem dX7_cut_18 : decode cX7_cut 18 = .ok (.iload_n 1, 1) := by decide +kernel
theorem dX7_cut_19 : decode cX7_cut 19 = .ok (.iload_n 2, 1) := by decide +kernel
theorem dX7_cut_20 : decode cX7_cut 20 = .ok (.invokevirtual 92, 3) := by decide +kernel
theorem dX7_cut_23 : decode cX7_cut 23 = .ok (.aload_n 0, 1) := by decide +kernel
theorem dX7_cut_24 : decode cX7_cut 24 = .ok (.getfield 22, 3) := by decide +kernel
theorem dX7_cut_27 : decode cX7_cut 27 = .ok (.iload_n 2, 1) := by decide +kernel
theorem dX7_cut_28 : decode cX7_cut 28 = .ok (.invokevirtual 69, 3) := by decide +kernel
theorem dX7_cut_31 : decode cX7_cut 31 = .ok (.iconst 1, 1) := by decide +kernel
theorem dX7_cut_32 : decode cX7_cut 32 = .ok (.ireturn, 1) := by decide +kernel
set_option maxRecDepth 20000 in
theorem ggX7_turn_X2_leads : GoodIn wsX7_turn wsX2_leads := goodIn_r _ [7, 8, 9, 10, 11, 6, 12, 13, 14, 15, 16, 71, 72, 73] (by decide +kernel) (by decide +kernel)
set_option maxRecDepth 20000 in
theorem gX7_turn_X2_leads : GoodIn wsX7_turn (wsV RX7 89 RX2 yX2_leads wsX2_leads) := goodIn_app (goodIn_of _ (by decide +kernel)) ggX7_turn_X2_leads
set_option maxRecDepth 20000 in
theorem ggX7_turn_X2_part : GoodIn wsX7_turn wsX2_part := goodIn_r _ [20, 8, 21, 9, 10, 11, 6, 12, 13, 22, 15, 23, 71, 72, 73] (by decide +kernel) (by decide +kernel)
set_option maxRecDepth 20000 in
theorem gX7_turn_X2_part : GoodIn wsX7_turn (wsV RX7 92 RX2 yX2_part wsX2_part) := goodIn_app (goodIn_of _ (by decide +kernel)) ggX7_turn_X2_part
set_option maxRecDepth 20000 in
theorem ggX7_turn_X2_canJoin : GoodIn wsX7_turn wsX2_canJoin := goodIn_r _ [27, 28, 29, 30, 6, 31, 21, 8, 9, 10, 11, 12, 13, 14, 15, 16, 32, 33, 34, 35, 36, 37, 38, 39, 40, 41, 42, 43, 44, 45, 46, 47, 48, 49, 50, 71, 72, 73] (by decide +kernel) (by decide +kernel)
set_option maxRecDepth 20000 in
theorem gX7_turn_X2_canJoin : GoodIn wsX7_turn (wsV RX7 81 RX2 yX2_canJoin wsX2_canJoin) := goodIn_app (goodIn_of _ (by decide +kernel)) ggX7_turn_X2_canJoin
set_option maxRecDepth 20000 in
theorem ggX7_turn_X2_join : GoodIn wsX7_turn wsX2_join := goodIn_r _ [54, 8, 21, 9, 10, 11, 6, 12, 13, 22, 15, 23, 71, 72, 73] (by decide +kernel) (by decide +kernel)
set_option maxRecDepth 20000 in
theorem gX7_turn_X2_join : GoodIn wsX7_turn (wsV RX7 85 RX2 yX2_join wsX2_join) := goodIn_app (goodIn_of _ (by decide +kernel)) ggX7_turn_X2_join
set_option maxRecDepth 20000 in
theorem ggX7_turn_X1_blank : GoodIn wsX7_turn wsX1_blank := goodIn_r _ [59, 60, 74] (by decide +kernel) (by decide +kernel)
set_option maxRecDepth 20000 in
theorem gX7_turn_X1_blank : GoodIn wsX7_turn (wsV RX7 69 RX1 yX1_blank wsX1_blank) := goodIn_app (goodIn_of _ (by decide +kernel)) ggX7_turn_X1_blank
theorem dX7_turn_0 : decode cX7_turn 0 = .ok (.aload_n 0, 1) := by decide +kernel
theorem dX7_turn_1 : decode cX7_turn 1 = .ok (.getfield 12, 3) := by decide +kernel
theorem dX7_turn_4 : decode cX7_turn 4 = .ok (.iload_n 1, 1) := by decide +kernel
theorem dX7_turn_5 : decode cX7_turn 5 = .ok (.iload_n 2, 1) := by decide +kernel
theorem dX7_turn_6 : decode cX7_turn 6 = .ok (.invokevirtual 89, 3) := by decide +kernel
theorem dX7_turn_9 : decode cX7_turn 9 = .ok (.ifCond .ne 5, 3) := by decide +kernel
theorem dX7_turn_12 : decode cX7_turn 12 = .ok (.iconst 0, 1) := by decide +kernel
theorem dX7_turn_13 : decode cX7_turn 13 = .ok (.ireturn, 1) := by decide +kernel
theorem dX7_turn_14 : decode cX7_turn 14 = .ok (.aload_n 0, 1) := by decide +kernel
theorem dX7_turn_15 : decode cX7_turn 15 = .ok (.getfield 12, 3) := by decide +kernel
theorem dX7_turn_18 : decode cX7_turn 18 = .ok (.iload_n 1, 1) := by decide +kernel
theorem dX7_turn_19 : decode cX7_turn 19 = .ok (.iload_n 2, 1) := by decide +kernel
theorem dX7_turn_20 : decode cX7_turn 20 = .ok (.invokevirtual 92, 3) := by decide +kernel
theorem dX7_turn_23 : decode cX7_turn 23 = .ok (.aload_n 0, 1) := by decide +kernel
theorem dX7_turn_24 : decode cX7_turn 24 = .ok (.getfield 12, 3) := by decide +kernel
theorem dX7_turn_27 : decode cX7_turn 27 = .ok (.iload_n 2, 1) := by decide +kernel
theorem dX7_turn_28 : decode cX7_turn 28 = .ok (.iload_n 1, 1) := by decide +kernel
theorem dX7_turn_29 : decode cX7_turn 29 = .ok (.invokevirtual 81, 3) := by decide +kernel
theorem dX7_turn_32 : decode cX7_turn 32 = .ok (.ifCond .ne 14, 3) := by decide +kernel
theorem dX7_turn_35 : decode cX7_turn 35 = .ok (.aload_n 0, 1) := by decide +kernel
theorem dX7_turn_36 : decode cX7_turn 36 = .ok (.getfield 12, 3) := by decide +kernel
theorem dX7_turn_39 : decode cX7_turn 39 = .ok (.iload_n 1, 1) := by decide +kernel
theorem dX7_turn_40 : decode cX7_turn 40 = .ok (.iload_n 2, 1) := by decide +kernel
theorem dX7_turn_41 : decode cX7_turn 41 = .ok (.invokevirtual 85, 3) := by decide +kernel
theorem dX7_turn_44 : decode cX7_turn 44 = .ok (.iconst 0, 1) := by decide +kernel
theorem dX7_turn_45 : decode cX7_turn 45 = .ok (.ireturn, 1) := by decide +kernel
theorem dX7_turn_46 : decode cX7_turn 46 = .ok (.aload_n 0, 1) := by decide +kernel
theorem dX7_turn_47 : decode cX7_turn 47 = .ok (.getfield 12, 3) := by decide +kernel
theorem dX7_turn_50 : decode cX7_turn 50 = .ok (.iload_n 2, 1) := by decide +kernel
theorem dX7_turn_51 : decode cX7_turn 51 = .ok (.iload_n 1, 1) := by decide +kernel
theorem dX7_turn_52 : decode cX7_turn 52 = .ok (.invokevirtual 85, 3) := by decide +kernel
theorem dX7_turn_55 : decode cX7_turn 55 = .ok (.aload_n 0, 1) := by decide +kernel
theorem dX7_turn_56 : decode cX7_turn 56 = .ok (.getfield 22, 3) := by decide +kernel
theorem dX7_turn_59 : decode cX7_turn 59 = .ok (.iload_n 1, 1) := by decide +kernel
theorem dX7_turn_60 : decode cX7_turn 60 = .ok (.invokevirtual 69, 3) := by decide +kernel
theorem dX7_turn_63 : decode cX7_turn 63 = .ok (.aload_n 0, 1) := by decide +kernel
theorem dX7_turn_64 : decode cX7_turn 64 = .ok (.getfield 22, 3) := by decide +kernel
theorem dX7_turn_67 : decode cX7_turn 67 = .ok (.iload_n 2, 1) := by decide +kernel
theorem dX7_turn_68 : decode cX7_turn 68 = .ok (.invokevirtual 69, 3) := by decide +kernel
theorem dX7_turn_71 : decode cX7_turn 71 = .ok (.iconst 1, 1) := by decide +kernel
theorem dX7_turn_72 : decode cX7_turn 72 = .ok (.ireturn, 1) := by decide +kernel
set_option maxRecDepth 20000 in
theorem ggX7_book_X7_hasRow : GoodIn wsX7_book wsX7_hasRow := goodIn_r _ [6, 7, 8, 9, 10, 11, 12, 13, 14, 15, 16, 17, 18, 19, 20, 21, 5, 22, 23, 24, 25, 26, 27, 28, 29, 39, 40, 41, 42, 43, 44, 45, 46, 47, 48, 49, 50, 51] (by decide +kernel) (by decide +kernel)
set_option maxRecDepth 20000 in
theorem gX7_book_X7_hasRow : GoodIn wsX7_book (wsV RX7 95 RX7 yX7_hasRow wsX7_hasRow) := goodIn_app (goodIn_of _ (by decide +kernel)) ggX7_book_X7_hasRow
set_option maxRecDepth 20000 in
theorem ggX7_book_X1_write : GoodIn wsX7_book wsX1_write := goodIn_r _ [34, 35, 36, 37, 33, 38, 52] (by decide +kernel) (by decide +kernel)
set_option maxRecDepth 20000 in
theorem gX7_book_X1_write : GoodIn wsX7_book (wsV RX7 98 RX1 yX1_write wsX1_write) := goodIn_app (goodIn_of _ (by decide +kernel)) ggX7_book_X1_write
theorem dX7_book_0 : decode cX7_book 0 = .ok (.aload_n 0, 1) := by decide +kernel
theorem dX7_book_1 : decode cX7_book 1 = .ok (.iload_n 1, 1) := by decide +kernel
theorem dX7_book_2 : decode cX7_book 2 = .ok (.iload_n 2, 1) := by decide +kernel
theorem dX7_book_3 : decode cX7_book 3 = .ok (.invokevirtual 95, 3) := by decide +kernel
theorem dX7_book_6 : decode cX7_book 6 = .ok (.ifCond .eq 13, 3) := by decide +kernel
theorem dX7_book_9 : decode cX7_book 9 = .ok (.iload_n 3, 1) := by decide +kernel
theorem dX7_book_10 : decode cX7_book 10 = .ok (.ifCond .lt 9, 3) := by decide +kernel
theorem dX7_book_13 : decode cX7_book 13 = .ok (.iload_n 3, 1) := by decide +kernel
theorem dX7_book_14 : decode cX7_book 14 = .ok (.bipush 100, 2) := by decide +kernel
theorem dX7_book_16 : decode cX7_book 16 = .ok (.if_icmp .le 5, 3) := by decide +kernel
theorem dX7_book_19 : decode cX7_book 19 = .ok (.iconst 0, 1) := by decide +kernel
theorem dX7_book_20 : decode cX7_book 20 = .ok (.ireturn, 1) := by decide +kernel
theorem dX7_book_21 : decode cX7_book 21 = .ok (.aload_n 0, 1) := by decide +kernel
theorem dX7_book_22 : decode cX7_book 22 = .ok (.getfield 22, 3) := by decide +kernel
theorem dX7_book_25 : decode cX7_book 25 = .ok (.iload_n 1, 1) := by decide +kernel
theorem dX7_book_26 : decode cX7_book 26 = .ok (.iload_n 2, 1) := by decide +kernel
theorem dX7_book_27 : decode cX7_book 27 = .ok (.iload_n 3, 1) := by decide +kernel
theorem dX7_book_28 : decode cX7_book 28 = .ok (.invokevirtual 98, 3) := by decide +kernel
theorem dX7_book_31 : decode cX7_book 31 = .ok (.iconst 1, 1) := by decide +kernel
theorem dX7_book_32 : decode cX7_book 32 = .ok (.ireturn, 1) := by decide +kernel
set_option maxRecDepth 20000 in
theorem ggX7_booked_X7_hasRow : GoodIn wsX7_booked wsX7_hasRow := goodIn_r _ [6, 7, 8, 9, 10, 11, 12, 13, 14, 15, 16, 17, 18, 19, 20, 21, 5, 22, 23, 24, 25, 26, 27, 28, 29, 39, 40, 41, 42, 43, 44, 45, 46, 47, 48, 49, 50, 51] (by decide +kernel) (by decide +kernel)
set_option maxRecDepth 20000 in
theorem gX7_booked_X7_hasRow : GoodIn wsX7_booked (wsV RX7 95 RX7 yX7_hasRow wsX7_hasRow) := goodIn_app (goodIn_of _ (by decide +kernel)) ggX7_booked_X7_hasRow
set_option maxRecDepth 20000 in
theorem ggX7_booked_X1_read : GoodIn wsX7_booked wsX1_read := goodIn_r _ [34, 35, 36, 37, 33, 38, 52] (by decide +kernel) (by decide +kernel)
set_option maxRecDepth 20000 in
theorem gX7_booked_X1_read : GoodIn wsX7_booked (wsV RX7 102 RX1 yX1_read wsX1_read) := goodIn_app (goodIn_of _ (by decide +kernel)) ggX7_booked_X1_read
theorem dX7_booked_0 : decode cX7_booked 0 = .ok (.aload_n 0, 1) := by decide +kernel
theorem dX7_booked_1 : decode cX7_booked 1 = .ok (.iload_n 1, 1) := by decide +kernel
theorem dX7_booked_2 : decode cX7_booked 2 = .ok (.iload_n 2, 1) := by decide +kernel
theorem dX7_booked_3 : decode cX7_booked 3 = .ok (.invokevirtual 95, 3) := by decide +kernel
theorem dX7_booked_6 : decode cX7_booked 6 = .ok (.ifCond .eq 15, 3) := by decide +kernel
theorem dX7_booked_9 : decode cX7_booked 9 = .ok (.aload_n 0, 1) := by decide +kernel
theorem dX7_booked_10 : decode cX7_booked 10 = .ok (.getfield 22, 3) := by decide +kernel
theorem dX7_booked_13 : decode cX7_booked 13 = .ok (.iload_n 1, 1) := by decide +kernel
theorem dX7_booked_14 : decode cX7_booked 14 = .ok (.iload_n 2, 1) := by decide +kernel
theorem dX7_booked_15 : decode cX7_booked 15 = .ok (.invokevirtual 102, 3) := by decide +kernel
theorem dX7_booked_18 : decode cX7_booked 18 = .ok (.goto 4, 3) := by decide +kernel
theorem dX7_booked_21 : decode cX7_booked 21 = .ok (.iconst (-1), 1) := by decide +kernel
theorem dX7_booked_22 : decode cX7_booked 22 = .ok (.ireturn, 1) := by decide +kernel
set_option maxRecDepth 20000 in
theorem ggX7_told_X2_has : GoodIn wsX7_told wsX2_has := goodIn_r _ [7, 8, 50, 51, 52] (by decide +kernel) (by decide +kernel)
set_option maxRecDepth 20000 in
theorem gX7_told_X2_has : GoodIn wsX7_told (wsV RX7 77 RX2 yX2_has wsX2_has) := goodIn_app (goodIn_of _ (by decide +kernel)) ggX7_told_X2_has
set_option maxRecDepth 20000 in
theorem ggX7_told_X7_inHeap : GoodIn wsX7_told wsX7_inHeap := goodIn_r _ [12] (by decide +kernel) (by decide +kernel)
set_option maxRecDepth 20000 in
theorem gX7_told_X7_inHeap : GoodIn wsX7_told (va_wsS RX7 106 yX7_inHeap wsX7_inHeap) := goodIn_app (goodIn_of _ (by decide +kernel)) ggX7_told_X7_inHeap
set_option maxRecDepth 20000 in
theorem ggX7_told_X2_parentsOf : GoodIn wsX7_told wsX2_parentsOf := goodIn_r _ [16, 17, 18, 4, 5, 6, 7, 8, 50, 51, 52] (by decide +kernel) (by decide +kernel)
set_option maxRecDepth 20000 in
theorem gX7_told_X2_parentsOf : GoodIn wsX7_told (wsV RX7 109 RX2 yX2_parentsOf wsX2_parentsOf) := goodIn_app (goodIn_of _ (by decide +kernel)) ggX7_told_X2_parentsOf
set_option maxRecDepth 20000 in
theorem ggX7_told_X2_childrenOf : GoodIn wsX7_told wsX2_childrenOf := goodIn_r _ [22, 23, 18, 4, 5, 6, 7, 8, 50, 51, 52] (by decide +kernel) (by decide +kernel)
set_option maxRecDepth 20000 in
theorem gX7_told_X2_childrenOf : GoodIn wsX7_told (wsV RX7 112 RX2 yX2_childrenOf wsX2_childrenOf) := goodIn_app (goodIn_of _ (by decide +kernel)) ggX7_told_X2_childrenOf
set_option maxRecDepth 20000 in
theorem ggX7_told_X2_allBelow : GoodIn wsX7_told wsX2_allBelow := goodIn_r _ [27, 28, 20, 21, 6, 22, 23, 18, 4, 5, 7, 8, 29, 30, 31, 32, 33, 34, 35, 36, 37, 38, 39, 10, 11, 12, 50, 51, 52] (by decide +kernel) (by decide +kernel)
set_option maxRecDepth 20000 in
theorem gX7_told_X2_allBelow : GoodIn wsX7_told (wsV RX7 115 RX2 yX2_allBelow wsX2_allBelow) := goodIn_app (goodIn_of _ (by decide +kernel)) ggX7_told_X2_allBelow
theorem dX7_told_0 : decode cX7_told 0 = .ok (.aload_n 0, 1) := by decide +kernel
theorem dX7_told_1 : decode cX7_told 1 = .ok (.getfield 12, 3) := by decide +kernel
theorem dX7_told_4 : decode cX7_told 4 = .ok (.iload_n 1, 1) := by decide +kernel
theorem dX7_told_5 : decode cX7_told 5 = .ok (.invokevirtual 77, 3) := by decide +kernel
theorem dX7_told_8 : decode cX7_told 8 = .ok (.ifCond .ne 5, 3) := by decide +kernel
theorem dX7_told_11 : decode cX7_told 11 = .ok (.iconst (-1), 1) := by decide +kernel
theorem dX7_told_12 : decode cX7_told 12 = .ok (.ireturn, 1) := by decide +kernel
theorem dX7_told_13 : decode cX7_told 13 = .ok (.iload_n 2, 1) := by decide +kernel
theorem dX7_told_14 : decode cX7_told 14 = .ok (.tableswitch 74 0 3 #[30, 47, 56, 65], 30) := by decide +kernel
theorem dX7_told_44 : decode cX7_told 44 = .ok (.aload_n 0, 1) := by decide +kernel
theorem dX7_told_45 : decode cX7_told 45 = .ok (.getfield 54, 3) := by decide +kernel
theorem dX7_told_48 : decode cX7_told 48 = .ok (.iload_n 1, 1) := by decide +kernel
theorem dX7_told_49 : decode cX7_told 49 = .ok (.invokestatic 106, 3) := by decide +kernel
theorem dX7_told_52 : decode cX7_told 52 = .ok (.ifCond .eq 7, 3) := by decide +kernel
theorem dX7_told_55 : decode cX7_told 55 = .ok (.iconst 1, 1) := by decide +kernel
theorem dX7_told_56 : decode cX7_told 56 = .ok (.goto 4, 3) := by decide +kernel
theorem dX7_told_59 : decode cX7_told 59 = .ok (.iconst 0, 1) := by decide +kernel
theorem dX7_told_60 : decode cX7_told 60 = .ok (.ireturn, 1) := by decide +kernel
theorem dX7_told_61 : decode cX7_told 61 = .ok (.aload_n 0, 1) := by decide +kernel
theorem dX7_told_62 : decode cX7_told 62 = .ok (.getfield 12, 3) := by decide +kernel
theorem dX7_told_65 : decode cX7_told 65 = .ok (.iload_n 1, 1) := by decide +kernel
theorem dX7_told_66 : decode cX7_told 66 = .ok (.invokevirtual 109, 3) := by decide +kernel
theorem dX7_told_69 : decode cX7_told 69 = .ok (.ireturn, 1) := by decide +kernel
theorem dX7_told_70 : decode cX7_told 70 = .ok (.aload_n 0, 1) := by decide +kernel
theorem dX7_told_71 : decode cX7_told 71 = .ok (.getfield 12, 3) := by decide +kernel
theorem dX7_told_74 : decode cX7_told 74 = .ok (.iload_n 1, 1) := by decide +kernel
theorem dX7_told_75 : decode cX7_told 75 = .ok (.invokevirtual 112, 3) := by decide +kernel
theorem dX7_told_78 : decode cX7_told 78 = .ok (.ireturn, 1) := by decide +kernel
theorem dX7_told_79 : decode cX7_told 79 = .ok (.aload_n 0, 1) := by decide +kernel
theorem dX7_told_80 : decode cX7_told 80 = .ok (.getfield 12, 3) := by decide +kernel
theorem dX7_told_83 : decode cX7_told 83 = .ok (.iload_n 1, 1) := by decide +kernel
theorem dX7_told_84 : decode cX7_told 84 = .ok (.invokevirtual 115, 3) := by decide +kernel
theorem dX7_told_87 : decode cX7_told 87 = .ok (.ireturn, 1) := by decide +kernel
theorem dX7_told_88 : decode cX7_told 88 = .ok (.iconst (-1), 1) := by decide +kernel
theorem dX7_told_89 : decode cX7_told 89 = .ok (.ireturn, 1) := by decide +kernel
set_option maxRecDepth 20000 in
theorem ggX7_weight_X7_isSetting : GoodIn wsX7_weight wsX7_isSetting := goodIn_r _ [9, 10, 11, 8, 12, 13, 14, 15, 16, 3, 17, 18, 19, 20, 21, 22, 23, 24, 25, 90, 91, 92, 93, 94, 95, 96, 97, 98, 99, 100, 101, 102] (by decide +kernel) (by decide +kernel)
set_option maxRecDepth 20000 in
theorem gX7_weight_X7_isSetting : GoodIn wsX7_weight (wsV RX7 118 RX7 yX7_isSetting wsX7_isSetting) := goodIn_app (goodIn_of _ (by decide +kernel)) ggX7_weight_X7_isSetting
set_option maxRecDepth 20000 in
theorem ggX7_weight_X6_weigh : GoodIn wsX7_weight wsX6_weigh := goodIn_r _ [30, 31, 32, 33, 18, 19, 20, 21, 22, 34, 35, 36, 37, 38, 39, 40, 41, 42, 43, 8, 44, 45, 46, 47, 48, 49, 50, 51, 52, 53, 54, 55, 56, 57, 58, 59, 60, 11, 12, 24, 25, 61, 62, 63, 64, 65, 66, 67, 68, 69, 70, 71, 72, 73, 74, 75, 76, 77, 78, 79, 80, 81, 82, 29, 83, 84, 85, 103, 104, 100, 101, 102, 105] (by decide +kernel) (by decide +kernel)
set_option maxRecDepth 20000 in
theorem gX7_weight_X6_weigh : GoodIn wsX7_weight (wsV RX7 123 RX6 yX6_weigh wsX6_weigh) := goodIn_app (goodIn_of _ (by decide +kernel)) ggX7_weight_X6_weigh
set_option maxRecDepth 20000 in
theorem ggX7_weight_X7_heapOf : GoodIn wsX7_weight wsX7_heapOf := goodIn_r _ [12] (by decide +kernel) (by decide +kernel)
set_option maxRecDepth 20000 in
theorem gX7_weight_X7_heapOf : GoodIn wsX7_weight (va_wsS RX7 127 yX7_heapOf wsX7_heapOf) := goodIn_app (goodIn_of _ (by decide +kernel)) ggX7_weight_X7_heapOf
set_option maxRecDepth 20000 in
theorem ggX7_weight_X7_onesOf : GoodIn wsX7_weight wsX7_onesOf := goodIn_r _ [25] (by decide +kernel) (by decide +kernel)
set_option maxRecDepth 20000 in
theorem gX7_weight_X7_onesOf : GoodIn wsX7_weight (va_wsS RX7 130 yX7_onesOf wsX7_onesOf) := goodIn_app (goodIn_of _ (by decide +kernel)) ggX7_weight_X7_onesOf
set_option maxRecDepth 20000 in
theorem ggX7_weight_X6_having : GoodIn wsX7_weight wsX6_having := goodIn_r _ [89, 31, 32, 45, 8, 46, 47, 48, 49, 50, 51, 52, 53, 84, 85, 103, 104] (by decide +kernel) (by decide +kernel)
set_option maxRecDepth 20000 in
theorem gX7_weight_X6_having : GoodIn wsX7_weight (wsV RX7 133 RX6 yX6_having wsX6_having) := goodIn_app (goodIn_of _ (by decide +kernel)) ggX7_weight_X6_having
theorem dX7_weight_0 : decode cX7_weight 0 = .ok (.aload_n 0, 1) := by decide +kernel
theorem dX7_weight_1 : decode cX7_weight 1 = .ok (.iload_n 1, 1) := by decide +kernel
theorem dX7_weight_2 : decode cX7_weight 2 = .ok (.invokevirtual 118, 3) := by decide +kernel
theorem dX7_weight_5 : decode cX7_weight 5 = .ok (.ifCond .eq 11, 3) := by decide +kernel
theorem dX7_weight_8 : decode cX7_weight 8 = .ok (.aload_n 0, 1) := by decide +kernel
theorem dX7_weight_9 : decode cX7_weight 9 = .ok (.iload_n 2, 1) := by decide +kernel
theorem dX7_weight_10 : decode cX7_weight 10 = .ok (.invokevirtual 118, 3) := by decide +kernel
theorem dX7_weight_13 : decode cX7_weight 13 = .ok (.ifCond .ne 7, 3) := by decide +kernel
theorem dX7_weight_16 : decode cX7_weight 16 = .ok (.ldc2_w 121, 3) := by decide +kernel
theorem dX7_weight_19 : decode cX7_weight 19 = .ok (.lreturn, 1) := by decide +kernel
theorem dX7_weight_20 : decode cX7_weight 20 = .ok (.aload_n 0, 1) := by decide +kernel
theorem dX7_weight_21 : decode cX7_weight 21 = .ok (.getfield 29, 3) := by decide +kernel
theorem dX7_weight_24 : decode cX7_weight 24 = .ok (.aload_n 0, 1) := by decide +kernel
theorem dX7_weight_25 : decode cX7_weight 25 = .ok (.getfield 12, 3) := by decide +kernel
theorem dX7_weight_28 : decode cX7_weight 28 = .ok (.aload_n 0, 1) := by decide +kernel
theorem dX7_weight_29 : decode cX7_weight 29 = .ok (.getfield 22, 3) := by decide +kernel
theorem dX7_weight_32 : decode cX7_weight 32 = .ok (.iload_n 2, 1) := by decide +kernel
theorem dX7_weight_33 : decode cX7_weight 33 = .ok (.invokevirtual 123, 3) := by decide +kernel
theorem dX7_weight_36 : decode cX7_weight 36 = .ok (.aload_n 0, 1) := by decide +kernel
theorem dX7_weight_37 : decode cX7_weight 37 = .ok (.getfield 29, 3) := by decide +kernel
theorem dX7_weight_40 : decode cX7_weight 40 = .ok (.iload_n 1, 1) := by decide +kernel
theorem dX7_weight_41 : decode cX7_weight 41 = .ok (.invokestatic 127, 3) := by decide +kernel
theorem dX7_weight_44 : decode cX7_weight 44 = .ok (.iload_n 1, 1) := by decide +kernel
theorem dX7_weight_45 : decode cX7_weight 45 = .ok (.invokestatic 130, 3) := by decide +kernel
theorem dX7_weight_48 : decode cX7_weight 48 = .ok (.invokevirtual 133, 3) := by decide +kernel
theorem dX7_weight_51 : decode cX7_weight 51 = .ok (.lreturn, 1) := by decide +kernel
set_option maxRecDepth 20000 in
theorem ggX7_chance_X7_isSetting : GoodIn wsX7_chance wsX7_isSetting := goodIn_r _ [10, 11, 12, 9, 13, 14, 15, 16, 17, 4, 18, 19, 20, 21, 22, 23, 24, 25, 26, 101, 102, 103, 104, 105, 106, 107, 108, 109, 110, 111, 112, 113] (by decide +kernel) (by decide +kernel)
set_option maxRecDepth 20000 in
theorem gX7_chance_X7_isSetting : GoodIn wsX7_chance (wsV RX7 118 RX7 yX7_isSetting wsX7_isSetting) := goodIn_app (goodIn_of _ (by decide +kernel)) ggX7_chance_X7_isSetting
set_option maxRecDepth 20000 in
theorem ggX7_chance_X6_weigh : GoodIn wsX7_chance wsX6_weigh := goodIn_r _ [31, 32, 33, 34, 19, 20, 21, 22, 23, 35, 36, 37, 38, 39, 40, 41, 42, 43, 44, 9, 45, 46, 47, 48, 49, 50, 51, 52, 53, 54, 55, 56, 57, 58, 59, 60, 61, 12, 13, 25, 26, 62, 63, 64, 65, 66, 67, 68, 69, 70, 71, 72, 73, 74, 75, 76, 77, 78, 79, 80, 81, 82, 83, 30, 84, 85, 86, 114, 115, 111, 112, 113, 116] (by decide +kernel) (by decide +kernel)
set_option maxRecDepth 20000 in
theorem gX7_chance_X6_weigh : GoodIn wsX7_chance (wsV RX7 123 RX6 yX6_weigh wsX6_weigh) := goodIn_app (goodIn_of _ (by decide +kernel)) ggX7_chance_X6_weigh
set_option maxRecDepth 20000 in
theorem ggX7_chance_X7_heapOf : GoodIn wsX7_chance wsX7_heapOf := goodIn_r _ [13] (by decide +kernel) (by decide +kernel)
set_option maxRecDepth 20000 in
theorem gX7_chance_X7_heapOf : GoodIn wsX7_chance (va_wsS RX7 127 yX7_heapOf wsX7_heapOf) := goodIn_app (goodIn_of _ (by decide +kernel)) ggX7_chance_X7_heapOf
set_option maxRecDepth 20000 in
theorem ggX7_chance_X7_onesOf : GoodIn wsX7_chance wsX7_onesOf := goodIn_r _ [26] (by decide +kernel) (by decide +kernel)
set_option maxRecDepth 20000 in
theorem gX7_chance_X7_onesOf : GoodIn wsX7_chance (va_wsS RX7 130 yX7_onesOf wsX7_onesOf) := goodIn_app (goodIn_of _ (by decide +kernel)) ggX7_chance_X7_onesOf
set_option maxRecDepth 20000 in
theorem ggX7_chance_X6_having : GoodIn wsX7_chance wsX6_having := goodIn_r _ [90, 32, 33, 46, 9, 47, 48, 49, 50, 51, 52, 53, 54, 85, 86, 114, 115] (by decide +kernel) (by decide +kernel)
set_option maxRecDepth 20000 in
theorem gX7_chance_X6_having : GoodIn wsX7_chance (wsV RX7 133 RX6 yX6_having wsX6_having) := goodIn_app (goodIn_of _ (by decide +kernel)) ggX7_chance_X6_having
set_option maxRecDepth 20000 in
theorem ggX7_chance_X7_clash : GoodIn wsX7_chance wsX7_clash := goodIn_r _ [93, 11, 12, 9, 13, 24, 25, 26] (by decide +kernel) (by decide +kernel)
set_option maxRecDepth 20000 in
theorem gX7_chance_X7_clash : GoodIn wsX7_chance (va_wsS RX7 137 yX7_clash wsX7_clash) := goodIn_app (goodIn_of _ (by decide +kernel)) ggX7_chance_X7_clash
set_option maxRecDepth 20000 in
theorem ggX7_chance_X7_commonDivisor : GoodIn wsX7_chance wsX7_commonDivisor := goodIn_r _ [96, 97, 98, 99, 100] (by decide +kernel) (by decide +kernel)
set_option maxRecDepth 20000 in
theorem gX7_chance_X7_commonDivisor : GoodIn wsX7_chance (va_wsS RX7 140 yX7_commonDivisor wsX7_commonDivisor) := goodIn_app (goodIn_of _ (by decide +kernel)) ggX7_chance_X7_commonDivisor
theorem dX7_chance_0 : decode cX7_chance 0 = .ok (.aload_n 0, 1) := by decide +kernel
theorem dX7_chance_1 : decode cX7_chance 1 = .ok (.lconst 0, 1) := by decide +kernel
theorem dX7_chance_2 : decode cX7_chance 2 = .ok (.putfield 58, 3) := by decide +kernel
theorem dX7_chance_5 : decode cX7_chance 5 = .ok (.aload_n 0, 1) := by decide +kernel
theorem dX7_chance_6 : decode cX7_chance 6 = .ok (.lconst 1, 1) := by decide +kernel
theorem dX7_chance_7 : decode cX7_chance 7 = .ok (.putfield 62, 3) := by decide +kernel
theorem dX7_chance_10 : decode cX7_chance 10 = .ok (.aload_n 0, 1) := by decide +kernel
theorem dX7_chance_11 : decode cX7_chance 11 = .ok (.iload_n 1, 1) := by decide +kernel
theorem dX7_chance_12 : decode cX7_chance 12 = .ok (.invokevirtual 118, 3) := by decide +kernel
theorem dX7_chance_15 : decode cX7_chance 15 = .ok (.ifCond .eq 19, 3) := by decide +kernel
theorem dX7_chance_18 : decode cX7_chance 18 = .ok (.aload_n 0, 1) := by decide +kernel
theorem dX7_chance_19 : decode cX7_chance 19 = .ok (.iload_n 2, 1) := by decide +kernel
theorem dX7_chance_20 : decode cX7_chance 20 = .ok (.invokevirtual 118, 3) := by decide +kernel
theorem dX7_chance_23 : decode cX7_chance 23 = .ok (.ifCond .eq 11, 3) := by decide +kernel
theorem dX7_chance_26 : decode cX7_chance 26 = .ok (.aload_n 0, 1) := by decide +kernel
theorem dX7_chance_27 : decode cX7_chance 27 = .ok (.iload_n 3, 1) := by decide +kernel
theorem dX7_chance_28 : decode cX7_chance 28 = .ok (.invokevirtual 118, 3) := by decide +kernel
theorem dX7_chance_31 : decode cX7_chance 31 = .ok (.ifCond .ne 5, 3) := by decide +kernel
theorem dX7_chance_34 : decode cX7_chance 34 = .ok (.iconst (-1), 1) := by decide +kernel
theorem dX7_chance_35 : decode cX7_chance 35 = .ok (.ireturn, 1) := by decide +kernel
theorem dX7_chance_36 : decode cX7_chance 36 = .ok (.aload_n 0, 1) := by decide +kernel
theorem dX7_chance_37 : decode cX7_chance 37 = .ok (.getfield 29, 3) := by decide +kernel
theorem dX7_chance_40 : decode cX7_chance 40 = .ok (.aload_n 0, 1) := by decide +kernel
theorem dX7_chance_41 : decode cX7_chance 41 = .ok (.getfield 12, 3) := by decide +kernel
theorem dX7_chance_44 : decode cX7_chance 44 = .ok (.aload_n 0, 1) := by decide +kernel
theorem dX7_chance_45 : decode cX7_chance 45 = .ok (.getfield 22, 3) := by decide +kernel
theorem dX7_chance_48 : decode cX7_chance 48 = .ok (.iload_n 3, 1) := by decide +kernel
theorem dX7_chance_49 : decode cX7_chance 49 = .ok (.invokevirtual 123, 3) := by decide +kernel
theorem dX7_chance_52 : decode cX7_chance 52 = .ok (.aload_n 0, 1) := by decide +kernel
theorem dX7_chance_53 : decode cX7_chance 53 = .ok (.getfield 29, 3) := by decide +kernel
theorem dX7_chance_56 : decode cX7_chance 56 = .ok (.iload_n 2, 1) := by decide +kernel
theorem dX7_chance_57 : decode cX7_chance 57 = .ok (.invokestatic 127, 3) := by decide +kernel
theorem dX7_chance_60 : decode cX7_chance 60 = .ok (.iload_n 2, 1) := by decide +kernel
theorem dX7_chance_61 : decode cX7_chance 61 = .ok (.invokestatic 130, 3) := by decide +kernel
theorem dX7_chance_64 : decode cX7_chance 64 = .ok (.invokevirtual 133, 3) := by decide +kernel
theorem dX7_chance_67 : decode cX7_chance 67 = .ok (.lstore 4, 2) := by decide +kernel
theorem dX7_chance_69 : decode cX7_chance 69 = .ok (.lload 4, 2) := by decide +kernel
theorem dX7_chance_71 : decode cX7_chance 71 = .ok (.lconst 0, 1) := by decide +kernel
theorem dX7_chance_72 : decode cX7_chance 72 = .ok (.lcmp, 1) := by decide +kernel
theorem dX7_chance_73 : decode cX7_chance 73 = .ok (.ifCond .gt 5, 3) := by decide +kernel
theorem dX7_chance_76 : decode cX7_chance 76 = .ok (.iconst 0, 1) := by decide +kernel
theorem dX7_chance_77 : decode cX7_chance 77 = .ok (.ireturn, 1) := by decide +kernel
theorem dX7_chance_78 : decode cX7_chance 78 = .ok (.lconst 0, 1) := by decide +kernel
theorem dX7_chance_79 : decode cX7_chance 79 = .ok (.lstore 6, 2) := by decide +kernel
theorem dX7_chance_81 : decode cX7_chance 81 = .ok (.iload_n 1, 1) := by decide +kernel
theorem dX7_chance_82 : decode cX7_chance 82 = .ok (.iload_n 2, 1) := by decide +kernel
theorem dX7_chance_83 : decode cX7_chance 83 = .ok (.invokestatic 137, 3) := by decide +kernel
theorem dX7_chance_86 : decode cX7_chance 86 = .ok (.ifCond .ne 24, 3) := by decide +kernel
theorem dX7_chance_89 : decode cX7_chance 89 = .ok (.aload_n 0, 1) := by decide +kernel
theorem dX7_chance_90 : decode cX7_chance 90 = .ok (.getfield 29, 3) := by decide +kernel
theorem dX7_chance_93 : decode cX7_chance 93 = .ok (.iload_n 1, 1) := by decide +kernel
theorem dX7_chance_94 : decode cX7_chance 94 = .ok (.iload_n 2, 1) := by decide +kernel
theorem dX7_chance_95 : decode cX7_chance 95 = .ok (.ior, 1) := by decide +kernel
theorem dX7_chance_96 : decode cX7_chance 96 = .ok (.invokestatic 127, 3) := by decide +kernel
theorem dX7_chance_99 : decode cX7_chance 99 = .ok (.iload_n 1, 1) := by decide +kernel
theorem dX7_chance_100 : decode cX7_chance 100 = .ok (.iload_n 2, 1) := by decide +kernel
theorem dX7_chance_101 : decode cX7_chance 101 = .ok (.ior, 1) := by decide +kernel
theorem dX7_chance_102 : decode cX7_chance 102 = .ok (.invokestatic 130, 3) := by decide +kernel
theorem dX7_chance_105 : decode cX7_chance 105 = .ok (.invokevirtual 133, 3) := by decide +kernel
theorem dX7_chance_108 : decode cX7_chance 108 = .ok (.lstore 6, 2) := by decide +kernel
theorem dX7_chance_110 : decode cX7_chance 110 = .ok (.lload 4, 2) := by decide +kernel
theorem dX7_chance_112 : decode cX7_chance 112 = .ok (.lload 6, 2) := by decide +kernel
theorem dX7_chance_114 : decode cX7_chance 114 = .ok (.invokestatic 140, 3) := by decide +kernel
theorem dX7_chance_117 : decode cX7_chance 117 = .ok (.lstore 8, 2) := by decide +kernel
theorem dX7_chance_119 : decode cX7_chance 119 = .ok (.aload_n 0, 1) := by decide +kernel
theorem dX7_chance_120 : decode cX7_chance 120 = .ok (.lload 6, 2) := by decide +kernel
theorem dX7_chance_122 : decode cX7_chance 122 = .ok (.lload 8, 2) := by decide +kernel
theorem dX7_chance_124 : decode cX7_chance 124 = .ok (.ldiv, 1) := by decide +kernel
theorem dX7_chance_125 : decode cX7_chance 125 = .ok (.putfield 58, 3) := by decide +kernel
theorem dX7_chance_128 : decode cX7_chance 128 = .ok (.aload_n 0, 1) := by decide +kernel
theorem dX7_chance_129 : decode cX7_chance 129 = .ok (.lload 4, 2) := by decide +kernel
theorem dX7_chance_131 : decode cX7_chance 131 = .ok (.lload 8, 2) := by decide +kernel
theorem dX7_chance_133 : decode cX7_chance 133 = .ok (.ldiv, 1) := by decide +kernel
theorem dX7_chance_134 : decode cX7_chance 134 = .ok (.putfield 62, 3) := by decide +kernel
theorem dX7_chance_137 : decode cX7_chance 137 = .ok (.iconst 1, 1) := by decide +kernel
theorem dX7_chance_138 : decode cX7_chance 138 = .ok (.ireturn, 1) := by decide +kernel
theorem dX7_above_0 : decode cX7_above 0 = .ok (.aload_n 0, 1) := by decide +kernel
theorem dX7_above_1 : decode cX7_above 1 = .ok (.getfield 58, 3) := by decide +kernel
theorem dX7_above_4 : decode cX7_above 4 = .ok (.lreturn, 1) := by decide +kernel
theorem dX7_below_0 : decode cX7_below 0 = .ok (.aload_n 0, 1) := by decide +kernel
theorem dX7_below_1 : decode cX7_below 1 = .ok (.getfield 62, 3) := by decide +kernel
theorem dX7_below_4 : decode cX7_below 4 = .ok (.lreturn, 1) := by decide +kernel
set_option maxRecDepth 20000 in
theorem ggX7_bars_X7_isHeap : GoodIn wsX7_bars wsX7_isHeap := goodIn_r _ [6, 1, 7, 8, 9, 10, 11, 12, 28, 29, 30, 31, 32, 33, 34, 35, 36, 37, 38, 39, 40] (by decide +kernel) (by decide +kernel)
set_option maxRecDepth 20000 in
theorem gX7_bars_X7_isHeap : GoodIn wsX7_bars (wsV RX7 144 RX7 yX7_isHeap wsX7_isHeap) := goodIn_app (goodIn_of _ (by decide +kernel)) ggX7_bars_X7_isHeap
set_option maxRecDepth 20000 in
theorem ggX7_bars_X2_barred : GoodIn wsX7_bars wsX2_barred := goodIn_r _ [16, 17, 18, 19, 20, 21, 10, 22, 23, 24, 25, 26, 5, 27, 38, 39, 40] (by decide +kernel) (by decide +kernel)
set_option maxRecDepth 20000 in
theorem gX7_bars_X2_barred : GoodIn wsX7_bars (wsV RX7 147 RX2 yX2_barred wsX2_barred) := goodIn_app (goodIn_of _ (by decide +kernel)) ggX7_bars_X2_barred
theorem dX7_bars_0 : decode cX7_bars 0 = .ok (.aload_n 0, 1) := by decide +kernel
theorem dX7_bars_1 : decode cX7_bars 1 = .ok (.iload_n 1, 1) := by decide +kernel
theorem dX7_bars_2 : decode cX7_bars 2 = .ok (.invokevirtual 144, 3) := by decide +kernel
theorem dX7_bars_5 : decode cX7_bars 5 = .ok (.ifCond .eq 19, 3) := by decide +kernel
theorem dX7_bars_8 : decode cX7_bars 8 = .ok (.aload_n 0, 1) := by decide +kernel
theorem dX7_bars_9 : decode cX7_bars 9 = .ok (.iload_n 2, 1) := by decide +kernel
theorem dX7_bars_10 : decode cX7_bars 10 = .ok (.invokevirtual 144, 3) := by decide +kernel
theorem dX7_bars_13 : decode cX7_bars 13 = .ok (.ifCond .eq 11, 3) := by decide +kernel
theorem dX7_bars_16 : decode cX7_bars 16 = .ok (.aload_n 0, 1) := by decide +kernel
theorem dX7_bars_17 : decode cX7_bars 17 = .ok (.iload_n 3, 1) := by decide +kernel
theorem dX7_bars_18 : decode cX7_bars 18 = .ok (.invokevirtual 144, 3) := by decide +kernel
theorem dX7_bars_21 : decode cX7_bars 21 = .ok (.ifCond .ne 5, 3) := by decide +kernel
theorem dX7_bars_24 : decode cX7_bars 24 = .ok (.iconst 0, 1) := by decide +kernel
theorem dX7_bars_25 : decode cX7_bars 25 = .ok (.ireturn, 1) := by decide +kernel
theorem dX7_bars_26 : decode cX7_bars 26 = .ok (.iload_n 1, 1) := by decide +kernel
theorem dX7_bars_27 : decode cX7_bars 27 = .ok (.iload_n 2, 1) := by decide +kernel
theorem dX7_bars_28 : decode cX7_bars 28 = .ok (.iand, 1) := by decide +kernel
theorem dX7_bars_29 : decode cX7_bars 29 = .ok (.ifCond .ne 15, 3) := by decide +kernel
theorem dX7_bars_32 : decode cX7_bars 32 = .ok (.iload_n 1, 1) := by decide +kernel
theorem dX7_bars_33 : decode cX7_bars 33 = .ok (.iload_n 3, 1) := by decide +kernel
theorem dX7_bars_34 : decode cX7_bars 34 = .ok (.iand, 1) := by decide +kernel
theorem dX7_bars_35 : decode cX7_bars 35 = .ok (.ifCond .ne 9, 3) := by decide +kernel
theorem dX7_bars_38 : decode cX7_bars 38 = .ok (.iload_n 2, 1) := by decide +kernel
theorem dX7_bars_39 : decode cX7_bars 39 = .ok (.iload_n 3, 1) := by decide +kernel
theorem dX7_bars_40 : decode cX7_bars 40 = .ok (.iand, 1) := by decide +kernel
theorem dX7_bars_41 : decode cX7_bars 41 = .ok (.ifCond .eq 5, 3) := by decide +kernel
theorem dX7_bars_44 : decode cX7_bars 44 = .ok (.iconst 0, 1) := by decide +kernel
theorem dX7_bars_45 : decode cX7_bars 45 = .ok (.ireturn, 1) := by decide +kernel
theorem dX7_bars_46 : decode cX7_bars 46 = .ok (.aload_n 0, 1) := by decide +kernel
theorem dX7_bars_47 : decode cX7_bars 47 = .ok (.getfield 12, 3) := by decide +kernel
theorem dX7_bars_50 : decode cX7_bars 50 = .ok (.iload_n 1, 1) := by decide +kernel
theorem dX7_bars_51 : decode cX7_bars 51 = .ok (.iload_n 2, 1) := by decide +kernel
theorem dX7_bars_52 : decode cX7_bars 52 = .ok (.iload_n 3, 1) := by decide +kernel
theorem dX7_bars_53 : decode cX7_bars 53 = .ok (.invokevirtual 147, 3) := by decide +kernel
theorem dX7_bars_56 : decode cX7_bars 56 = .ok (.ireturn, 1) := by decide +kernel
set_option maxRecDepth 20000 in
theorem ggX7_least_X7_areTwo : GoodIn wsX7_least wsX7_areTwo := goodIn_r _ [8, 2, 9, 10, 11, 12, 13, 14, 58, 59, 60, 61, 62, 63, 64, 65, 66, 67, 68, 69, 70] (by decide +kernel) (by decide +kernel)
set_option maxRecDepth 20000 in
theorem gX7_least_X7_areTwo : GoodIn wsX7_least (wsV RX7 151 RX7 yX7_areTwo wsX7_areTwo) := goodIn_app (goodIn_of _ (by decide +kernel)) ggX7_least_X7_areTwo
set_option maxRecDepth 20000 in
theorem ggX7_least_X3_seek : GoodIn wsX7_least wsX3_seek := goodIn_r _ [19, 20, 21, 22, 7, 23, 24, 25, 26, 27, 28, 29, 30, 31, 32, 33, 34, 35, 18, 36, 37, 38, 39, 12, 40, 41, 42, 43, 44, 45, 46, 47, 48, 49, 50, 51, 52, 53, 71, 72, 68, 69, 70] (by decide +kernel) (by decide +kernel)
set_option maxRecDepth 20000 in
theorem gX7_least_X3_seek : GoodIn wsX7_least (wsV RX7 154 RX3 yX3_seek wsX3_seek) := goodIn_app (goodIn_of _ (by decide +kernel)) ggX7_least_X3_seek
set_option maxRecDepth 20000 in
theorem ggX7_least_X3_size : GoodIn wsX7_least wsX3_size := goodIn_r _ [57, 20, 71, 72] (by decide +kernel) (by decide +kernel)
set_option maxRecDepth 20000 in
theorem gX7_least_X3_size : GoodIn wsX7_least (wsV RX7 158 RX3 yX3_size wsX3_size) := goodIn_app (goodIn_of _ (by decide +kernel)) ggX7_least_X3_size
theorem dX7_least_0 : decode cX7_least 0 = .ok (.aload_n 0, 1) := by decide +kernel
theorem dX7_least_1 : decode cX7_least 1 = .ok (.iload_n 1, 1) := by decide +kernel
theorem dX7_least_2 : decode cX7_least 2 = .ok (.iload_n 2, 1) := by decide +kernel
theorem dX7_least_3 : decode cX7_least 3 = .ok (.invokevirtual 151, 3) := by decide +kernel
theorem dX7_least_6 : decode cX7_least 6 = .ok (.ifCond .ne 5, 3) := by decide +kernel
theorem dX7_least_9 : decode cX7_least 9 = .ok (.iconst (-1), 1) := by decide +kernel
theorem dX7_least_10 : decode cX7_least 10 = .ok (.ireturn, 1) := by decide +kernel
theorem dX7_least_11 : decode cX7_least 11 = .ok (.aload_n 0, 1) := by decide +kernel
theorem dX7_least_12 : decode cX7_least 12 = .ok (.getfield 43, 3) := by decide +kernel
theorem dX7_least_15 : decode cX7_least 15 = .ok (.aload_n 0, 1) := by decide +kernel
theorem dX7_least_16 : decode cX7_least 16 = .ok (.getfield 12, 3) := by decide +kernel
theorem dX7_least_19 : decode cX7_least 19 = .ok (.iload_n 1, 1) := by decide +kernel
theorem dX7_least_20 : decode cX7_least 20 = .ok (.iload_n 2, 1) := by decide +kernel
theorem dX7_least_21 : decode cX7_least 21 = .ok (.aload_n 0, 1) := by decide +kernel
theorem dX7_least_22 : decode cX7_least 22 = .ok (.getfield 54, 3) := by decide +kernel
theorem dX7_least_25 : decode cX7_least 25 = .ok (.invokevirtual 154, 3) := by decide +kernel
theorem dX7_least_28 : decode cX7_least 28 = .ok (.aload_n 0, 1) := by decide +kernel
theorem dX7_least_29 : decode cX7_least 29 = .ok (.getfield 43, 3) := by decide +kernel
theorem dX7_least_32 : decode cX7_least 32 = .ok (.invokevirtual 158, 3) := by decide +kernel
theorem dX7_least_35 : decode cX7_least 35 = .ok (.ireturn, 1) := by decide +kernel
set_option maxRecDepth 20000 in
theorem ggX7_leastAt_X7_areTwo : GoodIn wsX7_leastAt wsX7_areTwo := goodIn_r _ [8, 2, 9, 10, 11, 12, 13, 14, 58, 59, 60, 61, 62, 63, 64, 65, 66, 67, 68, 69, 70] (by decide +kernel) (by decide +kernel)
set_option maxRecDepth 20000 in
theorem gX7_leastAt_X7_areTwo : GoodIn wsX7_leastAt (wsV RX7 151 RX7 yX7_areTwo wsX7_areTwo) := goodIn_app (goodIn_of _ (by decide +kernel)) ggX7_leastAt_X7_areTwo
set_option maxRecDepth 20000 in
theorem ggX7_leastAt_X3_seek : GoodIn wsX7_leastAt wsX3_seek := goodIn_r _ [19, 20, 21, 22, 7, 23, 24, 25, 26, 27, 28, 29, 30, 31, 32, 33, 34, 35, 18, 36, 37, 38, 39, 12, 40, 41, 42, 43, 44, 45, 46, 47, 48, 49, 50, 51, 52, 53, 71, 72, 68, 69, 70] (by decide +kernel) (by decide +kernel)
set_option maxRecDepth 20000 in
theorem gX7_leastAt_X3_seek : GoodIn wsX7_leastAt (wsV RX7 154 RX3 yX3_seek wsX3_seek) := goodIn_app (goodIn_of _ (by decide +kernel)) ggX7_leastAt_X3_seek
set_option maxRecDepth 20000 in
theorem ggX7_leastAt_X3_at : GoodIn wsX7_leastAt wsX3_at := goodIn_r _ [57, 20, 21, 71, 72] (by decide +kernel) (by decide +kernel)
set_option maxRecDepth 20000 in
theorem gX7_leastAt_X3_at : GoodIn wsX7_leastAt (wsV RX7 161 RX3 yX3_at wsX3_at) := goodIn_app (goodIn_of _ (by decide +kernel)) ggX7_leastAt_X3_at
theorem dX7_leastAt_0 : decode cX7_leastAt 0 = .ok (.aload_n 0, 1) := by decide +kernel
theorem dX7_leastAt_1 : decode cX7_leastAt 1 = .ok (.iload_n 1, 1) := by decide +kernel
theorem dX7_leastAt_2 : decode cX7_leastAt 2 = .ok (.iload_n 2, 1) := by decide +kernel
theorem dX7_leastAt_3 : decode cX7_leastAt 3 = .ok (.invokevirtual 151, 3) := by decide +kernel
theorem dX7_leastAt_6 : decode cX7_leastAt 6 = .ok (.ifCond .ne 5, 3) := by decide +kernel
theorem dX7_leastAt_9 : decode cX7_leastAt 9 = .ok (.iconst (-1), 1) := by decide +kernel
theorem dX7_leastAt_10 : decode cX7_leastAt 10 = .ok (.ireturn, 1) := by decide +kernel
theorem dX7_leastAt_11 : decode cX7_leastAt 11 = .ok (.aload_n 0, 1) := by decide +kernel
theorem dX7_leastAt_12 : decode cX7_leastAt 12 = .ok (.getfield 43, 3) := by decide +kernel
theorem dX7_leastAt_15 : decode cX7_leastAt 15 = .ok (.aload_n 0, 1) := by decide +kernel
theorem dX7_leastAt_16 : decode cX7_leastAt 16 = .ok (.getfield 12, 3) := by decide +kernel
theorem dX7_leastAt_19 : decode cX7_leastAt 19 = .ok (.iload_n 1, 1) := by decide +kernel
theorem dX7_leastAt_20 : decode cX7_leastAt 20 = .ok (.iload_n 2, 1) := by decide +kernel
theorem dX7_leastAt_21 : decode cX7_leastAt 21 = .ok (.aload_n 0, 1) := by decide +kernel
theorem dX7_leastAt_22 : decode cX7_leastAt 22 = .ok (.getfield 54, 3) := by decide +kernel
theorem dX7_leastAt_25 : decode cX7_leastAt 25 = .ok (.invokevirtual 154, 3) := by decide +kernel
theorem dX7_leastAt_28 : decode cX7_leastAt 28 = .ok (.aload_n 0, 1) := by decide +kernel
theorem dX7_leastAt_29 : decode cX7_leastAt 29 = .ok (.getfield 43, 3) := by decide +kernel
theorem dX7_leastAt_32 : decode cX7_leastAt 32 = .ok (.iload_n 3, 1) := by decide +kernel
theorem dX7_leastAt_33 : decode cX7_leastAt 33 = .ok (.invokevirtual 161, 3) := by decide +kernel
theorem dX7_leastAt_36 : decode cX7_leastAt 36 = .ok (.ireturn, 1) := by decide +kernel
set_option maxRecDepth 20000 in
theorem ggX7_fit_X7_areTwo : GoodIn wsX7_fit wsX7_areTwo := goodIn_r _ [8, 2, 9, 10, 11, 12, 13, 14, 65, 66, 67, 68, 69, 70, 71, 72, 73, 74, 75, 76, 77] (by decide +kernel) (by decide +kernel)
set_option maxRecDepth 20000 in
theorem gX7_fit_X7_areTwo : GoodIn wsX7_fit (wsV RX7 151 RX7 yX7_areTwo wsX7_areTwo) := goodIn_app (goodIn_of _ (by decide +kernel)) ggX7_fit_X7_areTwo
set_option maxRecDepth 20000 in
theorem ggX7_fit_X7_isHeap : GoodIn wsX7_fit wsX7_isHeap := goodIn_r _ [18, 2, 19, 20, 21, 12, 22, 14, 65, 66, 67, 68, 69, 70, 71, 72, 73, 74, 75, 76, 77] (by decide +kernel) (by decide +kernel)
set_option maxRecDepth 20000 in
theorem gX7_fit_X7_isHeap : GoodIn wsX7_fit (wsV RX7 144 RX7 yX7_isHeap wsX7_isHeap) := goodIn_app (goodIn_of _ (by decide +kernel)) ggX7_fit_X7_isHeap
set_option maxRecDepth 20000 in
theorem ggX7_fit_X7_inHeap : GoodIn wsX7_fit wsX7_inHeap := goodIn_r _ [25] (by decide +kernel) (by decide +kernel)
set_option maxRecDepth 20000 in
theorem gX7_fit_X7_inHeap : GoodIn wsX7_fit (va_wsS RX7 106 yX7_inHeap wsX7_inHeap) := goodIn_app (goodIn_of _ (by decide +kernel)) ggX7_fit_X7_inHeap
set_option maxRecDepth 20000 in
theorem ggX7_fit_X2_allBelow : GoodIn wsX7_fit wsX2_allBelow := goodIn_r _ [29, 30, 31, 32, 12, 33, 34, 35, 10, 11, 13, 14, 36, 37, 38, 39, 40, 41, 42, 43, 44, 45, 46, 24, 7, 25, 75, 76, 77] (by decide +kernel) (by decide +kernel)
set_option maxRecDepth 20000 in
theorem gX7_fit_X2_allBelow : GoodIn wsX7_fit (wsV RX7 115 RX2 yX2_allBelow wsX2_allBelow) := goodIn_app (goodIn_of _ (by decide +kernel)) ggX7_fit_X2_allBelow
set_option maxRecDepth 20000 in
theorem ggX7_fit_X7_bit : GoodIn wsX7_fit wsX7_bit := goodIn_r _ [49] (by decide +kernel) (by decide +kernel)
set_option maxRecDepth 20000 in
theorem gX7_fit_X7_bit : GoodIn wsX7_fit (va_wsS RX7 73 yX7_bit wsX7_bit) := goodIn_app (goodIn_of _ (by decide +kernel)) ggX7_fit_X7_bit
set_option maxRecDepth 20000 in
theorem ggX7_fit_X2_barred : GoodIn wsX7_fit wsX2_barred := goodIn_r _ [53, 54, 34, 40, 41, 42, 12, 43, 44, 45, 46, 24, 7, 25, 75, 76, 77] (by decide +kernel) (by decide +kernel)
set_option maxRecDepth 20000 in
theorem gX7_fit_X2_barred : GoodIn wsX7_fit (wsV RX7 147 RX2 yX2_barred wsX2_barred) := goodIn_app (goodIn_of _ (by decide +kernel)) ggX7_fit_X2_barred
set_option maxRecDepth 20000 in
theorem ggX7_fit_X2_road : GoodIn wsX7_fit wsX2_road := goodIn_r _ [58, 54, 59, 27, 28, 12, 29, 30, 31, 32, 33, 34, 35, 10, 11, 13, 14, 36, 37, 38, 39, 40, 41, 42, 43, 44, 45, 46, 24, 7, 25, 48, 49, 75, 76, 77] (by decide +kernel) (by decide +kernel)
set_option maxRecDepth 20000 in
theorem gX7_fit_X2_road : GoodIn wsX7_fit (wsV RX7 164 RX2 yX2_road wsX2_road) := goodIn_app (goodIn_of _ (by decide +kernel)) ggX7_fit_X2_road
set_option maxRecDepth 20000 in
theorem ggX7_fit_X2_withAllBelow : GoodIn wsX7_fit wsX2_withAllBelow := goodIn_r _ [39, 34, 40, 41, 42, 12, 43, 44, 45, 46, 24, 7, 25, 75, 76, 77] (by decide +kernel) (by decide +kernel)
set_option maxRecDepth 20000 in
theorem gX7_fit_X2_withAllBelow : GoodIn wsX7_fit (wsV RX7 167 RX2 yX2_withAllBelow wsX2_withAllBelow) := goodIn_app (goodIn_of _ (by decide +kernel)) ggX7_fit_X2_withAllBelow
set_option maxRecDepth 20000 in
theorem ggX7_fit_X2_copyWithout : GoodIn wsX7_fit wsX2_copyWithout := goodIn_r _ [64, 14, 54, 34, 24, 7, 25, 48, 49, 75, 76, 77] (by decide +kernel) (by decide +kernel)
set_option maxRecDepth 20000 in
theorem gX7_fit_X2_copyWithout : GoodIn wsX7_fit (wsV RX7 170 RX2 yX2_copyWithout wsX2_copyWithout) := goodIn_app (goodIn_of _ (by decide +kernel)) ggX7_fit_X2_copyWithout
theorem dX7_fit_0 : decode cX7_fit 0 = .ok (.aload_n 0, 1) := by decide +kernel
theorem dX7_fit_1 : decode cX7_fit 1 = .ok (.iload_n 1, 1) := by decide +kernel
theorem dX7_fit_2 : decode cX7_fit 2 = .ok (.iload_n 2, 1) := by decide +kernel
theorem dX7_fit_3 : decode cX7_fit 3 = .ok (.invokevirtual 151, 3) := by decide +kernel
theorem dX7_fit_6 : decode cX7_fit 6 = .ok (.ifCond .eq 27, 3) := by decide +kernel
theorem dX7_fit_9 : decode cX7_fit 9 = .ok (.aload_n 0, 1) := by decide +kernel
theorem dX7_fit_10 : decode cX7_fit 10 = .ok (.iload_n 3, 1) := by decide +kernel
theorem dX7_fit_11 : decode cX7_fit 11 = .ok (.invokevirtual 144, 3) := by decide +kernel
theorem dX7_fit_14 : decode cX7_fit 14 = .ok (.ifCond .eq 19, 3) := by decide +kernel
theorem dX7_fit_17 : decode cX7_fit 17 = .ok (.iload_n 3, 1) := by decide +kernel
theorem dX7_fit_18 : decode cX7_fit 18 = .ok (.iload_n 1, 1) := by decide +kernel
theorem dX7_fit_19 : decode cX7_fit 19 = .ok (.invokestatic 106, 3) := by decide +kernel
theorem dX7_fit_22 : decode cX7_fit 22 = .ok (.ifCond .ne 11, 3) := by decide +kernel
theorem dX7_fit_25 : decode cX7_fit 25 = .ok (.iload_n 3, 1) := by decide +kernel
theorem dX7_fit_26 : decode cX7_fit 26 = .ok (.iload_n 2, 1) := by decide +kernel
theorem dX7_fit_27 : decode cX7_fit 27 = .ok (.invokestatic 106, 3) := by decide +kernel
theorem dX7_fit_30 : decode cX7_fit 30 = .ok (.ifCond .eq 5, 3) := by decide +kernel
theorem dX7_fit_33 : decode cX7_fit 33 = .ok (.iconst 0, 1) := by decide +kernel
theorem dX7_fit_34 : decode cX7_fit 34 = .ok (.ireturn, 1) := by decide +kernel
theorem dX7_fit_35 : decode cX7_fit 35 = .ok (.iload_n 3, 1) := by decide +kernel
theorem dX7_fit_36 : decode cX7_fit 36 = .ok (.aload_n 0, 1) := by decide +kernel
theorem dX7_fit_37 : decode cX7_fit 37 = .ok (.getfield 54, 3) := by decide +kernel
theorem dX7_fit_40 : decode cX7_fit 40 = .ok (.iconst (-1), 1) := by decide +kernel
theorem dX7_fit_41 : decode cX7_fit 41 = .ok (.ixor, 1) := by decide +kernel
theorem dX7_fit_42 : decode cX7_fit 42 = .ok (.iand, 1) := by decide +kernel
theorem dX7_fit_43 : decode cX7_fit 43 = .ok (.ifCond .eq 5, 3) := by decide +kernel
theorem dX7_fit_46 : decode cX7_fit 46 = .ok (.iconst 0, 1) := by decide +kernel
theorem dX7_fit_47 : decode cX7_fit 47 = .ok (.ireturn, 1) := by decide +kernel
theorem dX7_fit_48 : decode cX7_fit 48 = .ok (.aload_n 0, 1) := by decide +kernel
theorem dX7_fit_49 : decode cX7_fit 49 = .ok (.getfield 12, 3) := by decide +kernel
theorem dX7_fit_52 : decode cX7_fit 52 = .ok (.iload_n 1, 1) := by decide +kernel
theorem dX7_fit_53 : decode cX7_fit 53 = .ok (.invokevirtual 115, 3) := by decide +kernel
theorem dX7_fit_56 : decode cX7_fit 56 = .ok (.iload_n 2, 1) := by decide +kernel
theorem dX7_fit_57 : decode cX7_fit 57 = .ok (.invokestatic 106, 3) := by decide +kernel
theorem dX7_fit_60 : decode cX7_fit 60 = .ok (.ifCond .ne 20, 3) := by decide +kernel
theorem dX7_fit_63 : decode cX7_fit 63 = .ok (.aload_n 0, 1) := by decide +kernel
theorem dX7_fit_64 : decode cX7_fit 64 = .ok (.getfield 12, 3) := by decide +kernel
theorem dX7_fit_67 : decode cX7_fit 67 = .ok (.iload_n 1, 1) := by decide +kernel
theorem dX7_fit_68 : decode cX7_fit 68 = .ok (.invokestatic 73, 3) := by decide +kernel
theorem dX7_fit_71 : decode cX7_fit 71 = .ok (.iload_n 2, 1) := by decide +kernel
theorem dX7_fit_72 : decode cX7_fit 72 = .ok (.invokestatic 73, 3) := by decide +kernel
theorem dX7_fit_75 : decode cX7_fit 75 = .ok (.iload_n 3, 1) := by decide +kernel
theorem dX7_fit_76 : decode cX7_fit 76 = .ok (.invokevirtual 147, 3) := by decide +kernel
theorem dX7_fit_79 : decode cX7_fit 79 = .ok (.ireturn, 1) := by decide +kernel
theorem dX7_fit_80 : decode cX7_fit 80 = .ok (.aload_n 0, 1) := by decide +kernel
theorem dX7_fit_81 : decode cX7_fit 81 = .ok (.getfield 12, 3) := by decide +kernel
theorem dX7_fit_84 : decode cX7_fit 84 = .ok (.iload_n 1, 1) := by decide +kernel
theorem dX7_fit_85 : decode cX7_fit 85 = .ok (.iload_n 2, 1) := by decide +kernel
theorem dX7_fit_86 : decode cX7_fit 86 = .ok (.invokevirtual 164, 3) := by decide +kernel
theorem dX7_fit_89 : decode cX7_fit 89 = .ok (.istore 4, 2) := by decide +kernel
theorem dX7_fit_91 : decode cX7_fit 91 = .ok (.iload_n 3, 1) := by decide +kernel
theorem dX7_fit_92 : decode cX7_fit 92 = .ok (.aload_n 0, 1) := by decide +kernel
theorem dX7_fit_93 : decode cX7_fit 93 = .ok (.getfield 12, 3) := by decide +kernel
theorem dX7_fit_96 : decode cX7_fit 96 = .ok (.iload 4, 2) := by decide +kernel
theorem dX7_fit_98 : decode cX7_fit 98 = .ok (.invokevirtual 167, 3) := by decide +kernel
theorem dX7_fit_101 : decode cX7_fit 101 = .ok (.iand, 1) := by decide +kernel
theorem dX7_fit_102 : decode cX7_fit 102 = .ok (.ifCond .eq 5, 3) := by decide +kernel
theorem dX7_fit_105 : decode cX7_fit 105 = .ok (.iconst 0, 1) := by decide +kernel
theorem dX7_fit_106 : decode cX7_fit 106 = .ok (.ireturn, 1) := by decide +kernel
theorem dX7_fit_107 : decode cX7_fit 107 = .ok (.aload_n 0, 1) := by decide +kernel
theorem dX7_fit_108 : decode cX7_fit 108 = .ok (.getfield 16, 3) := by decide +kernel
theorem dX7_fit_111 : decode cX7_fit 111 = .ok (.aload_n 0, 1) := by decide +kernel
theorem dX7_fit_112 : decode cX7_fit 112 = .ok (.getfield 12, 3) := by decide +kernel
theorem dX7_fit_115 : decode cX7_fit 115 = .ok (.iload_n 1, 1) := by decide +kernel
theorem dX7_fit_116 : decode cX7_fit 116 = .ok (.iload 4, 2) := by decide +kernel
theorem dX7_fit_118 : decode cX7_fit 118 = .ok (.invokevirtual 170, 3) := by decide +kernel
theorem dX7_fit_121 : decode cX7_fit 121 = .ok (.aload_n 0, 1) := by decide +kernel
theorem dX7_fit_122 : decode cX7_fit 122 = .ok (.getfield 16, 3) := by decide +kernel
theorem dX7_fit_125 : decode cX7_fit 125 = .ok (.iload_n 1, 1) := by decide +kernel
theorem dX7_fit_126 : decode cX7_fit 126 = .ok (.invokestatic 73, 3) := by decide +kernel
theorem dX7_fit_129 : decode cX7_fit 129 = .ok (.iload_n 2, 1) := by decide +kernel
theorem dX7_fit_130 : decode cX7_fit 130 = .ok (.invokestatic 73, 3) := by decide +kernel
theorem dX7_fit_133 : decode cX7_fit 133 = .ok (.iload_n 3, 1) := by decide +kernel
theorem dX7_fit_134 : decode cX7_fit 134 = .ok (.invokevirtual 147, 3) := by decide +kernel
theorem dX7_fit_137 : decode cX7_fit 137 = .ok (.ireturn, 1) := by decide +kernel
set_option maxRecDepth 20000 in
theorem ggX7_agrees_X2_has : GoodIn wsX7_agrees wsX2_has := goodIn_r _ [9, 10, 170, 171, 172] (by decide +kernel) (by decide +kernel)
set_option maxRecDepth 20000 in
theorem gX7_agrees_X2_has : GoodIn wsX7_agrees (wsV RX7 77 RX2 yX2_has wsX2_has) := goodIn_app (goodIn_of _ (by decide +kernel)) ggX7_agrees_X2_has
set_option maxRecDepth 20000 in
theorem ggX7_agrees_X7_isHeap : GoodIn wsX7_agrees wsX7_isHeap := goodIn_r _ [15, 1, 16, 17, 18, 8, 19, 10, 160, 161, 162, 163, 164, 165, 166, 167, 168, 169, 170, 171, 172] (by decide +kernel) (by decide +kernel)
set_option maxRecDepth 20000 in
theorem gX7_agrees_X7_isHeap : GoodIn wsX7_agrees (wsV RX7 144 RX7 yX7_isHeap wsX7_isHeap) := goodIn_app (goodIn_of _ (by decide +kernel)) ggX7_agrees_X7_isHeap
set_option maxRecDepth 20000 in
theorem ggX7_agrees_X7_inHeap : GoodIn wsX7_agrees wsX7_inHeap := goodIn_r _ [22] (by decide +kernel) (by decide +kernel)
set_option maxRecDepth 20000 in
theorem gX7_agrees_X7_inHeap : GoodIn wsX7_agrees (va_wsS RX7 106 yX7_inHeap wsX7_inHeap) := goodIn_app (goodIn_of _ (by decide +kernel)) ggX7_agrees_X7_inHeap
set_option maxRecDepth 20000 in
theorem ggX7_agrees_X7_isBit : GoodIn wsX7_agrees wsX7_isBit := goodIn_r _ [25] (by decide +kernel) (by decide +kernel)
set_option maxRecDepth 20000 in
theorem gX7_agrees_X7_isBit : GoodIn wsX7_agrees (va_wsS RX7 174 yX7_isBit wsX7_isBit) := goodIn_app (goodIn_of _ (by decide +kernel)) ggX7_agrees_X7_isBit
set_option maxRecDepth 20000 in
theorem ggX7_agrees_X7_settingOf : GoodIn wsX7_agrees wsX7_settingOf := goodIn_r _ [28, 29, 30, 14, 31] (by decide +kernel) (by decide +kernel)
set_option maxRecDepth 20000 in
theorem gX7_agrees_X7_settingOf : GoodIn wsX7_agrees (va_wsS RX7 177 yX7_settingOf wsX7_settingOf) := goodIn_app (goodIn_of _ (by decide +kernel)) ggX7_agrees_X7_settingOf
set_option maxRecDepth 20000 in
theorem ggX7_agrees_X6_weigh : GoodIn wsX7_agrees wsX6_weigh := goodIn_r _ [36, 37, 38, 39, 17, 18, 8, 19, 10, 40, 41, 42, 43, 44, 45, 46, 47, 48, 21, 14, 22, 49, 50, 51, 52, 53, 54, 55, 56, 57, 30, 31, 58, 59, 60, 61, 62, 63, 64, 65, 66, 67, 68, 69, 70, 71, 6, 7, 9, 72, 73, 74, 75, 76, 77, 78, 79, 80, 81, 82, 83, 84, 85, 35, 86, 87, 88, 173, 174, 170, 171, 172, 175] (by decide +kernel) (by decide +kernel)
set_option maxRecDepth 20000 in
theorem gX7_agrees_X6_weigh : GoodIn wsX7_agrees (wsV RX7 123 RX6 yX6_weigh wsX6_weigh) := goodIn_app (goodIn_of _ (by decide +kernel)) ggX7_agrees_X6_weigh
set_option maxRecDepth 20000 in
theorem ggX7_agrees_X7_bit : GoodIn wsX7_agrees wsX7_bit := goodIn_r _ [31] (by decide +kernel) (by decide +kernel)
set_option maxRecDepth 20000 in
theorem gX7_agrees_X7_bit : GoodIn wsX7_agrees (va_wsS RX7 73 yX7_bit wsX7_bit) := goodIn_app (goodIn_of _ (by decide +kernel)) ggX7_agrees_X7_bit
set_option maxRecDepth 20000 in
theorem ggX7_agrees_X7_onesOf : GoodIn wsX7_agrees wsX7_onesOf := goodIn_r _ [66] (by decide +kernel) (by decide +kernel)
set_option maxRecDepth 20000 in
theorem gX7_agrees_X7_onesOf : GoodIn wsX7_agrees (va_wsS RX7 130 yX7_onesOf wsX7_onesOf) := goodIn_app (goodIn_of _ (by decide +kernel)) ggX7_agrees_X7_onesOf
set_option maxRecDepth 20000 in
theorem ggX7_agrees_X6_having : GoodIn wsX7_agrees wsX6_having := goodIn_r _ [93, 37, 38, 49, 14, 50, 51, 52, 53, 54, 55, 56, 57, 87, 88, 173, 174] (by decide +kernel) (by decide +kernel)
set_option maxRecDepth 20000 in
theorem gX7_agrees_X6_having : GoodIn wsX7_agrees (wsV RX7 133 RX6 yX6_having wsX6_having) := goodIn_app (goodIn_of _ (by decide +kernel)) ggX7_agrees_X6_having
set_option maxRecDepth 20000 in
theorem ggX7_agrees_X7_sumOver : GoodIn wsX7_agrees wsX7_sumOver := goodIn_r _ [97, 4, 2, 98, 99, 100, 101, 102, 103, 104, 105, 106, 107, 108, 109, 110, 111, 112, 113, 114, 115, 116, 49, 14, 50, 51, 52, 53, 54, 55, 56, 57, 90, 91, 92, 35, 93, 37, 38, 87, 88, 117, 63, 64, 89, 65, 66, 118, 119, 120, 121, 122, 123, 124, 125, 126, 127, 128, 129, 130, 131, 132, 133, 134, 135, 136, 137, 138, 139, 140, 141, 142, 143, 144, 145, 146, 147, 148, 149, 150, 151, 160, 161, 162, 163, 164, 165, 166, 167, 168, 169, 176, 177, 178, 179, 180, 173, 174] (by decide +kernel) (by decide +kernel)
set_option maxRecDepth 20000 in
theorem gX7_agrees_X7_sumOver : GoodIn wsX7_agrees (wsV RX7 180 RX7 yX7_sumOver wsX7_sumOver) := goodIn_app (goodIn_of _ (by decide +kernel)) ggX7_agrees_X7_sumOver
set_option maxRecDepth 20000 in
theorem ggX7_agrees_X5_is : GoodIn wsX7_agrees wsX5_is := goodIn_r _ [155, 125, 104, 103, 132, 133, 134, 108, 135, 110, 136, 137, 130, 138, 111, 139, 140, 141, 142, 143, 144, 145, 146, 112, 113, 114, 115, 156, 157, 158, 159, 176, 177, 178, 179, 180] (by decide +kernel) (by decide +kernel)
set_option maxRecDepth 20000 in
theorem gX7_agrees_X5_is : GoodIn wsX7_agrees (wsV RX7 183 RX5 yX5_is wsX5_is) := goodIn_app (goodIn_of _ (by decide +kernel)) ggX7_agrees_X5_is
theorem dX7_agrees_0 : decode cX7_agrees 0 = .ok (.aload_n 0, 1) := by decide +kernel
theorem dX7_agrees_1 : decode cX7_agrees 1 = .ok (.getfield 12, 3) := by decide +kernel
theorem dX7_agrees_4 : decode cX7_agrees 4 = .ok (.iload_n 1, 1) := by decide +kernel
theorem dX7_agrees_5 : decode cX7_agrees 5 = .ok (.invokevirtual 77, 3) := by decide +kernel
theorem dX7_agrees_8 : decode cX7_agrees 8 = .ok (.ifCond .eq 38, 3) := by decide +kernel
theorem dX7_agrees_11 : decode cX7_agrees 11 = .ok (.aload_n 0, 1) := by decide +kernel
theorem dX7_agrees_12 : decode cX7_agrees 12 = .ok (.getfield 12, 3) := by decide +kernel
theorem dX7_agrees_15 : decode cX7_agrees 15 = .ok (.iload_n 2, 1) := by decide +kernel
theorem dX7_agrees_16 : decode cX7_agrees 16 = .ok (.invokevirtual 77, 3) := by decide +kernel
theorem dX7_agrees_19 : decode cX7_agrees 19 = .ok (.ifCond .eq 27, 3) := by decide +kernel
theorem dX7_agrees_22 : decode cX7_agrees 22 = .ok (.aload_n 0, 1) := by decide +kernel
theorem dX7_agrees_23 : decode cX7_agrees 23 = .ok (.iload_n 3, 1) := by decide +kernel
theorem dX7_agrees_24 : decode cX7_agrees 24 = .ok (.invokevirtual 144, 3) := by decide +kernel
theorem dX7_agrees_27 : decode cX7_agrees 27 = .ok (.ifCond .eq 19, 3) := by decide +kernel
theorem dX7_agrees_30 : decode cX7_agrees 30 = .ok (.iload_n 3, 1) := by decide +kernel
theorem dX7_agrees_31 : decode cX7_agrees 31 = .ok (.iload_n 1, 1) := by decide +kernel
theorem dX7_agrees_32 : decode cX7_agrees 32 = .ok (.invokestatic 106, 3) := by decide +kernel
theorem dX7_agrees_35 : decode cX7_agrees 35 = .ok (.ifCond .ne 11, 3) := by decide +kernel
theorem dX7_agrees_38 : decode cX7_agrees 38 = .ok (.iload_n 3, 1) := by decide +kernel
theorem dX7_agrees_39 : decode cX7_agrees 39 = .ok (.iload_n 2, 1) := by decide +kernel
theorem dX7_agrees_40 : decode cX7_agrees 40 = .ok (.invokestatic 106, 3) := by decide +kernel
theorem dX7_agrees_43 : decode cX7_agrees 43 = .ok (.ifCond .eq 5, 3) := by decide +kernel
theorem dX7_agrees_46 : decode cX7_agrees 46 = .ok (.iconst (-1), 1) := by decide +kernel
theorem dX7_agrees_47 : decode cX7_agrees 47 = .ok (.ireturn, 1) := by decide +kernel
theorem dX7_agrees_48 : decode cX7_agrees 48 = .ok (.iload 4, 2) := by decide +kernel
theorem dX7_agrees_50 : decode cX7_agrees 50 = .ok (.invokestatic 174, 3) := by decide +kernel
theorem dX7_agrees_53 : decode cX7_agrees 53 = .ok (.ifCond .eq 11, 3) := by decide +kernel
theorem dX7_agrees_56 : decode cX7_agrees 56 = .ok (.iload 5, 2) := by decide +kernel
theorem dX7_agrees_58 : decode cX7_agrees 58 = .ok (.invokestatic 174, 3) := by decide +kernel
theorem dX7_agrees_61 : decode cX7_agrees 61 = .ok (.ifCond .ne 5, 3) := by decide +kernel
theorem dX7_agrees_64 : decode cX7_agrees 64 = .ok (.iconst (-1), 1) := by decide +kernel
theorem dX7_agrees_65 : decode cX7_agrees 65 = .ok (.ireturn, 1) := by decide +kernel
theorem dX7_agrees_66 : decode cX7_agrees 66 = .ok (.aload_n 0, 1) := by decide +kernel
theorem dX7_agrees_67 : decode cX7_agrees 67 = .ok (.getfield 29, 3) := by decide +kernel
theorem dX7_agrees_70 : decode cX7_agrees 70 = .ok (.aload_n 0, 1) := by decide +kernel
theorem dX7_agrees_71 : decode cX7_agrees 71 = .ok (.getfield 12, 3) := by decide +kernel
theorem dX7_agrees_74 : decode cX7_agrees 74 = .ok (.aload_n 0, 1) := by decide +kernel
theorem dX7_agrees_75 : decode cX7_agrees 75 = .ok (.getfield 22, 3) := by decide +kernel
theorem dX7_agrees_78 : decode cX7_agrees 78 = .ok (.iload_n 1, 1) := by decide +kernel
theorem dX7_agrees_79 : decode cX7_agrees 79 = .ok (.iload 4, 2) := by decide +kernel
theorem dX7_agrees_81 : decode cX7_agrees 81 = .ok (.invokestatic 177, 3) := by decide +kernel
theorem dX7_agrees_84 : decode cX7_agrees 84 = .ok (.invokevirtual 123, 3) := by decide +kernel
theorem dX7_agrees_87 : decode cX7_agrees 87 = .ok (.aload_n 0, 1) := by decide +kernel
theorem dX7_agrees_88 : decode cX7_agrees 88 = .ok (.getfield 29, 3) := by decide +kernel
theorem dX7_agrees_91 : decode cX7_agrees 91 = .ok (.iload_n 2, 1) := by decide +kernel
theorem dX7_agrees_92 : decode cX7_agrees 92 = .ok (.invokestatic 73, 3) := by decide +kernel
theorem dX7_agrees_95 : decode cX7_agrees 95 = .ok (.iload_n 2, 1) := by decide +kernel
theorem dX7_agrees_96 : decode cX7_agrees 96 = .ok (.iload 5, 2) := by decide +kernel
theorem dX7_agrees_98 : decode cX7_agrees 98 = .ok (.invokestatic 177, 3) := by decide +kernel
theorem dX7_agrees_101 : decode cX7_agrees 101 = .ok (.invokestatic 130, 3) := by decide +kernel
theorem dX7_agrees_104 : decode cX7_agrees 104 = .ok (.invokevirtual 133, 3) := by decide +kernel
theorem dX7_agrees_107 : decode cX7_agrees 107 = .ok (.lstore 6, 2) := by decide +kernel
theorem dX7_agrees_109 : decode cX7_agrees 109 = .ok (.aload_n 0, 1) := by decide +kernel
theorem dX7_agrees_110 : decode cX7_agrees 110 = .ok (.getfield 29, 3) := by decide +kernel
theorem dX7_agrees_113 : decode cX7_agrees 113 = .ok (.aload_n 0, 1) := by decide +kernel
theorem dX7_agrees_114 : decode cX7_agrees 114 = .ok (.getfield 12, 3) := by decide +kernel
theorem dX7_agrees_117 : decode cX7_agrees 117 = .ok (.aload_n 0, 1) := by decide +kernel
theorem dX7_agrees_118 : decode cX7_agrees 118 = .ok (.getfield 22, 3) := by decide +kernel
theorem dX7_agrees_121 : decode cX7_agrees 121 = .ok (.iconst 0, 1) := by decide +kernel
theorem dX7_agrees_122 : decode cX7_agrees 122 = .ok (.invokevirtual 123, 3) := by decide +kernel
theorem dX7_agrees_125 : decode cX7_agrees 125 = .ok (.aload_n 0, 1) := by decide +kernel
theorem dX7_agrees_126 : decode cX7_agrees 126 = .ok (.iload_n 3, 1) := by decide +kernel
theorem dX7_agrees_127 : decode cX7_agrees 127 = .ok (.iload_n 1, 1) := by decide +kernel
theorem dX7_agrees_128 : decode cX7_agrees 128 = .ok (.iload 4, 2) := by decide +kernel
theorem dX7_agrees_130 : decode cX7_agrees 130 = .ok (.invokestatic 177, 3) := by decide +kernel
theorem dX7_agrees_133 : decode cX7_agrees 133 = .ok (.iload_n 2, 1) := by decide +kernel
theorem dX7_agrees_134 : decode cX7_agrees 134 = .ok (.iload 5, 2) := by decide +kernel
theorem dX7_agrees_136 : decode cX7_agrees 136 = .ok (.invokestatic 177, 3) := by decide +kernel
theorem dX7_agrees_139 : decode cX7_agrees 139 = .ok (.invokevirtual 180, 3) := by decide +kernel
theorem dX7_agrees_142 : decode cX7_agrees 142 = .ok (.ifCond .ne 6, 3) := by decide +kernel
theorem dX7_agrees_145 : decode cX7_agrees 145 = .ok (.bipush (-2), 2) := by decide +kernel
theorem dX7_agrees_147 : decode cX7_agrees 147 = .ok (.ireturn, 1) := by decide +kernel
theorem dX7_agrees_148 : decode cX7_agrees 148 = .ok (.aload_n 0, 1) := by decide +kernel
theorem dX7_agrees_149 : decode cX7_agrees 149 = .ok (.getfield 36, 3) := by decide +kernel
theorem dX7_agrees_152 : decode cX7_agrees 152 = .ok (.lload 6, 2) := by decide +kernel
theorem dX7_agrees_154 : decode cX7_agrees 154 = .ok (.invokevirtual 183, 3) := by decide +kernel
theorem dX7_agrees_157 : decode cX7_agrees 157 = .ok (.ifCond .eq 7, 3) := by decide +kernel
theorem dX7_agrees_160 : decode cX7_agrees 160 = .ok (.iconst 1, 1) := by decide +kernel
theorem dX7_agrees_161 : decode cX7_agrees 161 = .ok (.goto 4, 3) := by decide +kernel
theorem dX7_agrees_164 : decode cX7_agrees 164 = .ok (.iconst 0, 1) := by decide +kernel
theorem dX7_agrees_165 : decode cX7_agrees 165 = .ok (.ireturn, 1) := by decide +kernel
set_option maxRecDepth 20000 in
theorem ggX7_alike_X4_reckon : GoodIn wsX7_alike wsX4_reckon := goodIn_r _ [7, 8, 9, 10, 11, 12, 13, 14, 15, 16, 6, 17, 18, 19, 20, 21, 22, 23, 24, 25, 26, 27, 28, 29, 30, 31, 32, 33, 34, 35, 36, 37, 38, 39, 40, 41, 42, 43, 44, 45, 46, 47, 48, 49, 50, 51, 52, 53, 54, 55, 56, 57, 58, 59, 60, 61, 62, 63, 64, 65, 66, 67, 68, 69, 80, 81, 82, 83] (by decide +kernel) (by decide +kernel)
set_option maxRecDepth 20000 in
theorem gX7_alike_X4_reckon : GoodIn wsX7_alike (wsV RX7 187 RX4 yX4_reckon wsX4_reckon) := goodIn_app (goodIn_of _ (by decide +kernel)) ggX7_alike_X4_reckon
theorem dX7_alike_0 : decode cX7_alike 0 = .ok (.aload_n 0, 1) := by decide +kernel
theorem dX7_alike_1 : decode cX7_alike 1 = .ok (.getfield 50, 3) := by decide +kernel
theorem dX7_alike_4 : decode cX7_alike 4 = .ok (.aload_n 0, 1) := by decide +kernel
theorem dX7_alike_5 : decode cX7_alike 5 = .ok (.getfield 12, 3) := by decide +kernel
theorem dX7_alike_8 : decode cX7_alike 8 = .ok (.iconst (-1), 1) := by decide +kernel
theorem dX7_alike_9 : decode cX7_alike 9 = .ok (.iconst (-1), 1) := by decide +kernel
theorem dX7_alike_10 : decode cX7_alike 10 = .ok (.invokevirtual 187, 3) := by decide +kernel
theorem dX7_alike_13 : decode cX7_alike 13 = .ok (.ireturn, 1) := by decide +kernel
set_option maxRecDepth 20000 in
theorem ggX7_fixed_X2_leads : GoodIn wsX7_fixed wsX2_leads := goodIn_r _ [7, 8, 9, 10, 11, 6, 12, 13, 14, 15, 16, 84, 85, 86] (by decide +kernel) (by decide +kernel)
set_option maxRecDepth 20000 in
theorem gX7_fixed_X2_leads : GoodIn wsX7_fixed (wsV RX7 89 RX2 yX2_leads wsX2_leads) := goodIn_app (goodIn_of _ (by decide +kernel)) ggX7_fixed_X2_leads
set_option maxRecDepth 20000 in
theorem ggX7_fixed_X4_reckon : GoodIn wsX7_fixed wsX4_reckon := goodIn_r _ [21, 22, 23, 24, 25, 6, 26, 13, 27, 28, 20, 29, 30, 31, 32, 33, 14, 15, 16, 34, 35, 36, 37, 38, 8, 9, 10, 11, 12, 39, 40, 41, 42, 43, 44, 45, 46, 47, 48, 49, 50, 51, 52, 53, 54, 55, 56, 57, 58, 59, 60, 61, 62, 63, 64, 65, 66, 67, 68, 69, 70, 71, 72, 73, 87, 84, 85, 86] (by decide +kernel) (by decide +kernel)
set_option maxRecDepth 20000 in
theorem gX7_fixed_X4_reckon : GoodIn wsX7_fixed (wsV RX7 187 RX4 yX4_reckon wsX4_reckon) := goodIn_app (goodIn_of _ (by decide +kernel)) ggX7_fixed_X4_reckon
theorem dX7_fixed_0 : decode cX7_fixed 0 = .ok (.aload_n 0, 1) := by decide +kernel
theorem dX7_fixed_1 : decode cX7_fixed 1 = .ok (.getfield 12, 3) := by decide +kernel
theorem dX7_fixed_4 : decode cX7_fixed 4 = .ok (.iload_n 1, 1) := by decide +kernel
theorem dX7_fixed_5 : decode cX7_fixed 5 = .ok (.iload_n 2, 1) := by decide +kernel
theorem dX7_fixed_6 : decode cX7_fixed 6 = .ok (.invokevirtual 89, 3) := by decide +kernel
theorem dX7_fixed_9 : decode cX7_fixed 9 = .ok (.ifCond .ne 5, 3) := by decide +kernel
theorem dX7_fixed_12 : decode cX7_fixed 12 = .ok (.iconst 0, 1) := by decide +kernel
theorem dX7_fixed_13 : decode cX7_fixed 13 = .ok (.ireturn, 1) := by decide +kernel
theorem dX7_fixed_14 : decode cX7_fixed 14 = .ok (.aload_n 0, 1) := by decide +kernel
theorem dX7_fixed_15 : decode cX7_fixed 15 = .ok (.getfield 50, 3) := by decide +kernel
theorem dX7_fixed_18 : decode cX7_fixed 18 = .ok (.aload_n 0, 1) := by decide +kernel
theorem dX7_fixed_19 : decode cX7_fixed 19 = .ok (.getfield 12, 3) := by decide +kernel
theorem dX7_fixed_22 : decode cX7_fixed 22 = .ok (.iload_n 2, 1) := by decide +kernel
theorem dX7_fixed_23 : decode cX7_fixed 23 = .ok (.iload_n 1, 1) := by decide +kernel
theorem dX7_fixed_24 : decode cX7_fixed 24 = .ok (.invokevirtual 187, 3) := by decide +kernel
theorem dX7_fixed_27 : decode cX7_fixed 27 = .ok (.ifCond .ne 7, 3) := by decide +kernel
theorem dX7_fixed_30 : decode cX7_fixed 30 = .ok (.iconst 1, 1) := by decide +kernel
theorem dX7_fixed_31 : decode cX7_fixed 31 = .ok (.goto 4, 3) := by decide +kernel
theorem dX7_fixed_34 : decode cX7_fixed 34 = .ok (.iconst 0, 1) := by decide +kernel
theorem dX7_fixed_35 : decode cX7_fixed 35 = .ok (.ireturn, 1) := by decide +kernel
set_option maxRecDepth 20000 in
theorem ggX7_otherwise_X7_areTwo : GoodIn wsX7_otherwise wsX7_areTwo := goodIn_r _ [13, 3, 14, 15, 16, 17, 18, 19, 107, 108, 109, 110, 111, 112, 113, 114, 115, 116, 117, 118, 119] (by decide +kernel) (by decide +kernel)
set_option maxRecDepth 20000 in
theorem gX7_otherwise_X7_areTwo : GoodIn wsX7_otherwise (wsV RX7 151 RX7 yX7_areTwo wsX7_areTwo) := goodIn_app (goodIn_of _ (by decide +kernel)) ggX7_otherwise_X7_areTwo
set_option maxRecDepth 20000 in
theorem ggX7_otherwise_X7_settingOf : GoodIn wsX7_otherwise wsX7_settingOf := goodIn_r _ [22, 23, 24, 12, 25] (by decide +kernel) (by decide +kernel)
set_option maxRecDepth 20000 in
theorem gX7_otherwise_X7_settingOf : GoodIn wsX7_otherwise (va_wsS RX7 177 yX7_settingOf wsX7_settingOf) := goodIn_app (goodIn_of _ (by decide +kernel)) ggX7_otherwise_X7_settingOf
set_option maxRecDepth 20000 in
theorem ggX7_otherwise_X6_weigh : GoodIn wsX7_otherwise wsX6_weigh := goodIn_r _ [30, 31, 32, 33, 34, 35, 17, 36, 19, 37, 38, 39, 40, 41, 42, 43, 44, 45, 46, 12, 47, 48, 49, 50, 51, 52, 53, 54, 55, 56, 24, 25, 57, 58, 59, 60, 61, 62, 63, 64, 65, 66, 67, 68, 69, 70, 15, 16, 18, 71, 72, 73, 74, 75, 76, 77, 78, 79, 80, 81, 82, 83, 84, 29, 85, 86, 87, 120, 121, 117, 118, 119, 122] (by decide +kernel) (by decide +kernel)
set_option maxRecDepth 20000 in
theorem gX7_otherwise_X6_weigh : GoodIn wsX7_otherwise (wsV RX7 123 RX6 yX6_weigh wsX6_weigh) := goodIn_app (goodIn_of _ (by decide +kernel)) ggX7_otherwise_X6_weigh
set_option maxRecDepth 20000 in
theorem ggX7_otherwise_X7_bit : GoodIn wsX7_otherwise wsX7_bit := goodIn_r _ [25] (by decide +kernel) (by decide +kernel)
set_option maxRecDepth 20000 in
theorem gX7_otherwise_X7_bit : GoodIn wsX7_otherwise (va_wsS RX7 73 yX7_bit wsX7_bit) := goodIn_app (goodIn_of _ (by decide +kernel)) ggX7_otherwise_X7_bit
set_option maxRecDepth 20000 in
theorem ggX7_otherwise_X6_having : GoodIn wsX7_otherwise wsX6_having := goodIn_r _ [91, 31, 32, 48, 12, 49, 50, 51, 52, 53, 54, 55, 56, 86, 87, 120, 121] (by decide +kernel) (by decide +kernel)
set_option maxRecDepth 20000 in
theorem gX7_otherwise_X6_having : GoodIn wsX7_otherwise (wsV RX7 133 RX6 yX6_having wsX6_having) := goodIn_app (goodIn_of _ (by decide +kernel)) ggX7_otherwise_X6_having
set_option maxRecDepth 20000 in
theorem ggX7_otherwise_X7_leastOfBoth : GoodIn wsX7_otherwise wsX7_leastOfBoth := goodIn_r _ [95, 2, 5, 6, 7, 8, 23, 24, 12, 25, 88, 89, 90, 29, 91, 31, 32, 48, 49, 50, 51, 52, 53, 54, 55, 56, 86, 87, 107, 108, 109, 110, 111, 112, 113, 114, 115, 116, 120, 121] (by decide +kernel) (by decide +kernel)
set_option maxRecDepth 20000 in
theorem gX7_otherwise_X7_leastOfBoth : GoodIn wsX7_otherwise (wsV RX7 191 RX7 yX7_leastOfBoth wsX7_leastOfBoth) := goodIn_app (goodIn_of _ (by decide +kernel)) ggX7_otherwise_X7_leastOfBoth
set_option maxRecDepth 20000 in
theorem ggX7_otherwise_X7_mostOfBoth : GoodIn wsX7_otherwise wsX7_mostOfBoth := goodIn_r _ [99, 2, 100, 101, 7, 102, 23, 24, 12, 25, 88, 89, 90, 29, 91, 31, 32, 48, 49, 50, 51, 52, 53, 54, 55, 56, 86, 87, 107, 108, 109, 110, 111, 112, 113, 114, 115, 116, 120, 121] (by decide +kernel) (by decide +kernel)
set_option maxRecDepth 20000 in
theorem gX7_otherwise_X7_mostOfBoth : GoodIn wsX7_otherwise (wsV RX7 195 RX7 yX7_mostOfBoth wsX7_mostOfBoth) := goodIn_app (goodIn_of _ (by decide +kernel)) ggX7_otherwise_X7_mostOfBoth
set_option maxRecDepth 20000 in
theorem ggX7_otherwise_X7_mostOfNeed : GoodIn wsX7_otherwise wsX7_mostOfNeed := goodIn_r _ [106, 2, 100, 101, 7, 102, 23, 24, 12, 25, 88, 89, 90, 29, 91, 31, 32, 48, 49, 50, 51, 52, 53, 54, 55, 56, 86, 87, 107, 108, 109, 110, 111, 112, 113, 114, 115, 116, 120, 121] (by decide +kernel) (by decide +kernel)
set_option maxRecDepth 20000 in
theorem gX7_otherwise_X7_mostOfNeed : GoodIn wsX7_otherwise (wsV RX7 204 RX7 yX7_mostOfNeed wsX7_mostOfNeed) := goodIn_app (goodIn_of _ (by decide +kernel)) ggX7_otherwise_X7_mostOfNeed
theorem dX7_otherwise_0 : decode cX7_otherwise 0 = .ok (.aload_n 0, 1) := by decide +kernel
theorem dX7_otherwise_1 : decode cX7_otherwise 1 = .ok (.iload_n 1, 1) := by decide +kernel
theorem dX7_otherwise_2 : decode cX7_otherwise 2 = .ok (.iload_n 2, 1) := by decide +kernel
theorem dX7_otherwise_3 : decode cX7_otherwise 3 = .ok (.invokevirtual 151, 3) := by decide +kernel
theorem dX7_otherwise_6 : decode cX7_otherwise 6 = .ok (.ifCond .eq 12, 3) := by decide +kernel
theorem dX7_otherwise_9 : decode cX7_otherwise 9 = .ok (.iload_n 3, 1) := by decide +kernel
theorem dX7_otherwise_10 : decode cX7_otherwise 10 = .ok (.ifCond .lt 8, 3) := by decide +kernel
theorem dX7_otherwise_13 : decode cX7_otherwise 13 = .ok (.iload_n 3, 1) := by decide +kernel
theorem dX7_otherwise_14 : decode cX7_otherwise 14 = .ok (.iconst 4, 1) := by decide +kernel
theorem dX7_otherwise_15 : decode cX7_otherwise 15 = .ok (.if_icmp .le 7, 3) := by decide +kernel
theorem dX7_otherwise_18 : decode cX7_otherwise 18 = .ok (.ldc2_w 121, 3) := by decide +kernel
theorem dX7_otherwise_21 : decode cX7_otherwise 21 = .ok (.lreturn, 1) := by decide +kernel
theorem dX7_otherwise_22 : decode cX7_otherwise 22 = .ok (.aload_n 0, 1) := by decide +kernel
theorem dX7_otherwise_23 : decode cX7_otherwise 23 = .ok (.getfield 29, 3) := by decide +kernel
theorem dX7_otherwise_26 : decode cX7_otherwise 26 = .ok (.aload_n 0, 1) := by decide +kernel
theorem dX7_otherwise_27 : decode cX7_otherwise 27 = .ok (.getfield 12, 3) := by decide +kernel
theorem dX7_otherwise_30 : decode cX7_otherwise 30 = .ok (.aload_n 0, 1) := by decide +kernel
theorem dX7_otherwise_31 : decode cX7_otherwise 31 = .ok (.getfield 22, 3) := by decide +kernel
theorem dX7_otherwise_34 : decode cX7_otherwise 34 = .ok (.iload_n 1, 1) := by decide +kernel
theorem dX7_otherwise_35 : decode cX7_otherwise 35 = .ok (.iconst 1, 1) := by decide +kernel
theorem dX7_otherwise_36 : decode cX7_otherwise 36 = .ok (.invokestatic 177, 3) := by decide +kernel
theorem dX7_otherwise_39 : decode cX7_otherwise 39 = .ok (.invokevirtual 123, 3) := by decide +kernel
theorem dX7_otherwise_42 : decode cX7_otherwise 42 = .ok (.aload_n 0, 1) := by decide +kernel
theorem dX7_otherwise_43 : decode cX7_otherwise 43 = .ok (.getfield 29, 3) := by decide +kernel
theorem dX7_otherwise_46 : decode cX7_otherwise 46 = .ok (.iload_n 2, 1) := by decide +kernel
theorem dX7_otherwise_47 : decode cX7_otherwise 47 = .ok (.invokestatic 73, 3) := by decide +kernel
theorem dX7_otherwise_50 : decode cX7_otherwise 50 = .ok (.iload_n 2, 1) := by decide +kernel
theorem dX7_otherwise_51 : decode cX7_otherwise 51 = .ok (.invokestatic 73, 3) := by decide +kernel
theorem dX7_otherwise_54 : decode cX7_otherwise 54 = .ok (.invokevirtual 133, 3) := by decide +kernel
theorem dX7_otherwise_57 : decode cX7_otherwise 57 = .ok (.lstore 4, 2) := by decide +kernel
theorem dX7_otherwise_59 : decode cX7_otherwise 59 = .ok (.aload_n 0, 1) := by decide +kernel
theorem dX7_otherwise_60 : decode cX7_otherwise 60 = .ok (.getfield 29, 3) := by decide +kernel
theorem dX7_otherwise_63 : decode cX7_otherwise 63 = .ok (.aload_n 0, 1) := by decide +kernel
theorem dX7_otherwise_64 : decode cX7_otherwise 64 = .ok (.getfield 12, 3) := by decide +kernel
theorem dX7_otherwise_67 : decode cX7_otherwise 67 = .ok (.aload_n 0, 1) := by decide +kernel
theorem dX7_otherwise_68 : decode cX7_otherwise 68 = .ok (.getfield 22, 3) := by decide +kernel
theorem dX7_otherwise_71 : decode cX7_otherwise 71 = .ok (.iload_n 1, 1) := by decide +kernel
theorem dX7_otherwise_72 : decode cX7_otherwise 72 = .ok (.iconst 0, 1) := by decide +kernel
theorem dX7_otherwise_73 : decode cX7_otherwise 73 = .ok (.invokestatic 177, 3) := by decide +kernel
theorem dX7_otherwise_76 : decode cX7_otherwise 76 = .ok (.invokevirtual 123, 3) := by decide +kernel
theorem dX7_otherwise_79 : decode cX7_otherwise 79 = .ok (.aload_n 0, 1) := by decide +kernel
theorem dX7_otherwise_80 : decode cX7_otherwise 80 = .ok (.getfield 29, 3) := by decide +kernel
theorem dX7_otherwise_83 : decode cX7_otherwise 83 = .ok (.iload_n 2, 1) := by decide +kernel
theorem dX7_otherwise_84 : decode cX7_otherwise 84 = .ok (.invokestatic 73, 3) := by decide +kernel
theorem dX7_otherwise_87 : decode cX7_otherwise 87 = .ok (.iload_n 2, 1) := by decide +kernel
theorem dX7_otherwise_88 : decode cX7_otherwise 88 = .ok (.invokestatic 73, 3) := by decide +kernel
theorem dX7_otherwise_91 : decode cX7_otherwise 91 = .ok (.invokevirtual 133, 3) := by decide +kernel
theorem dX7_otherwise_94 : decode cX7_otherwise 94 = .ok (.lstore 6, 2) := by decide +kernel
theorem dX7_otherwise_96 : decode cX7_otherwise 96 = .ok (.aload_n 0, 1) := by decide +kernel
theorem dX7_otherwise_97 : decode cX7_otherwise 97 = .ok (.getfield 29, 3) := by decide +kernel
theorem dX7_otherwise_100 : decode cX7_otherwise 100 = .ok (.aload_n 0, 1) := by decide +kernel
theorem dX7_otherwise_101 : decode cX7_otherwise 101 = .ok (.getfield 12, 3) := by decide +kernel
theorem dX7_otherwise_104 : decode cX7_otherwise 104 = .ok (.aload_n 0, 1) := by decide +kernel
theorem dX7_otherwise_105 : decode cX7_otherwise 105 = .ok (.getfield 22, 3) := by decide +kernel
theorem dX7_otherwise_108 : decode cX7_otherwise 108 = .ok (.iconst 0, 1) := by decide +kernel
theorem dX7_otherwise_109 : decode cX7_otherwise 109 = .ok (.invokevirtual 123, 3) := by decide +kernel
theorem dX7_otherwise_112 : decode cX7_otherwise 112 = .ok (.iload_n 3, 1) := by decide +kernel
theorem dX7_otherwise_113 : decode cX7_otherwise 113 = .ok (.tableswitch 84 0 3 #[31, 41, 52, 75], 31) := by decide +kernel
theorem dX7_otherwise_144 : decode cX7_otherwise 144 = .ok (.aload_n 0, 1) := by decide +kernel
theorem dX7_otherwise_145 : decode cX7_otherwise 145 = .ok (.iload_n 2, 1) := by decide +kernel
theorem dX7_otherwise_146 : decode cX7_otherwise 146 = .ok (.lload 4, 2) := by decide +kernel
theorem dX7_otherwise_148 : decode cX7_otherwise 148 = .ok (.lload 6, 2) := by decide +kernel
theorem dX7_otherwise_150 : decode cX7_otherwise 150 = .ok (.invokevirtual 191, 3) := by decide +kernel
theorem dX7_otherwise_153 : decode cX7_otherwise 153 = .ok (.lreturn, 1) := by decide +kernel
theorem dX7_otherwise_154 : decode cX7_otherwise 154 = .ok (.aload_n 0, 1) := by decide +kernel
theorem dX7_otherwise_155 : decode cX7_otherwise 155 = .ok (.iload_n 1, 1) := by decide +kernel
theorem dX7_otherwise_156 : decode cX7_otherwise 156 = .ok (.iload_n 2, 1) := by decide +kernel
theorem dX7_otherwise_157 : decode cX7_otherwise 157 = .ok (.lload 4, 2) := by decide +kernel
theorem dX7_otherwise_159 : decode cX7_otherwise 159 = .ok (.lload 6, 2) := by decide +kernel
theorem dX7_otherwise_161 : decode cX7_otherwise 161 = .ok (.invokevirtual 195, 3) := by decide +kernel
theorem dX7_otherwise_164 : decode cX7_otherwise 164 = .ok (.lreturn, 1) := by decide +kernel
theorem dX7_otherwise_165 : decode cX7_otherwise 165 = .ok (.lconst 0, 1) := by decide +kernel
theorem dX7_otherwise_166 : decode cX7_otherwise 166 = .ok (.aload_n 0, 1) := by decide +kernel
theorem dX7_otherwise_167 : decode cX7_otherwise 167 = .ok (.getfield 29, 3) := by decide +kernel
theorem dX7_otherwise_170 : decode cX7_otherwise 170 = .ok (.iload_n 2, 1) := by decide +kernel
theorem dX7_otherwise_171 : decode cX7_otherwise 171 = .ok (.invokestatic 73, 3) := by decide +kernel
theorem dX7_otherwise_174 : decode cX7_otherwise 174 = .ok (.iload_n 2, 1) := by decide +kernel
theorem dX7_otherwise_175 : decode cX7_otherwise 175 = .ok (.invokestatic 73, 3) := by decide +kernel
theorem dX7_otherwise_178 : decode cX7_otherwise 178 = .ok (.invokevirtual 133, 3) := by decide +kernel
theorem dX7_otherwise_181 : decode cX7_otherwise 181 = .ok (.lload 6, 2) := by decide +kernel
theorem dX7_otherwise_183 : decode cX7_otherwise 183 = .ok (.lsub, 1) := by decide +kernel
theorem dX7_otherwise_184 : decode cX7_otherwise 184 = .ok (.invokestatic 199, 3) := by decide +kernel
theorem dX7_otherwise_187 : decode cX7_otherwise 187 = .ok (.lreturn, 1) := by decide +kernel
theorem dX7_otherwise_188 : decode cX7_otherwise 188 = .ok (.aload_n 0, 1) := by decide +kernel
theorem dX7_otherwise_189 : decode cX7_otherwise 189 = .ok (.iload_n 1, 1) := by decide +kernel
theorem dX7_otherwise_190 : decode cX7_otherwise 190 = .ok (.iload_n 2, 1) := by decide +kernel
theorem dX7_otherwise_191 : decode cX7_otherwise 191 = .ok (.lload 6, 2) := by decide +kernel
theorem dX7_otherwise_193 : decode cX7_otherwise 193 = .ok (.invokevirtual 204, 3) := by decide +kernel
theorem dX7_otherwise_196 : decode cX7_otherwise 196 = .ok (.lreturn, 1) := by decide +kernel
theorem dX7_otherwise_197 : decode cX7_otherwise 197 = .ok (.aload_n 0, 1) := by decide +kernel
theorem dX7_otherwise_198 : decode cX7_otherwise 198 = .ok (.getfield 29, 3) := by decide +kernel
theorem dX7_otherwise_201 : decode cX7_otherwise 201 = .ok (.iload_n 1, 1) := by decide +kernel
theorem dX7_otherwise_202 : decode cX7_otherwise 202 = .ok (.invokestatic 73, 3) := by decide +kernel
theorem dX7_otherwise_205 : decode cX7_otherwise 205 = .ok (.iload_n 2, 1) := by decide +kernel
theorem dX7_otherwise_206 : decode cX7_otherwise 206 = .ok (.invokestatic 73, 3) := by decide +kernel
theorem dX7_otherwise_209 : decode cX7_otherwise 209 = .ok (.ior, 1) := by decide +kernel
theorem dX7_otherwise_210 : decode cX7_otherwise 210 = .ok (.iload_n 1, 1) := by decide +kernel
theorem dX7_otherwise_211 : decode cX7_otherwise 211 = .ok (.invokestatic 73, 3) := by decide +kernel
theorem dX7_otherwise_214 : decode cX7_otherwise 214 = .ok (.iload_n 2, 1) := by decide +kernel
theorem dX7_otherwise_215 : decode cX7_otherwise 215 = .ok (.invokestatic 73, 3) := by decide +kernel
theorem dX7_otherwise_218 : decode cX7_otherwise 218 = .ok (.ior, 1) := by decide +kernel
theorem dX7_otherwise_219 : decode cX7_otherwise 219 = .ok (.invokevirtual 133, 3) := by decide +kernel
theorem dX7_otherwise_222 : decode cX7_otherwise 222 = .ok (.lreturn, 1) := by decide +kernel
set_option maxRecDepth 20000 in
theorem ggX7_draw_X7_isSetting : GoodIn wsX7_draw wsX7_isSetting := goodIn_r _ [8, 9, 10, 7, 11, 12, 13, 14, 15, 1, 16, 17, 18, 19, 20, 21, 22, 23, 24, 63, 64, 65, 66, 67, 68, 69, 70, 71, 72, 73, 74, 75] (by decide +kernel) (by decide +kernel)
set_option maxRecDepth 20000 in
theorem gX7_draw_X7_isSetting : GoodIn wsX7_draw (wsV RX7 118 RX7 yX7_isSetting wsX7_isSetting) := goodIn_app (goodIn_of _ (by decide +kernel)) ggX7_draw_X7_isSetting
set_option maxRecDepth 20000 in
theorem ggX7_draw_X2_size : GoodIn wsX7_draw wsX2_size := goodIn_r _ [28, 21, 73, 74, 75] (by decide +kernel) (by decide +kernel)
set_option maxRecDepth 20000 in
theorem gX7_draw_X2_size : GoodIn wsX7_draw (wsV RX7 208 RX2 yX2_size wsX2_size) := goodIn_app (goodIn_of _ (by decide +kernel)) ggX7_draw_X2_size
set_option maxRecDepth 20000 in
theorem ggX7_draw_X2_nextAfter : GoodIn wsX7_draw wsX2_nextAfter := goodIn_r _ [32, 21, 33, 34, 7, 35, 73, 74, 75] (by decide +kernel) (by decide +kernel)
set_option maxRecDepth 20000 in
theorem gX7_draw_X2_nextAfter : GoodIn wsX7_draw (wsV RX7 209 RX2 yX2_nextAfter wsX2_nextAfter) := goodIn_app (goodIn_of _ (by decide +kernel)) ggX7_draw_X2_nextAfter
set_option maxRecDepth 20000 in
theorem ggX7_draw_X1_partsUnder : GoodIn wsX7_draw wsX1_partsUnder := goodIn_r _ [40, 10, 7, 11, 34, 35, 23, 24, 41, 42, 43, 19, 44, 33, 45, 46, 47, 48, 21, 49, 50, 39, 51, 52, 53, 54, 55, 56, 57, 58, 59, 73, 74, 75, 76] (by decide +kernel) (by decide +kernel)
set_option maxRecDepth 20000 in
theorem gX7_draw_X1_partsUnder : GoodIn wsX7_draw (wsV RX7 213 RX1 yX1_partsUnder wsX1_partsUnder) := goodIn_app (goodIn_of _ (by decide +kernel)) ggX7_draw_X1_partsUnder
set_option maxRecDepth 20000 in
theorem ggX7_draw_X7_bit : GoodIn wsX7_draw wsX7_bit := goodIn_r _ [62] (by decide +kernel) (by decide +kernel)
set_option maxRecDepth 20000 in
theorem gX7_draw_X7_bit : GoodIn wsX7_draw (va_wsS RX7 73 yX7_bit wsX7_bit) := goodIn_app (goodIn_of _ (by decide +kernel)) ggX7_draw_X7_bit
theorem dX7_draw_0 : decode cX7_draw 0 = .ok (.aload_n 0, 1) := by decide +kernel
theorem dX7_draw_1 : decode cX7_draw 1 = .ok (.iload_n 2, 1) := by decide +kernel
theorem dX7_draw_2 : decode cX7_draw 2 = .ok (.invokevirtual 118, 3) := by decide +kernel
theorem dX7_draw_5 : decode cX7_draw 5 = .ok (.ifCond .ne 5, 3) := by decide +kernel
theorem dX7_draw_8 : decode cX7_draw 8 = .ok (.iconst (-1), 1) := by decide +kernel
theorem dX7_draw_9 : decode cX7_draw 9 = .ok (.ireturn, 1) := by decide +kernel
theorem dX7_draw_10 : decode cX7_draw 10 = .ok (.iload_n 1, 1) := by decide +kernel
theorem dX7_draw_11 : decode cX7_draw 11 = .ok (.istore_n 3, 1) := by decide +kernel
theorem dX7_draw_12 : decode cX7_draw 12 = .ok (.iconst 0, 1) := by decide +kernel
theorem dX7_draw_13 : decode cX7_draw 13 = .ok (.istore 4, 2) := by decide +kernel
theorem dX7_draw_15 : decode cX7_draw 15 = .ok (.iconst 0, 1) := by decide +kernel
theorem dX7_draw_16 : decode cX7_draw 16 = .ok (.istore 5, 2) := by decide +kernel
theorem dX7_draw_18 : decode cX7_draw 18 = .ok (.iconst 0, 1) := by decide +kernel
theorem dX7_draw_19 : decode cX7_draw 19 = .ok (.istore 6, 2) := by decide +kernel
theorem dX7_draw_21 : decode cX7_draw 21 = .ok (.iload 6, 2) := by decide +kernel
theorem dX7_draw_23 : decode cX7_draw 23 = .ok (.aload_n 0, 1) := by decide +kernel
theorem dX7_draw_24 : decode cX7_draw 24 = .ok (.getfield 12, 3) := by decide +kernel
theorem dX7_draw_27 : decode cX7_draw 27 = .ok (.invokevirtual 208, 3) := by decide +kernel
theorem dX7_draw_30 : decode cX7_draw 30 = .ok (.if_icmp .ge 84, 3) := by decide +kernel
theorem dX7_draw_33 : decode cX7_draw 33 = .ok (.aload_n 0, 1) := by decide +kernel
theorem dX7_draw_34 : decode cX7_draw 34 = .ok (.getfield 12, 3) := by decide +kernel
theorem dX7_draw_37 : decode cX7_draw 37 = .ok (.iload 4, 2) := by decide +kernel
theorem dX7_draw_39 : decode cX7_draw 39 = .ok (.invokevirtual 209, 3) := by decide +kernel
theorem dX7_draw_42 : decode cX7_draw 42 = .ok (.istore 7, 2) := by decide +kernel
theorem dX7_draw_44 : decode cX7_draw 44 = .ok (.iload 7, 2) := by decide +kernel
theorem dX7_draw_46 : decode cX7_draw 46 = .ok (.iconst (-1), 1) := by decide +kernel
theorem dX7_draw_47 : decode cX7_draw 47 = .ok (.if_icmp .ne 6, 3) := by decide +kernel
theorem dX7_draw_50 : decode cX7_draw 50 = .ok (.goto 64, 3) := by decide +kernel
theorem dX7_draw_53 : decode cX7_draw 53 = .ok (.iload_n 3, 1) := by decide +kernel
theorem dX7_draw_54 : decode cX7_draw 54 = .ok (.ldc 212, 2) := by decide +kernel
theorem dX7_draw_56 : decode cX7_draw 56 = .ok (.imul, 1) := by decide +kernel
theorem dX7_draw_57 : decode cX7_draw 57 = .ok (.sipush 12345, 3) := by decide +kernel
theorem dX7_draw_60 : decode cX7_draw 60 = .ok (.iadd, 1) := by decide +kernel
theorem dX7_draw_61 : decode cX7_draw 61 = .ok (.istore_n 3, 1) := by decide +kernel
theorem dX7_draw_62 : decode cX7_draw 62 = .ok (.iload_n 3, 1) := by decide +kernel
theorem dX7_draw_63 : decode cX7_draw 63 = .ok (.bipush 16, 2) := by decide +kernel
theorem dX7_draw_65 : decode cX7_draw 65 = .ok (.iushr, 1) := by decide +kernel
theorem dX7_draw_66 : decode cX7_draw 66 = .ok (.bipush 100, 2) := by decide +kernel
theorem dX7_draw_68 : decode cX7_draw 68 = .ok (.irem, 1) := by decide +kernel
theorem dX7_draw_69 : decode cX7_draw 69 = .ok (.aload_n 0, 1) := by decide +kernel
theorem dX7_draw_70 : decode cX7_draw 70 = .ok (.getfield 22, 3) := by decide +kernel
theorem dX7_draw_73 : decode cX7_draw 73 = .ok (.aload_n 0, 1) := by decide +kernel
theorem dX7_draw_74 : decode cX7_draw 74 = .ok (.getfield 12, 3) := by decide +kernel
theorem dX7_draw_77 : decode cX7_draw 77 = .ok (.iload 7, 2) := by decide +kernel
theorem dX7_draw_79 : decode cX7_draw 79 = .ok (.iload 5, 2) := by decide +kernel
theorem dX7_draw_81 : decode cX7_draw 81 = .ok (.iload_n 2, 1) := by decide +kernel
theorem dX7_draw_82 : decode cX7_draw 82 = .ok (.invokevirtual 213, 3) := by decide +kernel
theorem dX7_draw_85 : decode cX7_draw 85 = .ok (.if_icmp .ge 13, 3) := by decide +kernel
theorem dX7_draw_88 : decode cX7_draw 88 = .ok (.iload 5, 2) := by decide +kernel
theorem dX7_draw_90 : decode cX7_draw 90 = .ok (.iload 7, 2) := by decide +kernel
theorem dX7_draw_92 : decode cX7_draw 92 = .ok (.invokestatic 73, 3) := by decide +kernel
theorem dX7_draw_95 : decode cX7_draw 95 = .ok (.ior, 1) := by decide +kernel
theorem dX7_draw_96 : decode cX7_draw 96 = .ok (.istore 5, 2) := by decide +kernel
theorem dX7_draw_98 : decode cX7_draw 98 = .ok (.iload 4, 2) := by decide +kernel
theorem dX7_draw_100 : decode cX7_draw 100 = .ok (.iload 7, 2) := by decide +kernel
theorem dX7_draw_102 : decode cX7_draw 102 = .ok (.invokestatic 73, 3) := by decide +kernel
theorem dX7_draw_105 : decode cX7_draw 105 = .ok (.ior, 1) := by decide +kernel
theorem dX7_draw_106 : decode cX7_draw 106 = .ok (.istore 4, 2) := by decide +kernel
theorem dX7_draw_108 : decode cX7_draw 108 = .ok (.iinc 6 1, 3) := by decide +kernel
theorem dX7_draw_111 : decode cX7_draw 111 = .ok (.goto (-90), 3) := by decide +kernel
theorem dX7_draw_114 : decode cX7_draw 114 = .ok (.iload 5, 2) := by decide +kernel
theorem dX7_draw_116 : decode cX7_draw 116 = .ok (.ireturn, 1) := by decide +kernel
set_option maxRecDepth 20000 in
theorem ggX7_count_X2_size : GoodIn wsX7_count wsX2_size := goodIn_r _ [7, 8, 31, 32, 33] (by decide +kernel) (by decide +kernel)
set_option maxRecDepth 20000 in
theorem gX7_count_X2_size : GoodIn wsX7_count (wsV RX7 208 RX2 yX2_size wsX2_size) := goodIn_app (goodIn_of _ (by decide +kernel)) ggX7_count_X2_size
set_option maxRecDepth 20000 in
theorem ggX7_count_X2_arrows : GoodIn wsX7_count wsX2_arrows := goodIn_r _ [12, 8, 13, 14, 15, 16, 17, 18, 19, 20, 31, 32, 33] (by decide +kernel) (by decide +kernel)
set_option maxRecDepth 20000 in
theorem gX7_count_X2_arrows : GoodIn wsX7_count (wsV RX7 217 RX2 yX2_arrows wsX2_arrows) := goodIn_app (goodIn_of _ (by decide +kernel)) ggX7_count_X2_arrows
theorem dX7_count_0 : decode cX7_count 0 = .ok (.iload_n 1, 1) := by decide +kernel
theorem dX7_count_1 : decode cX7_count 1 = .ok (.tableswitch 48 0 2 #[27, 35, 43], 27) := by decide +kernel
theorem dX7_count_28 : decode cX7_count 28 = .ok (.aload_n 0, 1) := by decide +kernel
theorem dX7_count_29 : decode cX7_count 29 = .ok (.getfield 12, 3) := by decide +kernel
theorem dX7_count_32 : decode cX7_count 32 = .ok (.invokevirtual 208, 3) := by decide +kernel
theorem dX7_count_35 : decode cX7_count 35 = .ok (.ireturn, 1) := by decide +kernel
theorem dX7_count_36 : decode cX7_count 36 = .ok (.aload_n 0, 1) := by decide +kernel
theorem dX7_count_37 : decode cX7_count 37 = .ok (.getfield 12, 3) := by decide +kernel
theorem dX7_count_40 : decode cX7_count 40 = .ok (.invokevirtual 217, 3) := by decide +kernel
theorem dX7_count_43 : decode cX7_count 43 = .ok (.ireturn, 1) := by decide +kernel
theorem dX7_count_44 : decode cX7_count 44 = .ok (.aload_n 0, 1) := by decide +kernel
theorem dX7_count_45 : decode cX7_count 45 = .ok (.getfield 54, 3) := by decide +kernel
theorem dX7_count_48 : decode cX7_count 48 = .ok (.ireturn, 1) := by decide +kernel
theorem dX7_count_49 : decode cX7_count 49 = .ok (.iconst (-1), 1) := by decide +kernel
theorem dX7_count_50 : decode cX7_count 50 = .ok (.ireturn, 1) := by decide +kernel
