/-! printed rows of NAMES that the contracts use: words among words, instructions -/
theorem dX0_init_0 : decode cX0_init 0 = .ok (.aload_n 0, 1) := by decide +kernel
theorem dX0_init_1 : decode cX0_init 1 = .ok (.invokespecial 3, 3) := by decide +kernel
theorem dX0_init_4 : decode cX0_init 4 = .ok (.aload_n 0, 1) := by decide +kernel
theorem dX0_init_5 : decode cX0_init 5 = .ok (.sipush 128, 3) := by decide +kernel
theorem dX0_init_8 : decode cX0_init 8 = .ok (.newarray .long, 2) := by decide +kernel
theorem dX0_init_10 : decode cX0_init 10 = .ok (.putfield 9, 3) := by decide +kernel
theorem dX0_init_13 : decode cX0_init 13 = .ok (.aload_n 0, 1) := by decide +kernel
theorem dX0_init_14 : decode cX0_init 14 = .ok (.iconst 0, 1) := by decide +kernel
theorem dX0_init_15 : decode cX0_init 15 = .ok (.putfield 13, 3) := by decide +kernel
theorem dX0_init_18 : decode cX0_init 18 = .ok (.return_, 1) := by decide +kernel
theorem dX1_init_0 : decode cX1_init 0 = .ok (.aload_n 0, 1) := by decide +kernel
theorem dX1_init_1 : decode cX1_init 1 = .ok (.invokespecial 3, 3) := by decide +kernel
theorem dX1_init_4 : decode cX1_init 4 = .ok (.aload_n 0, 1) := by decide +kernel
theorem dX1_init_5 : decode cX1_init 5 = .ok (.sipush 1024, 3) := by decide +kernel
theorem dX1_init_8 : decode cX1_init 8 = .ok (.newarray .int, 2) := by decide +kernel
theorem dX1_init_10 : decode cX1_init 10 = .ok (.putfield 9, 3) := by decide +kernel
theorem dX1_init_13 : decode cX1_init 13 = .ok (.return_, 1) := by decide +kernel
theorem dX1_blank_0 : decode cX1_blank 0 = .ok (.iload_n 1, 1) := by decide +kernel
theorem dX1_blank_1 : decode cX1_blank 1 = .ok (.ifCond .lt 38, 3) := by decide +kernel
theorem dX1_blank_4 : decode cX1_blank 4 = .ok (.iload_n 1, 1) := by decide +kernel
theorem dX1_blank_5 : decode cX1_blank 5 = .ok (.bipush 8, 2) := by decide +kernel
theorem dX1_blank_7 : decode cX1_blank 7 = .ok (.if_icmp .ge 32, 3) := by decide +kernel
theorem dX1_blank_10 : decode cX1_blank 10 = .ok (.iconst 0, 1) := by decide +kernel
theorem dX1_blank_11 : decode cX1_blank 11 = .ok (.istore_n 2, 1) := by decide +kernel
theorem dX1_blank_12 : decode cX1_blank 12 = .ok (.iload_n 2, 1) := by decide +kernel
theorem dX1_blank_13 : decode cX1_blank 13 = .ok (.sipush 128, 3) := by decide +kernel
theorem dX1_blank_16 : decode cX1_blank 16 = .ok (.if_icmp .ge 23, 3) := by decide +kernel
theorem dX1_blank_19 : decode cX1_blank 19 = .ok (.aload_n 0, 1) := by decide +kernel
theorem dX1_blank_20 : decode cX1_blank 20 = .ok (.getfield 9, 3) := by decide +kernel
theorem dX1_blank_23 : decode cX1_blank 23 = .ok (.iload_n 1, 1) := by decide +kernel
theorem dX1_blank_24 : decode cX1_blank 24 = .ok (.sipush 128, 3) := by decide +kernel
theorem dX1_blank_27 : decode cX1_blank 27 = .ok (.imul, 1) := by decide +kernel
theorem dX1_blank_28 : decode cX1_blank 28 = .ok (.iload_n 2, 1) := by decide +kernel
theorem dX1_blank_29 : decode cX1_blank 29 = .ok (.iadd, 1) := by decide +kernel
theorem dX1_blank_30 : decode cX1_blank 30 = .ok (.bipush 50, 2) := by decide +kernel
theorem dX1_blank_32 : decode cX1_blank 32 = .ok (.iastore, 1) := by decide +kernel
theorem dX1_blank_33 : decode cX1_blank 33 = .ok (.iinc 2 1, 3) := by decide +kernel
theorem dX1_blank_36 : decode cX1_blank 36 = .ok (.goto (-24), 3) := by decide +kernel
theorem dX1_blank_39 : decode cX1_blank 39 = .ok (.return_, 1) := by decide +kernel
theorem dX2_init_0 : decode cX2_init 0 = .ok (.aload_n 0, 1) := by decide +kernel
theorem dX2_init_1 : decode cX2_init 1 = .ok (.invokespecial 3, 3) := by decide +kernel
theorem dX2_init_4 : decode cX2_init 4 = .ok (.aload_n 0, 1) := by decide +kernel
theorem dX2_init_5 : decode cX2_init 5 = .ok (.bipush 8, 2) := by decide +kernel
theorem dX2_init_7 : decode cX2_init 7 = .ok (.newarray .int, 2) := by decide +kernel
theorem dX2_init_9 : decode cX2_init 9 = .ok (.putfield 9, 3) := by decide +kernel
theorem dX2_init_12 : decode cX2_init 12 = .ok (.aload_n 0, 1) := by decide +kernel
theorem dX2_init_13 : decode cX2_init 13 = .ok (.bipush 8, 2) := by decide +kernel
theorem dX2_init_15 : decode cX2_init 15 = .ok (.newarray .int, 2) := by decide +kernel
theorem dX2_init_17 : decode cX2_init 17 = .ok (.putfield 15, 3) := by decide +kernel
theorem dX2_init_20 : decode cX2_init 20 = .ok (.aload_n 0, 1) := by decide +kernel
theorem dX2_init_21 : decode cX2_init 21 = .ok (.iconst 0, 1) := by decide +kernel
theorem dX2_init_22 : decode cX2_init 22 = .ok (.putfield 18, 3) := by decide +kernel
theorem dX2_init_25 : decode cX2_init 25 = .ok (.return_, 1) := by decide +kernel
theorem dX2_size_0 : decode cX2_size 0 = .ok (.aload_n 0, 1) := by decide +kernel
theorem dX2_size_1 : decode cX2_size 1 = .ok (.getfield 18, 3) := by decide +kernel
theorem dX2_size_4 : decode cX2_size 4 = .ok (.ireturn, 1) := by decide +kernel
theorem dX2_has_0 : decode cX2_has 0 = .ok (.iload_n 1, 1) := by decide +kernel
theorem dX2_has_1 : decode cX2_has 1 = .ok (.ifCond .lt 15, 3) := by decide +kernel
theorem dX2_has_4 : decode cX2_has 4 = .ok (.iload_n 1, 1) := by decide +kernel
theorem dX2_has_5 : decode cX2_has 5 = .ok (.aload_n 0, 1) := by decide +kernel
theorem dX2_has_6 : decode cX2_has 6 = .ok (.getfield 18, 3) := by decide +kernel
theorem dX2_has_9 : decode cX2_has 9 = .ok (.if_icmp .ge 7, 3) := by decide +kernel
theorem dX2_has_16 : decode cX2_has 16 = .ok (.iconst 0, 1) := by decide +kernel
theorem dX2_has_17 : decode cX2_has 17 = .ok (.ireturn, 1) := by decide +kernel
theorem dX2_everything_0 : decode cX2_everything 0 = .ok (.iconst 1, 1) := by decide +kernel
theorem dX2_everything_1 : decode cX2_everything 1 = .ok (.aload_n 0, 1) := by decide +kernel
theorem dX2_everything_2 : decode cX2_everything 2 = .ok (.getfield 18, 3) := by decide +kernel
theorem dX2_everything_5 : decode cX2_everything 5 = .ok (.ishl, 1) := by decide +kernel
theorem dX2_everything_6 : decode cX2_everything 6 = .ok (.iconst 1, 1) := by decide +kernel
theorem dX2_everything_7 : decode cX2_everything 7 = .ok (.isub, 1) := by decide +kernel
theorem dX2_everything_8 : decode cX2_everything 8 = .ok (.ireturn, 1) := by decide +kernel
theorem dX2_grow_0 : decode cX2_grow 0 = .ok (.aload_n 0, 1) := by decide +kernel
theorem dX2_grow_1 : decode cX2_grow 1 = .ok (.getfield 18, 3) := by decide +kernel
theorem dX2_grow_4 : decode cX2_grow 4 = .ok (.bipush 8, 2) := by decide +kernel
theorem dX2_grow_6 : decode cX2_grow 6 = .ok (.if_icmp .lt 5, 3) := by decide +kernel
theorem dX2_grow_11 : decode cX2_grow 11 = .ok (.aload_n 0, 1) := by decide +kernel
theorem dX2_grow_12 : decode cX2_grow 12 = .ok (.dup, 1) := by decide +kernel
theorem dX2_grow_13 : decode cX2_grow 13 = .ok (.getfield 18, 3) := by decide +kernel
theorem dX2_grow_16 : decode cX2_grow 16 = .ok (.iconst 1, 1) := by decide +kernel
theorem dX2_grow_17 : decode cX2_grow 17 = .ok (.iadd, 1) := by decide +kernel
theorem dX2_grow_18 : decode cX2_grow 18 = .ok (.putfield 18, 3) := by decide +kernel
theorem dX2_grow_21 : decode cX2_grow 21 = .ok (.aload_n 0, 1) := by decide +kernel
theorem dX2_grow_22 : decode cX2_grow 22 = .ok (.getfield 18, 3) := by decide +kernel
theorem dX2_grow_25 : decode cX2_grow 25 = .ok (.iconst 1, 1) := by decide +kernel
theorem dX2_grow_26 : decode cX2_grow 26 = .ok (.isub, 1) := by decide +kernel
theorem dX2_grow_27 : decode cX2_grow 27 = .ok (.ireturn, 1) := by decide +kernel
set_option maxRecDepth 20000 in
theorem ggX2_leads_X2_has : GoodIn wsX2_leads wsX2_has := goodIn_r _ [6, 7, 11, 12, 13] (by decide +kernel) (by decide +kernel)
set_option maxRecDepth 20000 in
theorem gX2_leads_X2_has : GoodIn wsX2_leads (wsV RX2 22 RX2 yX2_has wsX2_has) := goodIn_app (goodIn_of _ (by decide +kernel)) ggX2_leads_X2_has
theorem dX2_leads_0 : decode cX2_leads 0 = .ok (.aload_n 0, 1) := by decide +kernel
theorem dX2_leads_1 : decode cX2_leads 1 = .ok (.iload_n 1, 1) := by decide +kernel
theorem dX2_leads_2 : decode cX2_leads 2 = .ok (.invokevirtual 22, 3) := by decide +kernel
theorem dX2_leads_5 : decode cX2_leads 5 = .ok (.ifCond .eq 28, 3) := by decide +kernel
theorem dX2_leads_33 : decode cX2_leads 33 = .ok (.iconst 0, 1) := by decide +kernel
theorem dX2_leads_34 : decode cX2_leads 34 = .ok (.ireturn, 1) := by decide +kernel
theorem dX2_arrows_0 : decode cX2_arrows 0 = .ok (.iconst 0, 1) := by decide +kernel
theorem dX2_arrows_1 : decode cX2_arrows 1 = .ok (.istore_n 1, 1) := by decide +kernel
theorem dX2_arrows_2 : decode cX2_arrows 2 = .ok (.iconst 0, 1) := by decide +kernel
theorem dX2_arrows_3 : decode cX2_arrows 3 = .ok (.istore_n 2, 1) := by decide +kernel
theorem dX2_arrows_4 : decode cX2_arrows 4 = .ok (.iload_n 2, 1) := by decide +kernel
theorem dX2_arrows_5 : decode cX2_arrows 5 = .ok (.aload_n 0, 1) := by decide +kernel
theorem dX2_arrows_6 : decode cX2_arrows 6 = .ok (.getfield 18, 3) := by decide +kernel
theorem dX2_arrows_9 : decode cX2_arrows 9 = .ok (.if_icmp .ge 21, 3) := by decide +kernel
theorem dX2_arrows_30 : decode cX2_arrows 30 = .ok (.iload_n 1, 1) := by decide +kernel
theorem dX2_arrows_31 : decode cX2_arrows 31 = .ok (.ireturn, 1) := by decide +kernel
set_option maxRecDepth 20000 in
theorem ggX2_barred_X2_spread : GoodIn wsX2_barred wsX2_spread := goodIn_r _ [7, 8, 9, 6, 10, 11, 12, 13] (by decide +kernel) (by decide +kernel)
set_option maxRecDepth 20000 in
theorem gX2_barred_X2_spread : GoodIn wsX2_barred (wsV RX2 51 RX2 yX2_spread wsX2_spread) := goodIn_app (goodIn_of _ (by decide +kernel)) ggX2_barred_X2_spread
set_option maxRecDepth 20000 in
theorem ggX2_barred_X2_gather : GoodIn wsX2_barred wsX2_gather := goodIn_r _ [10, 11, 12, 13] (by decide +kernel) (by decide +kernel)
set_option maxRecDepth 20000 in
theorem gX2_barred_X2_gather : GoodIn wsX2_barred (va_wsS RX2 55 yX2_gather wsX2_gather) := goodIn_app (goodIn_of _ (by decide +kernel)) ggX2_barred_X2_gather
theorem dX2_barred_0 : decode cX2_barred 0 = .ok (.aload_n 0, 1) := by decide +kernel
theorem dX2_barred_1 : decode cX2_barred 1 = .ok (.iload_n 3, 1) := by decide +kernel
theorem dX2_barred_2 : decode cX2_barred 2 = .ok (.aload_n 0, 1) := by decide +kernel
theorem dX2_barred_3 : decode cX2_barred 3 = .ok (.getfield 9, 3) := by decide +kernel
theorem dX2_barred_6 : decode cX2_barred 6 = .ok (.invokevirtual 51, 3) := by decide +kernel
theorem dX2_barred_9 : decode cX2_barred 9 = .ok (.istore 4, 2) := by decide +kernel
theorem dX2_barred_11 : decode cX2_barred 11 = .ok (.iload_n 1, 1) := by decide +kernel
theorem dX2_barred_12 : decode cX2_barred 12 = .ok (.istore 5, 2) := by decide +kernel
theorem dX2_barred_14 : decode cX2_barred 14 = .ok (.iconst 0, 1) := by decide +kernel
theorem dX2_barred_15 : decode cX2_barred 15 = .ok (.istore 6, 2) := by decide +kernel
theorem dX2_barred_17 : decode cX2_barred 17 = .ok (.iconst 0, 1) := by decide +kernel
theorem dX2_barred_18 : decode cX2_barred 18 = .ok (.istore 7, 2) := by decide +kernel
theorem dX2_barred_20 : decode cX2_barred 20 = .ok (.iload 7, 2) := by decide +kernel
theorem dX2_barred_22 : decode cX2_barred 22 = .ok (.bipush 16, 2) := by decide +kernel
theorem dX2_barred_24 : decode cX2_barred 24 = .ok (.if_icmp .ge 87, 3) := by decide +kernel
theorem dX2_barred_27 : decode cX2_barred 27 = .ok (.iload 5, 2) := by decide +kernel
theorem dX2_barred_29 : decode cX2_barred 29 = .ok (.iload_n 3, 1) := by decide +kernel
theorem dX2_barred_30 : decode cX2_barred 30 = .ok (.iconst (-1), 1) := by decide +kernel
theorem dX2_barred_31 : decode cX2_barred 31 = .ok (.ixor, 1) := by decide +kernel
theorem dX2_barred_32 : decode cX2_barred 32 = .ok (.iand, 1) := by decide +kernel
theorem dX2_barred_33 : decode cX2_barred 33 = .ok (.iload 6, 2) := by decide +kernel
theorem dX2_barred_35 : decode cX2_barred 35 = .ok (.iload 4, 2) := by decide +kernel
theorem dX2_barred_37 : decode cX2_barred 37 = .ok (.iand, 1) := by decide +kernel
theorem dX2_barred_38 : decode cX2_barred 38 = .ok (.ior, 1) := by decide +kernel
theorem dX2_barred_39 : decode cX2_barred 39 = .ok (.istore 8, 2) := by decide +kernel
theorem dX2_barred_41 : decode cX2_barred 41 = .ok (.iload 5, 2) := by decide +kernel
theorem dX2_barred_43 : decode cX2_barred 43 = .ok (.iload 6, 2) := by decide +kernel
theorem dX2_barred_45 : decode cX2_barred 45 = .ok (.ior, 1) := by decide +kernel
theorem dX2_barred_46 : decode cX2_barred 46 = .ok (.iload_n 3, 1) := by decide +kernel
theorem dX2_barred_47 : decode cX2_barred 47 = .ok (.iconst (-1), 1) := by decide +kernel
theorem dX2_barred_48 : decode cX2_barred 48 = .ok (.ixor, 1) := by decide +kernel
theorem dX2_barred_49 : decode cX2_barred 49 = .ok (.iand, 1) := by decide +kernel
theorem dX2_barred_50 : decode cX2_barred 50 = .ok (.istore 9, 2) := by decide +kernel
theorem dX2_barred_52 : decode cX2_barred 52 = .ok (.iload 5, 2) := by decide +kernel
theorem dX2_barred_54 : decode cX2_barred 54 = .ok (.iload 8, 2) := by decide +kernel
theorem dX2_barred_56 : decode cX2_barred 56 = .ok (.aload_n 0, 1) := by decide +kernel
theorem dX2_barred_57 : decode cX2_barred 57 = .ok (.getfield 9, 3) := by decide +kernel
theorem dX2_barred_60 : decode cX2_barred 60 = .ok (.invokestatic 55, 3) := by decide +kernel
theorem dX2_barred_63 : decode cX2_barred 63 = .ok (.ior, 1) := by decide +kernel
theorem dX2_barred_64 : decode cX2_barred 64 = .ok (.istore 10, 2) := by decide +kernel
theorem dX2_barred_66 : decode cX2_barred 66 = .ok (.iload 6, 2) := by decide +kernel
theorem dX2_barred_68 : decode cX2_barred 68 = .ok (.iload 9, 2) := by decide +kernel
theorem dX2_barred_70 : decode cX2_barred 70 = .ok (.aload_n 0, 1) := by decide +kernel
theorem dX2_barred_71 : decode cX2_barred 71 = .ok (.getfield 15, 3) := by decide +kernel
theorem dX2_barred_74 : decode cX2_barred 74 = .ok (.invokestatic 55, 3) := by decide +kernel
theorem dX2_barred_77 : decode cX2_barred 77 = .ok (.ior, 1) := by decide +kernel
theorem dX2_barred_78 : decode cX2_barred 78 = .ok (.istore 11, 2) := by decide +kernel
theorem dX2_barred_80 : decode cX2_barred 80 = .ok (.iload 10, 2) := by decide +kernel
theorem dX2_barred_82 : decode cX2_barred 82 = .ok (.iload 5, 2) := by decide +kernel
theorem dX2_barred_84 : decode cX2_barred 84 = .ok (.if_icmp .ne 13, 3) := by decide +kernel
theorem dX2_barred_87 : decode cX2_barred 87 = .ok (.iload 11, 2) := by decide +kernel
theorem dX2_barred_89 : decode cX2_barred 89 = .ok (.iload 6, 2) := by decide +kernel
theorem dX2_barred_91 : decode cX2_barred 91 = .ok (.if_icmp .ne 6, 3) := by decide +kernel
theorem dX2_barred_94 : decode cX2_barred 94 = .ok (.goto 17, 3) := by decide +kernel
theorem dX2_barred_111 : decode cX2_barred 111 = .ok (.iload 5, 2) := by decide +kernel
theorem dX2_barred_113 : decode cX2_barred 113 = .ok (.iload 6, 2) := by decide +kernel
theorem dX2_barred_115 : decode cX2_barred 115 = .ok (.ior, 1) := by decide +kernel
theorem dX2_barred_116 : decode cX2_barred 116 = .ok (.iload_n 2, 1) := by decide +kernel
theorem dX2_barred_117 : decode cX2_barred 117 = .ok (.iand, 1) := by decide +kernel
theorem dX2_barred_118 : decode cX2_barred 118 = .ok (.ifCond .ne 7, 3) := by decide +kernel
theorem dX2_barred_121 : decode cX2_barred 121 = .ok (.iconst 1, 1) := by decide +kernel
theorem dX2_barred_122 : decode cX2_barred 122 = .ok (.goto 4, 3) := by decide +kernel
theorem dX2_barred_126 : decode cX2_barred 126 = .ok (.ireturn, 1) := by decide +kernel
set_option maxRecDepth 20000 in
theorem ggX2_spread_X2_gather : GoodIn wsX2_spread wsX2_gather := goodIn_r _ [4, 5, 6, 7] (by decide +kernel) (by decide +kernel)
set_option maxRecDepth 20000 in
theorem gX2_spread_X2_gather : GoodIn wsX2_spread (va_wsS RX2 55 yX2_gather wsX2_gather) := goodIn_app (goodIn_of _ (by decide +kernel)) ggX2_spread_X2_gather
theorem dX2_spread_0 : decode cX2_spread 0 = .ok (.iload_n 1, 1) := by decide +kernel
theorem dX2_spread_1 : decode cX2_spread 1 = .ok (.istore_n 3, 1) := by decide +kernel
theorem dX2_spread_2 : decode cX2_spread 2 = .ok (.iconst 0, 1) := by decide +kernel
theorem dX2_spread_3 : decode cX2_spread 3 = .ok (.istore 4, 2) := by decide +kernel
theorem dX2_spread_5 : decode cX2_spread 5 = .ok (.iload 4, 2) := by decide +kernel
theorem dX2_spread_7 : decode cX2_spread 7 = .ok (.bipush 8, 2) := by decide +kernel
theorem dX2_spread_9 : decode cX2_spread 9 = .ok (.if_icmp .ge 30, 3) := by decide +kernel
theorem dX2_spread_12 : decode cX2_spread 12 = .ok (.iload_n 3, 1) := by decide +kernel
theorem dX2_spread_13 : decode cX2_spread 13 = .ok (.iload_n 3, 1) := by decide +kernel
theorem dX2_spread_14 : decode cX2_spread 14 = .ok (.aload_n 2, 1) := by decide +kernel
theorem dX2_spread_15 : decode cX2_spread 15 = .ok (.invokestatic 55, 3) := by decide +kernel
theorem dX2_spread_18 : decode cX2_spread 18 = .ok (.ior, 1) := by decide +kernel
theorem dX2_spread_19 : decode cX2_spread 19 = .ok (.istore 5, 2) := by decide +kernel
theorem dX2_spread_21 : decode cX2_spread 21 = .ok (.iload 5, 2) := by decide +kernel
theorem dX2_spread_23 : decode cX2_spread 23 = .ok (.iload_n 3, 1) := by decide +kernel
theorem dX2_spread_24 : decode cX2_spread 24 = .ok (.if_icmp .ne 6, 3) := by decide +kernel
theorem dX2_spread_27 : decode cX2_spread 27 = .ok (.goto 12, 3) := by decide +kernel
theorem dX2_spread_39 : decode cX2_spread 39 = .ok (.iload_n 3, 1) := by decide +kernel
theorem dX2_spread_40 : decode cX2_spread 40 = .ok (.ireturn, 1) := by decide +kernel
set_option maxRecDepth 20000 in
theorem ggX2_gather_X7_inHeap : GoodIn wsX2_gather wsX7_inHeap := goodIn_r _ [3] (by decide +kernel) (by decide +kernel)
set_option maxRecDepth 20000 in
theorem gX2_gather_X7_inHeap_n26 : GoodIn wsX2_gather (wsX7_inHeap) := ggX2_gather_X7_inHeap
theorem dX2_gather_0 : decode cX2_gather 0 = .ok (.iconst 0, 1) := by decide +kernel
theorem dX2_gather_1 : decode cX2_gather 1 = .ok (.istore_n 2, 1) := by decide +kernel
theorem dX2_gather_2 : decode cX2_gather 2 = .ok (.iconst 0, 1) := by decide +kernel
theorem dX2_gather_3 : decode cX2_gather 3 = .ok (.istore_n 3, 1) := by decide +kernel
theorem dX2_gather_4 : decode cX2_gather 4 = .ok (.iload_n 3, 1) := by decide +kernel
theorem dX2_gather_5 : decode cX2_gather 5 = .ok (.aload_n 1, 1) := by decide +kernel
theorem dX2_gather_6 : decode cX2_gather 6 = .ok (.arraylength, 1) := by decide +kernel
theorem dX2_gather_7 : decode cX2_gather 7 = .ok (.if_icmp .ge 23, 3) := by decide +kernel
theorem dX2_gather_10 : decode cX2_gather 10 = .ok (.iload_n 0, 1) := by decide +kernel
theorem dX2_gather_11 : decode cX2_gather 11 = .ok (.iload_n 3, 1) := by decide +kernel
theorem dX2_gather_12 : decode cX2_gather 12 = .ok (.invokestatic 26, 3) := by decide +kernel
theorem dX2_gather_15 : decode cX2_gather 15 = .ok (.ifCond .eq 9, 3) := by decide +kernel
theorem dX2_gather_24 : decode cX2_gather 24 = .ok (.iinc 3 1, 3) := by decide +kernel
theorem dX2_gather_27 : decode cX2_gather 27 = .ok (.goto (-23), 3) := by decide +kernel
theorem dX2_gather_30 : decode cX2_gather 30 = .ok (.iload_n 2, 1) := by decide +kernel
theorem dX2_gather_31 : decode cX2_gather 31 = .ok (.ireturn, 1) := by decide +kernel
theorem dX3_init_0 : decode cX3_init 0 = .ok (.aload_n 0, 1) := by decide +kernel
theorem dX3_init_1 : decode cX3_init 1 = .ok (.invokespecial 3, 3) := by decide +kernel
theorem dX3_init_4 : decode cX3_init 4 = .ok (.aload_n 0, 1) := by decide +kernel
theorem dX3_init_5 : decode cX3_init 5 = .ok (.bipush 64, 2) := by decide +kernel
theorem dX3_init_7 : decode cX3_init 7 = .ok (.newarray .int, 2) := by decide +kernel
theorem dX3_init_9 : decode cX3_init 9 = .ok (.putfield 9, 3) := by decide +kernel
theorem dX3_init_12 : decode cX3_init 12 = .ok (.aload_n 0, 1) := by decide +kernel
theorem dX3_init_13 : decode cX3_init 13 = .ok (.iconst 0, 1) := by decide +kernel
theorem dX3_init_14 : decode cX3_init 14 = .ok (.putfield 15, 3) := by decide +kernel
theorem dX3_init_17 : decode cX3_init 17 = .ok (.return_, 1) := by decide +kernel
theorem dX4_init_0 : decode cX4_init 0 = .ok (.aload_n 0, 1) := by decide +kernel
theorem dX4_init_1 : decode cX4_init 1 = .ok (.invokespecial 3, 3) := by decide +kernel
theorem dX4_init_4 : decode cX4_init 4 = .ok (.aload_n 0, 1) := by decide +kernel
theorem dX4_init_5 : decode cX4_init 5 = .ok (.sipush 256, 3) := by decide +kernel
theorem dX4_init_8 : decode cX4_init 8 = .ok (.newarray .int, 2) := by decide +kernel
theorem dX4_init_10 : decode cX4_init 10 = .ok (.putfield 9, 3) := by decide +kernel
theorem dX4_init_13 : decode cX4_init 13 = .ok (.return_, 1) := by decide +kernel
set_option maxRecDepth 20000 in
theorem ggX4_reckon_X2_everything : GoodIn wsX4_reckon wsX2_everything := goodIn_r _ [6, 7, 65, 66, 67] (by decide +kernel) (by decide +kernel)
set_option maxRecDepth 20000 in
theorem gX4_reckon_X2_everything : GoodIn wsX4_reckon (wsV RX4 15 RX2 yX2_everything wsX2_everything) := goodIn_app (goodIn_of _ (by decide +kernel)) ggX4_reckon_X2_everything
theorem dX4_reckon_0 : decode cX4_reckon 0 = .ok (.aload_n 1, 1) := by decide +kernel
theorem dX4_reckon_1 : decode cX4_reckon 1 = .ok (.invokevirtual 15, 3) := by decide +kernel
theorem dX4_reckon_4 : decode cX4_reckon 4 = .ok (.sipush 255, 3) := by decide +kernel
theorem dX4_reckon_7 : decode cX4_reckon 7 = .ok (.iand, 1) := by decide +kernel
theorem dX4_reckon_8 : decode cX4_reckon 8 = .ok (.istore 4, 2) := by decide +kernel
theorem dX4_reckon_10 : decode cX4_reckon 10 = .ok (.aload_n 0, 1) := by decide +kernel
theorem dX4_reckon_11 : decode cX4_reckon 11 = .ok (.getfield 9, 3) := by decide +kernel
theorem dX4_reckon_14 : decode cX4_reckon 14 = .ok (.iconst 0, 1) := by decide +kernel
theorem dX4_reckon_15 : decode cX4_reckon 15 = .ok (.iconst 1, 1) := by decide +kernel
theorem dX4_reckon_16 : decode cX4_reckon 16 = .ok (.iastore, 1) := by decide +kernel
theorem dX4_reckon_17 : decode cX4_reckon 17 = .ok (.iconst 1, 1) := by decide +kernel
theorem dX4_reckon_18 : decode cX4_reckon 18 = .ok (.istore 5, 2) := by decide +kernel
theorem dX4_reckon_20 : decode cX4_reckon 20 = .ok (.iload 5, 2) := by decide +kernel
theorem dX4_reckon_22 : decode cX4_reckon 22 = .ok (.iload 4, 2) := by decide +kernel
theorem dX4_reckon_24 : decode cX4_reckon 24 = .ok (.if_icmp .gt 58, 3) := by decide +kernel
theorem dX4_reckon_82 : decode cX4_reckon 82 = .ok (.aload_n 0, 1) := by decide +kernel
theorem dX4_reckon_83 : decode cX4_reckon 83 = .ok (.getfield 9, 3) := by decide +kernel
theorem dX4_reckon_86 : decode cX4_reckon 86 = .ok (.iload 4, 2) := by decide +kernel
theorem dX4_reckon_88 : decode cX4_reckon 88 = .ok (.iaload, 1) := by decide +kernel
theorem dX4_reckon_89 : decode cX4_reckon 89 = .ok (.ireturn, 1) := by decide +kernel
set_option maxRecDepth 20000 in
theorem ggX5_init_X0_init : GoodIn wsX5_init wsX0_init := goodIn_r _ [11, 12, 2, 3, 13, 14, 15, 16, 17] (by decide +kernel) (by decide +kernel)
set_option maxRecDepth 20000 in
theorem gX5_init_X0_init_n9 : GoodIn wsX5_init (wsX0_init) := ggX5_init_X0_init
theorem dX5_init_0 : decode cX5_init 0 = .ok (.aload_n 0, 1) := by decide +kernel
theorem dX5_init_1 : decode cX5_init 1 = .ok (.invokespecial 1, 3) := by decide +kernel
theorem dX5_init_4 : decode cX5_init 4 = .ok (.aload_n 0, 1) := by decide +kernel
theorem dX5_init_5 : decode cX5_init 5 = .ok (.new 7, 3) := by decide +kernel
theorem dX5_init_8 : decode cX5_init 8 = .ok (.dup, 1) := by decide +kernel
theorem dX5_init_9 : decode cX5_init 9 = .ok (.invokespecial 9, 3) := by decide +kernel
theorem dX5_init_12 : decode cX5_init 12 = .ok (.putfield 10, 3) := by decide +kernel
theorem dX5_init_15 : decode cX5_init 15 = .ok (.aload_n 0, 1) := by decide +kernel
theorem dX5_init_16 : decode cX5_init 16 = .ok (.new 7, 3) := by decide +kernel
theorem dX5_init_19 : decode cX5_init 19 = .ok (.dup, 1) := by decide +kernel
theorem dX5_init_20 : decode cX5_init 20 = .ok (.invokespecial 9, 3) := by decide +kernel
theorem dX5_init_23 : decode cX5_init 23 = .ok (.putfield 16, 3) := by decide +kernel
theorem dX5_init_26 : decode cX5_init 26 = .ok (.aload_n 0, 1) := by decide +kernel
theorem dX5_init_27 : decode cX5_init 27 = .ok (.new 7, 3) := by decide +kernel
theorem dX5_init_30 : decode cX5_init 30 = .ok (.dup, 1) := by decide +kernel
theorem dX5_init_31 : decode cX5_init 31 = .ok (.invokespecial 9, 3) := by decide +kernel
theorem dX5_init_34 : decode cX5_init 34 = .ok (.putfield 19, 3) := by decide +kernel
theorem dX5_init_37 : decode cX5_init 37 = .ok (.return_, 1) := by decide +kernel
theorem dX6_init_0 : decode cX6_init 0 = .ok (.aload_n 0, 1) := by decide +kernel
theorem dX6_init_1 : decode cX6_init 1 = .ok (.invokespecial 3, 3) := by decide +kernel
theorem dX6_init_4 : decode cX6_init 4 = .ok (.aload_n 0, 1) := by decide +kernel
theorem dX6_init_5 : decode cX6_init 5 = .ok (.sipush 256, 3) := by decide +kernel
theorem dX6_init_8 : decode cX6_init 8 = .ok (.newarray .long, 2) := by decide +kernel
theorem dX6_init_10 : decode cX6_init 10 = .ok (.putfield 9, 3) := by decide +kernel
theorem dX6_init_13 : decode cX6_init 13 = .ok (.aload_n 0, 1) := by decide +kernel
theorem dX6_init_14 : decode cX6_init 14 = .ok (.iconst 0, 1) := by decide +kernel
theorem dX6_init_15 : decode cX6_init 15 = .ok (.putfield 15, 3) := by decide +kernel
theorem dX6_init_18 : decode cX6_init 18 = .ok (.return_, 1) := by decide +kernel
set_option maxRecDepth 20000 in
theorem ggX6_weigh_X2_everything : GoodIn wsX6_weigh wsX2_everything := goodIn_r _ [7, 8, 69, 70, 71] (by decide +kernel) (by decide +kernel)
set_option maxRecDepth 20000 in
theorem gX6_weigh_X2_everything : GoodIn wsX6_weigh (wsV RX6 19 RX2 yX2_everything wsX2_everything) := goodIn_app (goodIn_of _ (by decide +kernel)) ggX6_weigh_X2_everything
set_option maxRecDepth 20000 in
theorem ggX6_weigh_X2_size : GoodIn wsX6_weigh wsX2_size := goodIn_r _ [12, 8, 69, 70, 71] (by decide +kernel) (by decide +kernel)
set_option maxRecDepth 20000 in
theorem gX6_weigh_X2_size : GoodIn wsX6_weigh (wsV RX6 24 RX2 yX2_size wsX2_size) := goodIn_app (goodIn_of _ (by decide +kernel)) ggX6_weigh_X2_size
theorem dX6_weigh_0 : decode cX6_weigh 0 = .ok (.aload_n 0, 1) := by decide +kernel
theorem dX6_weigh_1 : decode cX6_weigh 1 = .ok (.aload_n 1, 1) := by decide +kernel
theorem dX6_weigh_2 : decode cX6_weigh 2 = .ok (.invokevirtual 19, 3) := by decide +kernel
theorem dX6_weigh_5 : decode cX6_weigh 5 = .ok (.putfield 15, 3) := by decide +kernel
theorem dX6_weigh_8 : decode cX6_weigh 8 = .ok (.aload_n 0, 1) := by decide +kernel
theorem dX6_weigh_9 : decode cX6_weigh 9 = .ok (.getfield 9, 3) := by decide +kernel
theorem dX6_weigh_12 : decode cX6_weigh 12 = .ok (.iconst 0, 1) := by decide +kernel
theorem dX6_weigh_13 : decode cX6_weigh 13 = .ok (.lconst 1, 1) := by decide +kernel
theorem dX6_weigh_14 : decode cX6_weigh 14 = .ok (.lastore, 1) := by decide +kernel
theorem dX6_weigh_15 : decode cX6_weigh 15 = .ok (.iconst 0, 1) := by decide +kernel
theorem dX6_weigh_16 : decode cX6_weigh 16 = .ok (.istore 4, 2) := by decide +kernel
theorem dX6_weigh_18 : decode cX6_weigh 18 = .ok (.iconst 0, 1) := by decide +kernel
theorem dX6_weigh_19 : decode cX6_weigh 19 = .ok (.istore 5, 2) := by decide +kernel
theorem dX6_weigh_21 : decode cX6_weigh 21 = .ok (.iload 5, 2) := by decide +kernel
theorem dX6_weigh_23 : decode cX6_weigh 23 = .ok (.aload_n 1, 1) := by decide +kernel
theorem dX6_weigh_24 : decode cX6_weigh 24 = .ok (.invokevirtual 24, 3) := by decide +kernel
theorem dX6_weigh_27 : decode cX6_weigh 27 = .ok (.if_icmp .ge 92, 3) := by decide +kernel
theorem dX6_weigh_119 : decode cX6_weigh 119 = .ok (.return_, 1) := by decide +kernel
set_option maxRecDepth 20000 in
theorem ggX6_having_X7_partsOf : GoodIn wsX6_having wsX7_partsOf := goodIn_r _ [5, 6, 7, 8, 9, 10, 11, 12] (by decide +kernel) (by decide +kernel)
set_option maxRecDepth 20000 in
theorem gX6_having_X7_partsOf_n31 : GoodIn wsX6_having (wsX7_partsOf) := ggX6_having_X7_partsOf
set_option maxRecDepth 20000 in
theorem ggX6_having_X7_nextPart : GoodIn wsX6_having wsX7_nextPart := goodIn_r _ [14] (by decide +kernel) (by decide +kernel)
set_option maxRecDepth 20000 in
theorem gX6_having_X7_nextPart_n47 : GoodIn wsX6_having (wsX7_nextPart) := ggX6_having_X7_nextPart
theorem dX6_having_0 : decode cX6_having 0 = .ok (.aload_n 0, 1) := by decide +kernel
theorem dX6_having_1 : decode cX6_having 1 = .ok (.getfield 15, 3) := by decide +kernel
theorem dX6_having_4 : decode cX6_having 4 = .ok (.iload_n 1, 1) := by decide +kernel
theorem dX6_having_5 : decode cX6_having 5 = .ok (.iconst (-1), 1) := by decide +kernel
theorem dX6_having_6 : decode cX6_having 6 = .ok (.ixor, 1) := by decide +kernel
theorem dX6_having_7 : decode cX6_having 7 = .ok (.iand, 1) := by decide +kernel
theorem dX6_having_8 : decode cX6_having 8 = .ok (.istore_n 3, 1) := by decide +kernel
theorem dX6_having_9 : decode cX6_having 9 = .ok (.iload_n 3, 1) := by decide +kernel
theorem dX6_having_10 : decode cX6_having 10 = .ok (.invokestatic 31, 3) := by decide +kernel
theorem dX6_having_13 : decode cX6_having 13 = .ok (.istore 4, 2) := by decide +kernel
theorem dX6_having_15 : decode cX6_having 15 = .ok (.lconst 0, 1) := by decide +kernel
theorem dX6_having_16 : decode cX6_having 16 = .ok (.lstore 5, 2) := by decide +kernel
theorem dX6_having_18 : decode cX6_having 18 = .ok (.iconst 0, 1) := by decide +kernel
theorem dX6_having_19 : decode cX6_having 19 = .ok (.istore 7, 2) := by decide +kernel
theorem dX6_having_21 : decode cX6_having 21 = .ok (.iconst 0, 1) := by decide +kernel
theorem dX6_having_22 : decode cX6_having 22 = .ok (.istore 8, 2) := by decide +kernel
theorem dX6_having_24 : decode cX6_having 24 = .ok (.iload 7, 2) := by decide +kernel
theorem dX6_having_26 : decode cX6_having 26 = .ok (.iload 4, 2) := by decide +kernel
theorem dX6_having_28 : decode cX6_having 28 = .ok (.if_icmp .ge 35, 3) := by decide +kernel
theorem dX6_having_31 : decode cX6_having 31 = .ok (.lload 5, 2) := by decide +kernel
theorem dX6_having_33 : decode cX6_having 33 = .ok (.aload_n 0, 1) := by decide +kernel
theorem dX6_having_34 : decode cX6_having 34 = .ok (.getfield 9, 3) := by decide +kernel
theorem dX6_having_37 : decode cX6_having 37 = .ok (.iload_n 2, 1) := by decide +kernel
theorem dX6_having_38 : decode cX6_having 38 = .ok (.iload 8, 2) := by decide +kernel
theorem dX6_having_40 : decode cX6_having 40 = .ok (.ior, 1) := by decide +kernel
theorem dX6_having_41 : decode cX6_having 41 = .ok (.sipush 255, 3) := by decide +kernel
theorem dX6_having_44 : decode cX6_having 44 = .ok (.iand, 1) := by decide +kernel
theorem dX6_having_45 : decode cX6_having 45 = .ok (.laload, 1) := by decide +kernel
theorem dX6_having_46 : decode cX6_having 46 = .ok (.ladd, 1) := by decide +kernel
theorem dX6_having_47 : decode cX6_having 47 = .ok (.lstore 5, 2) := by decide +kernel
theorem dX6_having_49 : decode cX6_having 49 = .ok (.iinc 7 1, 3) := by decide +kernel
theorem dX6_having_52 : decode cX6_having 52 = .ok (.iload 8, 2) := by decide +kernel
theorem dX6_having_54 : decode cX6_having 54 = .ok (.iload_n 3, 1) := by decide +kernel
theorem dX6_having_55 : decode cX6_having 55 = .ok (.invokestatic 47, 3) := by decide +kernel
theorem dX6_having_58 : decode cX6_having 58 = .ok (.istore 8, 2) := by decide +kernel
theorem dX6_having_60 : decode cX6_having 60 = .ok (.goto (-36), 3) := by decide +kernel
theorem dX6_having_63 : decode cX6_having 63 = .ok (.lload 5, 2) := by decide +kernel
theorem dX6_having_65 : decode cX6_having 65 = .ok (.lreturn, 1) := by decide +kernel
set_option maxRecDepth 20000 in
theorem ggX7_init_X2_init : GoodIn wsX7_init wsX2_init := goodIn_r _ [33, 34, 2, 3, 35, 36, 37, 38, 72, 73, 74] (by decide +kernel) (by decide +kernel)
set_option maxRecDepth 20000 in
theorem gX7_init_X2_init_n11 : GoodIn wsX7_init (wsX2_init) := ggX7_init_X2_init
set_option maxRecDepth 20000 in
theorem ggX7_init_X1_init : GoodIn wsX7_init wsX1_init := goodIn_r _ [40, 41, 2, 3, 35, 42, 85] (by decide +kernel) (by decide +kernel)
set_option maxRecDepth 20000 in
theorem gX7_init_X1_init_n21 : GoodIn wsX7_init (wsX1_init) := ggX7_init_X1_init
set_option maxRecDepth 20000 in
theorem ggX7_init_X6_init : GoodIn wsX7_init wsX6_init := goodIn_r _ [44, 45, 2, 3, 46, 47, 48, 86, 87] (by decide +kernel) (by decide +kernel)
set_option maxRecDepth 20000 in
theorem gX7_init_X6_init_n28 : GoodIn wsX7_init (wsX6_init) := ggX7_init_X6_init
set_option maxRecDepth 20000 in
theorem ggX7_init_X5_init : GoodIn wsX7_init wsX5_init := goodIn_r _ [50, 51, 2, 3, 52, 53, 54, 55, 56, 57, 58, 59, 60, 46, 61, 62, 94, 95, 88, 89, 90] (by decide +kernel) (by decide +kernel)
set_option maxRecDepth 20000 in
theorem gX7_init_X5_init_n35 : GoodIn wsX7_init (wsX5_init) := ggX7_init_X5_init
set_option maxRecDepth 20000 in
theorem ggX7_init_X3_init : GoodIn wsX7_init wsX3_init := goodIn_r _ [64, 65, 2, 3, 35, 66, 67, 91, 92] (by decide +kernel) (by decide +kernel)
set_option maxRecDepth 20000 in
theorem gX7_init_X3_init_n42 : GoodIn wsX7_init (wsX3_init) := ggX7_init_X3_init
set_option maxRecDepth 20000 in
theorem ggX7_init_X4_init : GoodIn wsX7_init wsX4_init := goodIn_r _ [69, 70, 2, 3, 35, 71, 93] (by decide +kernel) (by decide +kernel)
set_option maxRecDepth 20000 in
theorem gX7_init_X4_init_n49 : GoodIn wsX7_init (wsX4_init) := ggX7_init_X4_init
theorem dX7_init_0 : decode cX7_init 0 = .ok (.aload_n 0, 1) := by decide +kernel
theorem dX7_init_1 : decode cX7_init 1 = .ok (.invokespecial 3, 3) := by decide +kernel
theorem dX7_init_4 : decode cX7_init 4 = .ok (.aload_n 0, 1) := by decide +kernel
theorem dX7_init_5 : decode cX7_init 5 = .ok (.new 9, 3) := by decide +kernel
theorem dX7_init_8 : decode cX7_init 8 = .ok (.dup, 1) := by decide +kernel
theorem dX7_init_9 : decode cX7_init 9 = .ok (.invokespecial 11, 3) := by decide +kernel
theorem dX7_init_12 : decode cX7_init 12 = .ok (.putfield 12, 3) := by decide +kernel
theorem dX7_init_15 : decode cX7_init 15 = .ok (.aload_n 0, 1) := by decide +kernel
theorem dX7_init_16 : decode cX7_init 16 = .ok (.new 9, 3) := by decide +kernel
theorem dX7_init_19 : decode cX7_init 19 = .ok (.dup, 1) := by decide +kernel
theorem dX7_init_20 : decode cX7_init 20 = .ok (.invokespecial 11, 3) := by decide +kernel
theorem dX7_init_23 : decode cX7_init 23 = .ok (.putfield 16, 3) := by decide +kernel
theorem dX7_init_26 : decode cX7_init 26 = .ok (.aload_n 0, 1) := by decide +kernel
theorem dX7_init_27 : decode cX7_init 27 = .ok (.new 19, 3) := by decide +kernel
theorem dX7_init_30 : decode cX7_init 30 = .ok (.dup, 1) := by decide +kernel
theorem dX7_init_31 : decode cX7_init 31 = .ok (.invokespecial 21, 3) := by decide +kernel
theorem dX7_init_34 : decode cX7_init 34 = .ok (.putfield 22, 3) := by decide +kernel
theorem dX7_init_37 : decode cX7_init 37 = .ok (.aload_n 0, 1) := by decide +kernel
theorem dX7_init_38 : decode cX7_init 38 = .ok (.new 26, 3) := by decide +kernel
theorem dX7_init_41 : decode cX7_init 41 = .ok (.dup, 1) := by decide +kernel
theorem dX7_init_42 : decode cX7_init 42 = .ok (.invokespecial 28, 3) := by decide +kernel
theorem dX7_init_45 : decode cX7_init 45 = .ok (.putfield 29, 3) := by decide +kernel
theorem dX7_init_48 : decode cX7_init 48 = .ok (.aload_n 0, 1) := by decide +kernel
theorem dX7_init_49 : decode cX7_init 49 = .ok (.new 33, 3) := by decide +kernel
theorem dX7_init_52 : decode cX7_init 52 = .ok (.dup, 1) := by decide +kernel
theorem dX7_init_53 : decode cX7_init 53 = .ok (.invokespecial 35, 3) := by decide +kernel
theorem dX7_init_56 : decode cX7_init 56 = .ok (.putfield 36, 3) := by decide +kernel
theorem dX7_init_59 : decode cX7_init 59 = .ok (.aload_n 0, 1) := by decide +kernel
theorem dX7_init_60 : decode cX7_init 60 = .ok (.new 40, 3) := by decide +kernel
theorem dX7_init_63 : decode cX7_init 63 = .ok (.dup, 1) := by decide +kernel
theorem dX7_init_64 : decode cX7_init 64 = .ok (.invokespecial 42, 3) := by decide +kernel
theorem dX7_init_67 : decode cX7_init 67 = .ok (.putfield 43, 3) := by decide +kernel
theorem dX7_init_70 : decode cX7_init 70 = .ok (.aload_n 0, 1) := by decide +kernel
theorem dX7_init_71 : decode cX7_init 71 = .ok (.new 47, 3) := by decide +kernel
theorem dX7_init_74 : decode cX7_init 74 = .ok (.dup, 1) := by decide +kernel
theorem dX7_init_75 : decode cX7_init 75 = .ok (.invokespecial 49, 3) := by decide +kernel
theorem dX7_init_78 : decode cX7_init 78 = .ok (.putfield 50, 3) := by decide +kernel
theorem dX7_init_81 : decode cX7_init 81 = .ok (.aload_n 0, 1) := by decide +kernel
theorem dX7_init_82 : decode cX7_init 82 = .ok (.iconst 0, 1) := by decide +kernel
theorem dX7_init_83 : decode cX7_init 83 = .ok (.putfield 54, 3) := by decide +kernel
theorem dX7_init_86 : decode cX7_init 86 = .ok (.aload_n 0, 1) := by decide +kernel
theorem dX7_init_87 : decode cX7_init 87 = .ok (.lconst 0, 1) := by decide +kernel
theorem dX7_init_88 : decode cX7_init 88 = .ok (.putfield 58, 3) := by decide +kernel
theorem dX7_init_91 : decode cX7_init 91 = .ok (.aload_n 0, 1) := by decide +kernel
theorem dX7_init_92 : decode cX7_init 92 = .ok (.lconst 1, 1) := by decide +kernel
theorem dX7_init_93 : decode cX7_init 93 = .ok (.putfield 62, 3) := by decide +kernel
theorem dX7_init_96 : decode cX7_init 96 = .ok (.return_, 1) := by decide +kernel
set_option maxRecDepth 20000 in
theorem ggX7_thing_X2_grow : GoodIn wsX7_thing wsX2_grow := goodIn_r _ [8, 9, 30, 31, 32] (by decide +kernel) (by decide +kernel)
set_option maxRecDepth 20000 in
theorem gX7_thing_X2_grow : GoodIn wsX7_thing (wsV RX7 65 RX2 yX2_grow wsX2_grow) := goodIn_app (goodIn_of _ (by decide +kernel)) ggX7_thing_X2_grow
set_option maxRecDepth 20000 in
theorem ggX7_thing_X1_blank : GoodIn wsX7_thing wsX1_blank := goodIn_r _ [14, 15, 33] (by decide +kernel) (by decide +kernel)
set_option maxRecDepth 20000 in
theorem gX7_thing_X1_blank : GoodIn wsX7_thing (wsV RX7 69 RX1 yX1_blank wsX1_blank) := goodIn_app (goodIn_of _ (by decide +kernel)) ggX7_thing_X1_blank
set_option maxRecDepth 20000 in
theorem ggX7_thing_X7_bit : GoodIn wsX7_thing wsX7_bit := goodIn_r _ [19] (by decide +kernel) (by decide +kernel)
set_option maxRecDepth 20000 in
theorem gX7_thing_X7_bit : GoodIn wsX7_thing (va_wsS RX7 73 yX7_bit wsX7_bit) := goodIn_app (goodIn_of _ (by decide +kernel)) ggX7_thing_X7_bit
theorem dX7_thing_0 : decode cX7_thing 0 = .ok (.aload_n 0, 1) := by decide +kernel
theorem dX7_thing_1 : decode cX7_thing 1 = .ok (.getfield 12, 3) := by decide +kernel
theorem dX7_thing_4 : decode cX7_thing 4 = .ok (.invokevirtual 65, 3) := by decide +kernel
theorem dX7_thing_7 : decode cX7_thing 7 = .ok (.istore_n 2, 1) := by decide +kernel
theorem dX7_thing_8 : decode cX7_thing 8 = .ok (.iload_n 2, 1) := by decide +kernel
theorem dX7_thing_9 : decode cX7_thing 9 = .ok (.iconst (-1), 1) := by decide +kernel
theorem dX7_thing_10 : decode cX7_thing 10 = .ok (.if_icmp .ne 5, 3) := by decide +kernel
theorem dX7_thing_15 : decode cX7_thing 15 = .ok (.aload_n 0, 1) := by decide +kernel
theorem dX7_thing_16 : decode cX7_thing 16 = .ok (.getfield 22, 3) := by decide +kernel
theorem dX7_thing_19 : decode cX7_thing 19 = .ok (.iload_n 2, 1) := by decide +kernel
theorem dX7_thing_20 : decode cX7_thing 20 = .ok (.invokevirtual 69, 3) := by decide +kernel
theorem dX7_thing_23 : decode cX7_thing 23 = .ok (.iload_n 1, 1) := by decide +kernel
theorem dX7_thing_24 : decode cX7_thing 24 = .ok (.ifCond .eq 16, 3) := by decide +kernel
theorem dX7_thing_27 : decode cX7_thing 27 = .ok (.aload_n 0, 1) := by decide +kernel
theorem dX7_thing_28 : decode cX7_thing 28 = .ok (.dup, 1) := by decide +kernel
theorem dX7_thing_29 : decode cX7_thing 29 = .ok (.getfield 54, 3) := by decide +kernel
theorem dX7_thing_32 : decode cX7_thing 32 = .ok (.iload_n 2, 1) := by decide +kernel
theorem dX7_thing_33 : decode cX7_thing 33 = .ok (.invokestatic 73, 3) := by decide +kernel
theorem dX7_thing_36 : decode cX7_thing 36 = .ok (.ior, 1) := by decide +kernel
theorem dX7_thing_37 : decode cX7_thing 37 = .ok (.putfield 54, 3) := by decide +kernel
theorem dX7_thing_40 : decode cX7_thing 40 = .ok (.iload_n 2, 1) := by decide +kernel
theorem dX7_thing_41 : decode cX7_thing 41 = .ok (.ireturn, 1) := by decide +kernel
set_option maxRecDepth 20000 in
theorem ggX7_arrow_X2_has : GoodIn wsX7_arrow wsX2_has := goodIn_r _ [7, 8, 64, 65, 66] (by decide +kernel) (by decide +kernel)
set_option maxRecDepth 20000 in
theorem gX7_arrow_X2_has : GoodIn wsX7_arrow (wsV RX7 77 RX2 yX2_has wsX2_has) := goodIn_app (goodIn_of _ (by decide +kernel)) ggX7_arrow_X2_has
theorem dX7_arrow_0 : decode cX7_arrow 0 = .ok (.aload_n 0, 1) := by decide +kernel
theorem dX7_arrow_1 : decode cX7_arrow 1 = .ok (.getfield 12, 3) := by decide +kernel
theorem dX7_arrow_4 : decode cX7_arrow 4 = .ok (.iload_n 1, 1) := by decide +kernel
theorem dX7_arrow_5 : decode cX7_arrow 5 = .ok (.invokevirtual 77, 3) := by decide +kernel
theorem dX7_arrow_8 : decode cX7_arrow 8 = .ok (.ifCond .eq 26, 3) := by decide +kernel
theorem dX7_arrow_34 : decode cX7_arrow 34 = .ok (.iconst 0, 1) := by decide +kernel
theorem dX7_arrow_35 : decode cX7_arrow 35 = .ok (.ireturn, 1) := by decide +kernel
set_option maxRecDepth 20000 in
theorem ggX7_cut_X2_leads : GoodIn wsX7_cut wsX2_leads := goodIn_r _ [7, 8, 9, 10, 11, 6, 12, 13, 14, 15, 16, 40, 41, 42] (by decide +kernel) (by decide +kernel)
set_option maxRecDepth 20000 in
theorem gX7_cut_X2_leads : GoodIn wsX7_cut (wsV RX7 89 RX2 yX2_leads wsX2_leads) := goodIn_app (goodIn_of _ (by decide +kernel)) ggX7_cut_X2_leads
theorem dX7_cut_0 : decode cX7_cut 0 = .ok (.aload_n 0, 1) := by decide +kernel
theorem dX7_cut_1 : decode cX7_cut 1 = .ok (.getfield 12, 3) := by decide +kernel
theorem dX7_cut_4 : decode cX7_cut 4 = .ok (.iload_n 1, 1) := by decide +kernel
theorem dX7_cut_5 : decode cX7_cut 5 = .ok (.iload_n 2, 1) := by decide +kernel
theorem dX7_cut_6 : decode cX7_cut 6 = .ok (.invokevirtual 89, 3) := by decide +kernel
theorem dX7_cut_9 : decode cX7_cut 9 = .ok (.ifCond .ne 5, 3) := by decide +kernel
theorem dX7_cut_12 : decode cX7_cut 12 = .ok (.iconst 0, 1) := by decide +kernel
theorem dX7_cut_13 : decode cX7_cut 13 = .ok (.ireturn, 1) := by decide +kernel
set_option maxRecDepth 20000 in
theorem ggX7_turn_X2_leads : GoodIn wsX7_turn wsX2_leads := goodIn_r _ [7, 8, 9, 10, 11, 6, 12, 13, 14, 15, 16, 71, 72, 73] (by decide +kernel) (by decide +kernel)
set_option maxRecDepth 20000 in
theorem gX7_turn_X2_leads : GoodIn wsX7_turn (wsV RX7 89 RX2 yX2_leads wsX2_leads) := goodIn_app (goodIn_of _ (by decide +kernel)) ggX7_turn_X2_leads
theorem dX7_turn_0 : decode cX7_turn 0 = .ok (.aload_n 0, 1) := by decide +kernel
theorem dX7_turn_1 : decode cX7_turn 1 = .ok (.getfield 12, 3) := by decide +kernel
theorem dX7_turn_4 : decode cX7_turn 4 = .ok (.iload_n 1, 1) := by decide +kernel
theorem dX7_turn_5 : decode cX7_turn 5 = .ok (.iload_n 2, 1) := by decide +kernel
theorem dX7_turn_6 : decode cX7_turn 6 = .ok (.invokevirtual 89, 3) := by decide +kernel
theorem dX7_turn_9 : decode cX7_turn 9 = .ok (.ifCond .ne 5, 3) := by decide +kernel
theorem dX7_turn_12 : decode cX7_turn 12 = .ok (.iconst 0, 1) := by decide +kernel
theorem dX7_turn_13 : decode cX7_turn 13 = .ok (.ireturn, 1) := by decide +kernel
set_option maxRecDepth 20000 in
theorem ggX7_book_X7_hasRow : GoodIn wsX7_book wsX7_hasRow := goodIn_r _ [6, 7, 8, 9, 10, 11, 12, 13, 14, 15, 16, 17, 18, 19, 20, 21, 5, 22, 23, 24, 25, 26, 27, 28, 29, 39, 40, 41, 42, 43, 44, 45, 46, 47, 48, 49, 50, 51] (by decide +kernel) (by decide +kernel)
set_option maxRecDepth 20000 in
theorem gX7_book_X7_hasRow : GoodIn wsX7_book (wsV RX7 95 RX7 yX7_hasRow wsX7_hasRow) := goodIn_app (goodIn_of _ (by decide +kernel)) ggX7_book_X7_hasRow
theorem dX7_book_0 : decode cX7_book 0 = .ok (.aload_n 0, 1) := by decide +kernel
theorem dX7_book_1 : decode cX7_book 1 = .ok (.iload_n 1, 1) := by decide +kernel
theorem dX7_book_2 : decode cX7_book 2 = .ok (.iload_n 2, 1) := by decide +kernel
theorem dX7_book_3 : decode cX7_book 3 = .ok (.invokevirtual 95, 3) := by decide +kernel
theorem dX7_book_6 : decode cX7_book 6 = .ok (.ifCond .eq 13, 3) := by decide +kernel
theorem dX7_book_19 : decode cX7_book 19 = .ok (.iconst 0, 1) := by decide +kernel
theorem dX7_book_20 : decode cX7_book 20 = .ok (.ireturn, 1) := by decide +kernel
set_option maxRecDepth 20000 in
theorem ggX7_booked_X7_hasRow : GoodIn wsX7_booked wsX7_hasRow := goodIn_r _ [6, 7, 8, 9, 10, 11, 12, 13, 14, 15, 16, 17, 18, 19, 20, 21, 5, 22, 23, 24, 25, 26, 27, 28, 29, 39, 40, 41, 42, 43, 44, 45, 46, 47, 48, 49, 50, 51] (by decide +kernel) (by decide +kernel)
set_option maxRecDepth 20000 in
theorem gX7_booked_X7_hasRow : GoodIn wsX7_booked (wsV RX7 95 RX7 yX7_hasRow wsX7_hasRow) := goodIn_app (goodIn_of _ (by decide +kernel)) ggX7_booked_X7_hasRow
theorem dX7_booked_0 : decode cX7_booked 0 = .ok (.aload_n 0, 1) := by decide +kernel
theorem dX7_booked_1 : decode cX7_booked 1 = .ok (.iload_n 1, 1) := by decide +kernel
theorem dX7_booked_2 : decode cX7_booked 2 = .ok (.iload_n 2, 1) := by decide +kernel
theorem dX7_booked_3 : decode cX7_booked 3 = .ok (.invokevirtual 95, 3) := by decide +kernel
theorem dX7_booked_6 : decode cX7_booked 6 = .ok (.ifCond .eq 15, 3) := by decide +kernel
theorem dX7_booked_21 : decode cX7_booked 21 = .ok (.iconst (-1), 1) := by decide +kernel
theorem dX7_booked_22 : decode cX7_booked 22 = .ok (.ireturn, 1) := by decide +kernel
set_option maxRecDepth 20000 in
theorem ggX7_told_X2_has : GoodIn wsX7_told wsX2_has := goodIn_r _ [7, 8, 50, 51, 52] (by decide +kernel) (by decide +kernel)
set_option maxRecDepth 20000 in
theorem gX7_told_X2_has : GoodIn wsX7_told (wsV RX7 77 RX2 yX2_has wsX2_has) := goodIn_app (goodIn_of _ (by decide +kernel)) ggX7_told_X2_has
theorem dX7_told_0 : decode cX7_told 0 = .ok (.aload_n 0, 1) := by decide +kernel
theorem dX7_told_1 : decode cX7_told 1 = .ok (.getfield 12, 3) := by decide +kernel
theorem dX7_told_4 : decode cX7_told 4 = .ok (.iload_n 1, 1) := by decide +kernel
theorem dX7_told_5 : decode cX7_told 5 = .ok (.invokevirtual 77, 3) := by decide +kernel
theorem dX7_told_8 : decode cX7_told 8 = .ok (.ifCond .ne 5, 3) := by decide +kernel
theorem dX7_told_11 : decode cX7_told 11 = .ok (.iconst (-1), 1) := by decide +kernel
theorem dX7_told_12 : decode cX7_told 12 = .ok (.ireturn, 1) := by decide +kernel
set_option maxRecDepth 20000 in
theorem ggX7_weight_X7_isSetting : GoodIn wsX7_weight wsX7_isSetting := goodIn_r _ [9, 10, 11, 8, 12, 13, 14, 15, 16, 3, 17, 18, 19, 20, 21, 22, 23, 24, 25, 90, 91, 92, 93, 94, 95, 96, 97, 98, 99, 100, 101, 102] (by decide +kernel) (by decide +kernel)
set_option maxRecDepth 20000 in
theorem gX7_weight_X7_isSetting : GoodIn wsX7_weight (wsV RX7 118 RX7 yX7_isSetting wsX7_isSetting) := goodIn_app (goodIn_of _ (by decide +kernel)) ggX7_weight_X7_isSetting
set_option maxRecDepth 20000 in
theorem ggX7_weight_X6_weigh : GoodIn wsX7_weight wsX6_weigh := goodIn_r _ [30, 31, 32, 33, 18, 19, 20, 21, 22, 34, 35, 36, 37, 38, 39, 40, 41, 42, 43, 8, 44, 45, 46, 47, 48, 49, 50, 51, 52, 53, 54, 55, 56, 57, 58, 59, 60, 11, 12, 24, 25, 61, 62, 63, 64, 65, 66, 67, 68, 69, 70, 71, 72, 73, 74, 75, 76, 77, 78, 79, 80, 81, 82, 29, 83, 84, 85, 103, 104, 100, 101, 102, 105] (by decide +kernel) (by decide +kernel)
set_option maxRecDepth 20000 in
theorem gX7_weight_X6_weigh : GoodIn wsX7_weight (wsV RX7 123 RX6 yX6_weigh wsX6_weigh) := goodIn_app (goodIn_of _ (by decide +kernel)) ggX7_weight_X6_weigh
set_option maxRecDepth 20000 in
theorem ggX7_weight_X7_heapOf : GoodIn wsX7_weight wsX7_heapOf := goodIn_r _ [12] (by decide +kernel) (by decide +kernel)
set_option maxRecDepth 20000 in
theorem gX7_weight_X7_heapOf : GoodIn wsX7_weight (va_wsS RX7 127 yX7_heapOf wsX7_heapOf) := goodIn_app (goodIn_of _ (by decide +kernel)) ggX7_weight_X7_heapOf
set_option maxRecDepth 20000 in
theorem ggX7_weight_X7_onesOf : GoodIn wsX7_weight wsX7_onesOf := goodIn_r _ [25] (by decide +kernel) (by decide +kernel)
set_option maxRecDepth 20000 in
theorem gX7_weight_X7_onesOf : GoodIn wsX7_weight (va_wsS RX7 130 yX7_onesOf wsX7_onesOf) := goodIn_app (goodIn_of _ (by decide +kernel)) ggX7_weight_X7_onesOf
set_option maxRecDepth 20000 in
theorem ggX7_weight_X6_having : GoodIn wsX7_weight wsX6_having := goodIn_r _ [89, 31, 32, 45, 8, 46, 47, 48, 49, 50, 51, 52, 53, 84, 85, 103, 104] (by decide +kernel) (by decide +kernel)
set_option maxRecDepth 20000 in
theorem gX7_weight_X6_having : GoodIn wsX7_weight (wsV RX7 133 RX6 yX6_having wsX6_having) := goodIn_app (goodIn_of _ (by decide +kernel)) ggX7_weight_X6_having
theorem dX7_weight_0 : decode cX7_weight 0 = .ok (.aload_n 0, 1) := by decide +kernel
theorem dX7_weight_1 : decode cX7_weight 1 = .ok (.iload_n 1, 1) := by decide +kernel
theorem dX7_weight_2 : decode cX7_weight 2 = .ok (.invokevirtual 118, 3) := by decide +kernel
theorem dX7_weight_5 : decode cX7_weight 5 = .ok (.ifCond .eq 11, 3) := by decide +kernel
theorem dX7_weight_8 : decode cX7_weight 8 = .ok (.aload_n 0, 1) := by decide +kernel
theorem dX7_weight_9 : decode cX7_weight 9 = .ok (.iload_n 2, 1) := by decide +kernel
theorem dX7_weight_10 : decode cX7_weight 10 = .ok (.invokevirtual 118, 3) := by decide +kernel
theorem dX7_weight_13 : decode cX7_weight 13 = .ok (.ifCond .ne 7, 3) := by decide +kernel
theorem dX7_weight_16 : decode cX7_weight 16 = .ok (.ldc2_w 121, 3) := by decide +kernel
theorem dX7_weight_19 : decode cX7_weight 19 = .ok (.lreturn, 1) := by decide +kernel
theorem dX7_weight_20 : decode cX7_weight 20 = .ok (.aload_n 0, 1) := by decide +kernel
theorem dX7_weight_21 : decode cX7_weight 21 = .ok (.getfield 29, 3) := by decide +kernel
theorem dX7_weight_24 : decode cX7_weight 24 = .ok (.aload_n 0, 1) := by decide +kernel
theorem dX7_weight_25 : decode cX7_weight 25 = .ok (.getfield 12, 3) := by decide +kernel
theorem dX7_weight_28 : decode cX7_weight 28 = .ok (.aload_n 0, 1) := by decide +kernel
theorem dX7_weight_29 : decode cX7_weight 29 = .ok (.getfield 22, 3) := by decide +kernel
theorem dX7_weight_32 : decode cX7_weight 32 = .ok (.iload_n 2, 1) := by decide +kernel
theorem dX7_weight_33 : decode cX7_weight 33 = .ok (.invokevirtual 123, 3) := by decide +kernel
theorem dX7_weight_36 : decode cX7_weight 36 = .ok (.aload_n 0, 1) := by decide +kernel
theorem dX7_weight_37 : decode cX7_weight 37 = .ok (.getfield 29, 3) := by decide +kernel
theorem dX7_weight_40 : decode cX7_weight 40 = .ok (.iload_n 1, 1) := by decide +kernel
theorem dX7_weight_41 : decode cX7_weight 41 = .ok (.invokestatic 127, 3) := by decide +kernel
theorem dX7_weight_44 : decode cX7_weight 44 = .ok (.iload_n 1, 1) := by decide +kernel
theorem dX7_weight_45 : decode cX7_weight 45 = .ok (.invokestatic 130, 3) := by decide +kernel
theorem dX7_weight_48 : decode cX7_weight 48 = .ok (.invokevirtual 133, 3) := by decide +kernel
theorem dX7_weight_51 : decode cX7_weight 51 = .ok (.lreturn, 1) := by decide +kernel
set_option maxRecDepth 20000 in
theorem ggX7_chance_X7_isSetting : GoodIn wsX7_chance wsX7_isSetting := goodIn_r _ [10, 11, 12, 9, 13, 14, 15, 16, 17, 4, 18, 19, 20, 21, 22, 23, 24, 25, 26, 101, 102, 103, 104, 105, 106, 107, 108, 109, 110, 111, 112, 113] (by decide +kernel) (by decide +kernel)
set_option maxRecDepth 20000 in
theorem gX7_chance_X7_isSetting : GoodIn wsX7_chance (wsV RX7 118 RX7 yX7_isSetting wsX7_isSetting) := goodIn_app (goodIn_of _ (by decide +kernel)) ggX7_chance_X7_isSetting
set_option maxRecDepth 20000 in
theorem ggX7_chance_X6_weigh : GoodIn wsX7_chance wsX6_weigh := goodIn_r _ [31, 32, 33, 34, 19, 20, 21, 22, 23, 35, 36, 37, 38, 39, 40, 41, 42, 43, 44, 9, 45, 46, 47, 48, 49, 50, 51, 52, 53, 54, 55, 56, 57, 58, 59, 60, 61, 12, 13, 25, 26, 62, 63, 64, 65, 66, 67, 68, 69, 70, 71, 72, 73, 74, 75, 76, 77, 78, 79, 80, 81, 82, 83, 30, 84, 85, 86, 114, 115, 111, 112, 113, 116] (by decide +kernel) (by decide +kernel)
set_option maxRecDepth 20000 in
theorem gX7_chance_X6_weigh : GoodIn wsX7_chance (wsV RX7 123 RX6 yX6_weigh wsX6_weigh) := goodIn_app (goodIn_of _ (by decide +kernel)) ggX7_chance_X6_weigh
set_option maxRecDepth 20000 in
theorem ggX7_chance_X7_heapOf : GoodIn wsX7_chance wsX7_heapOf := goodIn_r _ [13] (by decide +kernel) (by decide +kernel)
set_option maxRecDepth 20000 in
theorem gX7_chance_X7_heapOf : GoodIn wsX7_chance (va_wsS RX7 127 yX7_heapOf wsX7_heapOf) := goodIn_app (goodIn_of _ (by decide +kernel)) ggX7_chance_X7_heapOf
set_option maxRecDepth 20000 in
theorem ggX7_chance_X7_onesOf : GoodIn wsX7_chance wsX7_onesOf := goodIn_r _ [26] (by decide +kernel) (by decide +kernel)
set_option maxRecDepth 20000 in
theorem gX7_chance_X7_onesOf : GoodIn wsX7_chance (va_wsS RX7 130 yX7_onesOf wsX7_onesOf) := goodIn_app (goodIn_of _ (by decide +kernel)) ggX7_chance_X7_onesOf
set_option maxRecDepth 20000 in
theorem ggX7_chance_X6_having : GoodIn wsX7_chance wsX6_having := goodIn_r _ [90, 32, 33, 46, 9, 47, 48, 49, 50, 51, 52, 53, 54, 85, 86, 114, 115] (by decide +kernel) (by decide +kernel)
set_option maxRecDepth 20000 in
theorem gX7_chance_X6_having : GoodIn wsX7_chance (wsV RX7 133 RX6 yX6_having wsX6_having) := goodIn_app (goodIn_of _ (by decide +kernel)) ggX7_chance_X6_having
set_option maxRecDepth 20000 in
theorem ggX7_chance_X7_clash : GoodIn wsX7_chance wsX7_clash := goodIn_r _ [93, 11, 12, 9, 13, 24, 25, 26] (by decide +kernel) (by decide +kernel)
set_option maxRecDepth 20000 in
theorem gX7_chance_X7_clash : GoodIn wsX7_chance (va_wsS RX7 137 yX7_clash wsX7_clash) := goodIn_app (goodIn_of _ (by decide +kernel)) ggX7_chance_X7_clash
set_option maxRecDepth 20000 in
theorem ggX7_chance_X7_commonDivisor : GoodIn wsX7_chance wsX7_commonDivisor := goodIn_r _ [96, 97, 98, 99, 100] (by decide +kernel) (by decide +kernel)
set_option maxRecDepth 20000 in
theorem gX7_chance_X7_commonDivisor : GoodIn wsX7_chance (va_wsS RX7 140 yX7_commonDivisor wsX7_commonDivisor) := goodIn_app (goodIn_of _ (by decide +kernel)) ggX7_chance_X7_commonDivisor
theorem dX7_chance_0 : decode cX7_chance 0 = .ok (.aload_n 0, 1) := by decide +kernel
theorem dX7_chance_1 : decode cX7_chance 1 = .ok (.lconst 0, 1) := by decide +kernel
theorem dX7_chance_2 : decode cX7_chance 2 = .ok (.putfield 58, 3) := by decide +kernel
theorem dX7_chance_5 : decode cX7_chance 5 = .ok (.aload_n 0, 1) := by decide +kernel
theorem dX7_chance_6 : decode cX7_chance 6 = .ok (.lconst 1, 1) := by decide +kernel
theorem dX7_chance_7 : decode cX7_chance 7 = .ok (.putfield 62, 3) := by decide +kernel
theorem dX7_chance_10 : decode cX7_chance 10 = .ok (.aload_n 0, 1) := by decide +kernel
theorem dX7_chance_11 : decode cX7_chance 11 = .ok (.iload_n 1, 1) := by decide +kernel
theorem dX7_chance_12 : decode cX7_chance 12 = .ok (.invokevirtual 118, 3) := by decide +kernel
theorem dX7_chance_15 : decode cX7_chance 15 = .ok (.ifCond .eq 19, 3) := by decide +kernel
theorem dX7_chance_18 : decode cX7_chance 18 = .ok (.aload_n 0, 1) := by decide +kernel
theorem dX7_chance_19 : decode cX7_chance 19 = .ok (.iload_n 2, 1) := by decide +kernel
theorem dX7_chance_20 : decode cX7_chance 20 = .ok (.invokevirtual 118, 3) := by decide +kernel
theorem dX7_chance_23 : decode cX7_chance 23 = .ok (.ifCond .eq 11, 3) := by decide +kernel
theorem dX7_chance_26 : decode cX7_chance 26 = .ok (.aload_n 0, 1) := by decide +kernel
theorem dX7_chance_27 : decode cX7_chance 27 = .ok (.iload_n 3, 1) := by decide +kernel
theorem dX7_chance_28 : decode cX7_chance 28 = .ok (.invokevirtual 118, 3) := by decide +kernel
theorem dX7_chance_31 : decode cX7_chance 31 = .ok (.ifCond .ne 5, 3) := by decide +kernel
theorem dX7_chance_34 : decode cX7_chance 34 = .ok (.iconst (-1), 1) := by decide +kernel
theorem dX7_chance_35 : decode cX7_chance 35 = .ok (.ireturn, 1) := by decide +kernel
theorem dX7_chance_36 : decode cX7_chance 36 = .ok (.aload_n 0, 1) := by decide +kernel
theorem dX7_chance_37 : decode cX7_chance 37 = .ok (.getfield 29, 3) := by decide +kernel
theorem dX7_chance_40 : decode cX7_chance 40 = .ok (.aload_n 0, 1) := by decide +kernel
theorem dX7_chance_41 : decode cX7_chance 41 = .ok (.getfield 12, 3) := by decide +kernel
theorem dX7_chance_44 : decode cX7_chance 44 = .ok (.aload_n 0, 1) := by decide +kernel
theorem dX7_chance_45 : decode cX7_chance 45 = .ok (.getfield 22, 3) := by decide +kernel
theorem dX7_chance_48 : decode cX7_chance 48 = .ok (.iload_n 3, 1) := by decide +kernel
theorem dX7_chance_49 : decode cX7_chance 49 = .ok (.invokevirtual 123, 3) := by decide +kernel
theorem dX7_chance_52 : decode cX7_chance 52 = .ok (.aload_n 0, 1) := by decide +kernel
theorem dX7_chance_53 : decode cX7_chance 53 = .ok (.getfield 29, 3) := by decide +kernel
theorem dX7_chance_56 : decode cX7_chance 56 = .ok (.iload_n 2, 1) := by decide +kernel
theorem dX7_chance_57 : decode cX7_chance 57 = .ok (.invokestatic 127, 3) := by decide +kernel
theorem dX7_chance_60 : decode cX7_chance 60 = .ok (.iload_n 2, 1) := by decide +kernel
theorem dX7_chance_61 : decode cX7_chance 61 = .ok (.invokestatic 130, 3) := by decide +kernel
theorem dX7_chance_64 : decode cX7_chance 64 = .ok (.invokevirtual 133, 3) := by decide +kernel
theorem dX7_chance_67 : decode cX7_chance 67 = .ok (.lstore 4, 2) := by decide +kernel
theorem dX7_chance_69 : decode cX7_chance 69 = .ok (.lload 4, 2) := by decide +kernel
theorem dX7_chance_71 : decode cX7_chance 71 = .ok (.lconst 0, 1) := by decide +kernel
theorem dX7_chance_72 : decode cX7_chance 72 = .ok (.lcmp, 1) := by decide +kernel
theorem dX7_chance_73 : decode cX7_chance 73 = .ok (.ifCond .gt 5, 3) := by decide +kernel
theorem dX7_chance_78 : decode cX7_chance 78 = .ok (.lconst 0, 1) := by decide +kernel
theorem dX7_chance_79 : decode cX7_chance 79 = .ok (.lstore 6, 2) := by decide +kernel
theorem dX7_chance_81 : decode cX7_chance 81 = .ok (.iload_n 1, 1) := by decide +kernel
theorem dX7_chance_82 : decode cX7_chance 82 = .ok (.iload_n 2, 1) := by decide +kernel
theorem dX7_chance_83 : decode cX7_chance 83 = .ok (.invokestatic 137, 3) := by decide +kernel
theorem dX7_chance_86 : decode cX7_chance 86 = .ok (.ifCond .ne 24, 3) := by decide +kernel
theorem dX7_chance_89 : decode cX7_chance 89 = .ok (.aload_n 0, 1) := by decide +kernel
theorem dX7_chance_90 : decode cX7_chance 90 = .ok (.getfield 29, 3) := by decide +kernel
theorem dX7_chance_93 : decode cX7_chance 93 = .ok (.iload_n 1, 1) := by decide +kernel
theorem dX7_chance_94 : decode cX7_chance 94 = .ok (.iload_n 2, 1) := by decide +kernel
theorem dX7_chance_95 : decode cX7_chance 95 = .ok (.ior, 1) := by decide +kernel
theorem dX7_chance_96 : decode cX7_chance 96 = .ok (.invokestatic 127, 3) := by decide +kernel
theorem dX7_chance_99 : decode cX7_chance 99 = .ok (.iload_n 1, 1) := by decide +kernel
theorem dX7_chance_100 : decode cX7_chance 100 = .ok (.iload_n 2, 1) := by decide +kernel
theorem dX7_chance_101 : decode cX7_chance 101 = .ok (.ior, 1) := by decide +kernel
theorem dX7_chance_102 : decode cX7_chance 102 = .ok (.invokestatic 130, 3) := by decide +kernel
theorem dX7_chance_105 : decode cX7_chance 105 = .ok (.invokevirtual 133, 3) := by decide +kernel
theorem dX7_chance_108 : decode cX7_chance 108 = .ok (.lstore 6, 2) := by decide +kernel
theorem dX7_chance_110 : decode cX7_chance 110 = .ok (.lload 4, 2) := by decide +kernel
theorem dX7_chance_112 : decode cX7_chance 112 = .ok (.lload 6, 2) := by decide +kernel
theorem dX7_chance_114 : decode cX7_chance 114 = .ok (.invokestatic 140, 3) := by decide +kernel
theorem dX7_chance_117 : decode cX7_chance 117 = .ok (.lstore 8, 2) := by decide +kernel
theorem dX7_chance_119 : decode cX7_chance 119 = .ok (.aload_n 0, 1) := by decide +kernel
theorem dX7_chance_120 : decode cX7_chance 120 = .ok (.lload 6, 2) := by decide +kernel
theorem dX7_chance_122 : decode cX7_chance 122 = .ok (.lload 8, 2) := by decide +kernel
theorem dX7_chance_124 : decode cX7_chance 124 = .ok (.ldiv, 1) := by decide +kernel
theorem dX7_chance_125 : decode cX7_chance 125 = .ok (.putfield 58, 3) := by decide +kernel
theorem dX7_chance_128 : decode cX7_chance 128 = .ok (.aload_n 0, 1) := by decide +kernel
theorem dX7_chance_129 : decode cX7_chance 129 = .ok (.lload 4, 2) := by decide +kernel
theorem dX7_chance_131 : decode cX7_chance 131 = .ok (.lload 8, 2) := by decide +kernel
theorem dX7_chance_133 : decode cX7_chance 133 = .ok (.ldiv, 1) := by decide +kernel
theorem dX7_chance_134 : decode cX7_chance 134 = .ok (.putfield 62, 3) := by decide +kernel
theorem dX7_chance_137 : decode cX7_chance 137 = .ok (.iconst 1, 1) := by decide +kernel
theorem dX7_chance_138 : decode cX7_chance 138 = .ok (.ireturn, 1) := by decide +kernel
theorem dX7_above_0 : decode cX7_above 0 = .ok (.aload_n 0, 1) := by decide +kernel
theorem dX7_above_1 : decode cX7_above 1 = .ok (.getfield 58, 3) := by decide +kernel
theorem dX7_above_4 : decode cX7_above 4 = .ok (.lreturn, 1) := by decide +kernel
theorem dX7_below_0 : decode cX7_below 0 = .ok (.aload_n 0, 1) := by decide +kernel
theorem dX7_below_1 : decode cX7_below 1 = .ok (.getfield 62, 3) := by decide +kernel
theorem dX7_below_4 : decode cX7_below 4 = .ok (.lreturn, 1) := by decide +kernel
set_option maxRecDepth 20000 in
theorem ggX7_bars_X7_isHeap : GoodIn wsX7_bars wsX7_isHeap := goodIn_r _ [6, 1, 7, 8, 9, 10, 11, 12, 28, 29, 30, 31, 32, 33, 34, 35, 36, 37, 38, 39, 40] (by decide +kernel) (by decide +kernel)
set_option maxRecDepth 20000 in
theorem gX7_bars_X7_isHeap : GoodIn wsX7_bars (wsV RX7 144 RX7 yX7_isHeap wsX7_isHeap) := goodIn_app (goodIn_of _ (by decide +kernel)) ggX7_bars_X7_isHeap
set_option maxRecDepth 20000 in
theorem ggX7_bars_X2_barred : GoodIn wsX7_bars wsX2_barred := goodIn_r _ [16, 17, 18, 19, 20, 21, 10, 22, 23, 24, 25, 26, 5, 27, 38, 39, 40] (by decide +kernel) (by decide +kernel)
set_option maxRecDepth 20000 in
theorem gX7_bars_X2_barred : GoodIn wsX7_bars (wsV RX7 147 RX2 yX2_barred wsX2_barred) := goodIn_app (goodIn_of _ (by decide +kernel)) ggX7_bars_X2_barred
theorem dX7_bars_0 : decode cX7_bars 0 = .ok (.aload_n 0, 1) := by decide +kernel
theorem dX7_bars_1 : decode cX7_bars 1 = .ok (.iload_n 1, 1) := by decide +kernel
theorem dX7_bars_2 : decode cX7_bars 2 = .ok (.invokevirtual 144, 3) := by decide +kernel
theorem dX7_bars_5 : decode cX7_bars 5 = .ok (.ifCond .eq 19, 3) := by decide +kernel
theorem dX7_bars_8 : decode cX7_bars 8 = .ok (.aload_n 0, 1) := by decide +kernel
theorem dX7_bars_9 : decode cX7_bars 9 = .ok (.iload_n 2, 1) := by decide +kernel
theorem dX7_bars_10 : decode cX7_bars 10 = .ok (.invokevirtual 144, 3) := by decide +kernel
theorem dX7_bars_13 : decode cX7_bars 13 = .ok (.ifCond .eq 11, 3) := by decide +kernel
theorem dX7_bars_16 : decode cX7_bars 16 = .ok (.aload_n 0, 1) := by decide +kernel
theorem dX7_bars_17 : decode cX7_bars 17 = .ok (.iload_n 3, 1) := by decide +kernel
theorem dX7_bars_18 : decode cX7_bars 18 = .ok (.invokevirtual 144, 3) := by decide +kernel
theorem dX7_bars_21 : decode cX7_bars 21 = .ok (.ifCond .ne 5, 3) := by decide +kernel
theorem dX7_bars_24 : decode cX7_bars 24 = .ok (.iconst 0, 1) := by decide +kernel
theorem dX7_bars_25 : decode cX7_bars 25 = .ok (.ireturn, 1) := by decide +kernel
theorem dX7_bars_26 : decode cX7_bars 26 = .ok (.iload_n 1, 1) := by decide +kernel
theorem dX7_bars_27 : decode cX7_bars 27 = .ok (.iload_n 2, 1) := by decide +kernel
theorem dX7_bars_28 : decode cX7_bars 28 = .ok (.iand, 1) := by decide +kernel
theorem dX7_bars_29 : decode cX7_bars 29 = .ok (.ifCond .ne 15, 3) := by decide +kernel
theorem dX7_bars_32 : decode cX7_bars 32 = .ok (.iload_n 1, 1) := by decide +kernel
theorem dX7_bars_33 : decode cX7_bars 33 = .ok (.iload_n 3, 1) := by decide +kernel
theorem dX7_bars_34 : decode cX7_bars 34 = .ok (.iand, 1) := by decide +kernel
theorem dX7_bars_35 : decode cX7_bars 35 = .ok (.ifCond .ne 9, 3) := by decide +kernel
theorem dX7_bars_38 : decode cX7_bars 38 = .ok (.iload_n 2, 1) := by decide +kernel
theorem dX7_bars_39 : decode cX7_bars 39 = .ok (.iload_n 3, 1) := by decide +kernel
theorem dX7_bars_40 : decode cX7_bars 40 = .ok (.iand, 1) := by decide +kernel
theorem dX7_bars_41 : decode cX7_bars 41 = .ok (.ifCond .eq 5, 3) := by decide +kernel
theorem dX7_bars_46 : decode cX7_bars 46 = .ok (.aload_n 0, 1) := by decide +kernel
theorem dX7_bars_47 : decode cX7_bars 47 = .ok (.getfield 12, 3) := by decide +kernel
theorem dX7_bars_50 : decode cX7_bars 50 = .ok (.iload_n 1, 1) := by decide +kernel
theorem dX7_bars_51 : decode cX7_bars 51 = .ok (.iload_n 2, 1) := by decide +kernel
theorem dX7_bars_52 : decode cX7_bars 52 = .ok (.iload_n 3, 1) := by decide +kernel
theorem dX7_bars_53 : decode cX7_bars 53 = .ok (.invokevirtual 147, 3) := by decide +kernel
theorem dX7_bars_56 : decode cX7_bars 56 = .ok (.ireturn, 1) := by decide +kernel
set_option maxRecDepth 20000 in
theorem ggX7_least_X7_areTwo : GoodIn wsX7_least wsX7_areTwo := goodIn_r _ [8, 2, 9, 10, 11, 12, 13, 14, 58, 59, 60, 61, 62, 63, 64, 65, 66, 67, 68, 69, 70] (by decide +kernel) (by decide +kernel)
set_option maxRecDepth 20000 in
theorem gX7_least_X7_areTwo : GoodIn wsX7_least (wsV RX7 151 RX7 yX7_areTwo wsX7_areTwo) := goodIn_app (goodIn_of _ (by decide +kernel)) ggX7_least_X7_areTwo
theorem dX7_least_0 : decode cX7_least 0 = .ok (.aload_n 0, 1) := by decide +kernel
theorem dX7_least_1 : decode cX7_least 1 = .ok (.iload_n 1, 1) := by decide +kernel
theorem dX7_least_2 : decode cX7_least 2 = .ok (.iload_n 2, 1) := by decide +kernel
theorem dX7_least_3 : decode cX7_least 3 = .ok (.invokevirtual 151, 3) := by decide +kernel
theorem dX7_least_6 : decode cX7_least 6 = .ok (.ifCond .ne 5, 3) := by decide +kernel
theorem dX7_least_9 : decode cX7_least 9 = .ok (.iconst (-1), 1) := by decide +kernel
theorem dX7_least_10 : decode cX7_least 10 = .ok (.ireturn, 1) := by decide +kernel
set_option maxRecDepth 20000 in
theorem ggX7_leastAt_X7_areTwo : GoodIn wsX7_leastAt wsX7_areTwo := goodIn_r _ [8, 2, 9, 10, 11, 12, 13, 14, 58, 59, 60, 61, 62, 63, 64, 65, 66, 67, 68, 69, 70] (by decide +kernel) (by decide +kernel)
set_option maxRecDepth 20000 in
theorem gX7_leastAt_X7_areTwo : GoodIn wsX7_leastAt (wsV RX7 151 RX7 yX7_areTwo wsX7_areTwo) := goodIn_app (goodIn_of _ (by decide +kernel)) ggX7_leastAt_X7_areTwo
theorem dX7_leastAt_0 : decode cX7_leastAt 0 = .ok (.aload_n 0, 1) := by decide +kernel
theorem dX7_leastAt_1 : decode cX7_leastAt 1 = .ok (.iload_n 1, 1) := by decide +kernel
theorem dX7_leastAt_2 : decode cX7_leastAt 2 = .ok (.iload_n 2, 1) := by decide +kernel
theorem dX7_leastAt_3 : decode cX7_leastAt 3 = .ok (.invokevirtual 151, 3) := by decide +kernel
theorem dX7_leastAt_6 : decode cX7_leastAt 6 = .ok (.ifCond .ne 5, 3) := by decide +kernel
theorem dX7_leastAt_9 : decode cX7_leastAt 9 = .ok (.iconst (-1), 1) := by decide +kernel
theorem dX7_leastAt_10 : decode cX7_leastAt 10 = .ok (.ireturn, 1) := by decide +kernel
set_option maxRecDepth 20000 in
theorem ggX7_fit_X7_areTwo : GoodIn wsX7_fit wsX7_areTwo := goodIn_r _ [8, 2, 9, 10, 11, 12, 13, 14, 65, 66, 67, 68, 69, 70, 71, 72, 73, 74, 75, 76, 77] (by decide +kernel) (by decide +kernel)
set_option maxRecDepth 20000 in
theorem gX7_fit_X7_areTwo : GoodIn wsX7_fit (wsV RX7 151 RX7 yX7_areTwo wsX7_areTwo) := goodIn_app (goodIn_of _ (by decide +kernel)) ggX7_fit_X7_areTwo
theorem dX7_fit_0 : decode cX7_fit 0 = .ok (.aload_n 0, 1) := by decide +kernel
theorem dX7_fit_1 : decode cX7_fit 1 = .ok (.iload_n 1, 1) := by decide +kernel
theorem dX7_fit_2 : decode cX7_fit 2 = .ok (.iload_n 2, 1) := by decide +kernel
theorem dX7_fit_3 : decode cX7_fit 3 = .ok (.invokevirtual 151, 3) := by decide +kernel
theorem dX7_fit_6 : decode cX7_fit 6 = .ok (.ifCond .eq 27, 3) := by decide +kernel
theorem dX7_fit_33 : decode cX7_fit 33 = .ok (.iconst 0, 1) := by decide +kernel
theorem dX7_fit_34 : decode cX7_fit 34 = .ok (.ireturn, 1) := by decide +kernel
set_option maxRecDepth 20000 in
theorem ggX7_agrees_X2_has : GoodIn wsX7_agrees wsX2_has := goodIn_r _ [9, 10, 170, 171, 172] (by decide +kernel) (by decide +kernel)
set_option maxRecDepth 20000 in
theorem gX7_agrees_X2_has : GoodIn wsX7_agrees (wsV RX7 77 RX2 yX2_has wsX2_has) := goodIn_app (goodIn_of _ (by decide +kernel)) ggX7_agrees_X2_has
theorem dX7_agrees_0 : decode cX7_agrees 0 = .ok (.aload_n 0, 1) := by decide +kernel
theorem dX7_agrees_1 : decode cX7_agrees 1 = .ok (.getfield 12, 3) := by decide +kernel
theorem dX7_agrees_4 : decode cX7_agrees 4 = .ok (.iload_n 1, 1) := by decide +kernel
theorem dX7_agrees_5 : decode cX7_agrees 5 = .ok (.invokevirtual 77, 3) := by decide +kernel
theorem dX7_agrees_8 : decode cX7_agrees 8 = .ok (.ifCond .eq 38, 3) := by decide +kernel
theorem dX7_agrees_46 : decode cX7_agrees 46 = .ok (.iconst (-1), 1) := by decide +kernel
theorem dX7_agrees_47 : decode cX7_agrees 47 = .ok (.ireturn, 1) := by decide +kernel
set_option maxRecDepth 20000 in
theorem ggX7_alike_X4_reckon : GoodIn wsX7_alike wsX4_reckon := goodIn_r _ [7, 8, 9, 10, 11, 12, 13, 14, 15, 16, 6, 17, 18, 19, 20, 21, 22, 23, 24, 25, 26, 27, 28, 29, 30, 31, 32, 33, 34, 35, 36, 37, 38, 39, 40, 41, 42, 43, 44, 45, 46, 47, 48, 49, 50, 51, 52, 53, 54, 55, 56, 57, 58, 59, 60, 61, 62, 63, 64, 65, 66, 67, 68, 69, 80, 81, 82, 83] (by decide +kernel) (by decide +kernel)
set_option maxRecDepth 20000 in
theorem gX7_alike_X4_reckon : GoodIn wsX7_alike (wsV RX7 187 RX4 yX4_reckon wsX4_reckon) := goodIn_app (goodIn_of _ (by decide +kernel)) ggX7_alike_X4_reckon
theorem dX7_alike_0 : decode cX7_alike 0 = .ok (.aload_n 0, 1) := by decide +kernel
theorem dX7_alike_1 : decode cX7_alike 1 = .ok (.getfield 50, 3) := by decide +kernel
theorem dX7_alike_4 : decode cX7_alike 4 = .ok (.aload_n 0, 1) := by decide +kernel
theorem dX7_alike_5 : decode cX7_alike 5 = .ok (.getfield 12, 3) := by decide +kernel
theorem dX7_alike_8 : decode cX7_alike 8 = .ok (.iconst (-1), 1) := by decide +kernel
theorem dX7_alike_9 : decode cX7_alike 9 = .ok (.iconst (-1), 1) := by decide +kernel
theorem dX7_alike_10 : decode cX7_alike 10 = .ok (.invokevirtual 187, 3) := by decide +kernel
theorem dX7_alike_13 : decode cX7_alike 13 = .ok (.ireturn, 1) := by decide +kernel
set_option maxRecDepth 20000 in
theorem ggX7_fixed_X2_leads : GoodIn wsX7_fixed wsX2_leads := goodIn_r _ [7, 8, 9, 10, 11, 6, 12, 13, 14, 15, 16, 84, 85, 86] (by decide +kernel) (by decide +kernel)
set_option maxRecDepth 20000 in
theorem gX7_fixed_X2_leads : GoodIn wsX7_fixed (wsV RX7 89 RX2 yX2_leads wsX2_leads) := goodIn_app (goodIn_of _ (by decide +kernel)) ggX7_fixed_X2_leads
theorem dX7_fixed_0 : decode cX7_fixed 0 = .ok (.aload_n 0, 1) := by decide +kernel
theorem dX7_fixed_1 : decode cX7_fixed 1 = .ok (.getfield 12, 3) := by decide +kernel
theorem dX7_fixed_4 : decode cX7_fixed 4 = .ok (.iload_n 1, 1) := by decide +kernel
theorem dX7_fixed_5 : decode cX7_fixed 5 = .ok (.iload_n 2, 1) := by decide +kernel
theorem dX7_fixed_6 : decode cX7_fixed 6 = .ok (.invokevirtual 89, 3) := by decide +kernel
theorem dX7_fixed_9 : decode cX7_fixed 9 = .ok (.ifCond .ne 5, 3) := by decide +kernel
theorem dX7_fixed_12 : decode cX7_fixed 12 = .ok (.iconst 0, 1) := by decide +kernel
theorem dX7_fixed_13 : decode cX7_fixed 13 = .ok (.ireturn, 1) := by decide +kernel
set_option maxRecDepth 20000 in
theorem ggX7_otherwise_X7_areTwo : GoodIn wsX7_otherwise wsX7_areTwo := goodIn_r _ [13, 3, 14, 15, 16, 17, 18, 19, 107, 108, 109, 110, 111, 112, 113, 114, 115, 116, 117, 118, 119] (by decide +kernel) (by decide +kernel)
set_option maxRecDepth 20000 in
theorem gX7_otherwise_X7_areTwo : GoodIn wsX7_otherwise (wsV RX7 151 RX7 yX7_areTwo wsX7_areTwo) := goodIn_app (goodIn_of _ (by decide +kernel)) ggX7_otherwise_X7_areTwo
theorem dX7_otherwise_0 : decode cX7_otherwise 0 = .ok (.aload_n 0, 1) := by decide +kernel
theorem dX7_otherwise_1 : decode cX7_otherwise 1 = .ok (.iload_n 1, 1) := by decide +kernel
theorem dX7_otherwise_2 : decode cX7_otherwise 2 = .ok (.iload_n 2, 1) := by decide +kernel
theorem dX7_otherwise_3 : decode cX7_otherwise 3 = .ok (.invokevirtual 151, 3) := by decide +kernel
theorem dX7_otherwise_6 : decode cX7_otherwise 6 = .ok (.ifCond .eq 12, 3) := by decide +kernel
theorem dX7_otherwise_18 : decode cX7_otherwise 18 = .ok (.ldc2_w 121, 3) := by decide +kernel
theorem dX7_otherwise_21 : decode cX7_otherwise 21 = .ok (.lreturn, 1) := by decide +kernel
set_option maxRecDepth 20000 in
theorem ggX7_draw_X7_isSetting : GoodIn wsX7_draw wsX7_isSetting := goodIn_r _ [8, 9, 10, 7, 11, 12, 13, 14, 15, 1, 16, 17, 18, 19, 20, 21, 22, 23, 24, 63, 64, 65, 66, 67, 68, 69, 70, 71, 72, 73, 74, 75] (by decide +kernel) (by decide +kernel)
set_option maxRecDepth 20000 in
theorem gX7_draw_X7_isSetting : GoodIn wsX7_draw (wsV RX7 118 RX7 yX7_isSetting wsX7_isSetting) := goodIn_app (goodIn_of _ (by decide +kernel)) ggX7_draw_X7_isSetting
set_option maxRecDepth 20000 in
theorem ggX7_draw_X2_size : GoodIn wsX7_draw wsX2_size := goodIn_r _ [28, 21, 73, 74, 75] (by decide +kernel) (by decide +kernel)
set_option maxRecDepth 20000 in
theorem gX7_draw_X2_size : GoodIn wsX7_draw (wsV RX7 208 RX2 yX2_size wsX2_size) := goodIn_app (goodIn_of _ (by decide +kernel)) ggX7_draw_X2_size
theorem dX7_draw_0 : decode cX7_draw 0 = .ok (.aload_n 0, 1) := by decide +kernel
theorem dX7_draw_1 : decode cX7_draw 1 = .ok (.iload_n 2, 1) := by decide +kernel
theorem dX7_draw_2 : decode cX7_draw 2 = .ok (.invokevirtual 118, 3) := by decide +kernel
theorem dX7_draw_5 : decode cX7_draw 5 = .ok (.ifCond .ne 5, 3) := by decide +kernel
theorem dX7_draw_8 : decode cX7_draw 8 = .ok (.iconst (-1), 1) := by decide +kernel
theorem dX7_draw_9 : decode cX7_draw 9 = .ok (.ireturn, 1) := by decide +kernel
theorem dX7_draw_10 : decode cX7_draw 10 = .ok (.iload_n 1, 1) := by decide +kernel
theorem dX7_draw_11 : decode cX7_draw 11 = .ok (.istore_n 3, 1) := by decide +kernel
theorem dX7_draw_12 : decode cX7_draw 12 = .ok (.iconst 0, 1) := by decide +kernel
theorem dX7_draw_13 : decode cX7_draw 13 = .ok (.istore 4, 2) := by decide +kernel
theorem dX7_draw_15 : decode cX7_draw 15 = .ok (.iconst 0, 1) := by decide +kernel
theorem dX7_draw_16 : decode cX7_draw 16 = .ok (.istore 5, 2) := by decide +kernel
theorem dX7_draw_18 : decode cX7_draw 18 = .ok (.iconst 0, 1) := by decide +kernel
theorem dX7_draw_19 : decode cX7_draw 19 = .ok (.istore 6, 2) := by decide +kernel
theorem dX7_draw_21 : decode cX7_draw 21 = .ok (.iload 6, 2) := by decide +kernel
theorem dX7_draw_23 : decode cX7_draw 23 = .ok (.aload_n 0, 1) := by decide +kernel
theorem dX7_draw_24 : decode cX7_draw 24 = .ok (.getfield 12, 3) := by decide +kernel
theorem dX7_draw_27 : decode cX7_draw 27 = .ok (.invokevirtual 208, 3) := by decide +kernel
theorem dX7_draw_30 : decode cX7_draw 30 = .ok (.if_icmp .ge 84, 3) := by decide +kernel
theorem dX7_draw_114 : decode cX7_draw 114 = .ok (.iload 5, 2) := by decide +kernel
theorem dX7_draw_116 : decode cX7_draw 116 = .ok (.ireturn, 1) := by decide +kernel
set_option maxRecDepth 20000 in
theorem ggX7_count_X2_size : GoodIn wsX7_count wsX2_size := goodIn_r _ [7, 8, 31, 32, 33] (by decide +kernel) (by decide +kernel)
set_option maxRecDepth 20000 in
theorem gX7_count_X2_size : GoodIn wsX7_count (wsV RX7 208 RX2 yX2_size wsX2_size) := goodIn_app (goodIn_of _ (by decide +kernel)) ggX7_count_X2_size
set_option maxRecDepth 20000 in
theorem ggX7_count_X2_arrows : GoodIn wsX7_count wsX2_arrows := goodIn_r _ [12, 8, 13, 14, 15, 16, 17, 18, 19, 20, 31, 32, 33] (by decide +kernel) (by decide +kernel)
set_option maxRecDepth 20000 in
theorem gX7_count_X2_arrows : GoodIn wsX7_count (wsV RX7 217 RX2 yX2_arrows wsX2_arrows) := goodIn_app (goodIn_of _ (by decide +kernel)) ggX7_count_X2_arrows
theorem dX7_count_0 : decode cX7_count 0 = .ok (.iload_n 1, 1) := by decide +kernel
theorem dX7_count_1 : decode cX7_count 1 = .ok (.tableswitch 48 0 2 #[27, 35, 43], 27) := by decide +kernel
theorem dX7_count_28 : decode cX7_count 28 = .ok (.aload_n 0, 1) := by decide +kernel
theorem dX7_count_29 : decode cX7_count 29 = .ok (.getfield 12, 3) := by decide +kernel
theorem dX7_count_32 : decode cX7_count 32 = .ok (.invokevirtual 208, 3) := by decide +kernel
theorem dX7_count_35 : decode cX7_count 35 = .ok (.ireturn, 1) := by decide +kernel
theorem dX7_count_36 : decode cX7_count 36 = .ok (.aload_n 0, 1) := by decide +kernel
theorem dX7_count_37 : decode cX7_count 37 = .ok (.getfield 12, 3) := by decide +kernel
theorem dX7_count_40 : decode cX7_count 40 = .ok (.invokevirtual 217, 3) := by decide +kernel
theorem dX7_count_43 : decode cX7_count 43 = .ok (.ireturn, 1) := by decide +kernel
theorem dX7_count_44 : decode cX7_count 44 = .ok (.aload_n 0, 1) := by decide +kernel
theorem dX7_count_45 : decode cX7_count 45 = .ok (.getfield 54, 3) := by decide +kernel
theorem dX7_count_48 : decode cX7_count 48 = .ok (.ireturn, 1) := by decide +kernel
theorem dX7_count_49 : decode cX7_count 49 = .ok (.iconst (-1), 1) := by decide +kernel
theorem dX7_count_50 : decode cX7_count 50 = .ok (.ireturn, 1) := by decide +kernel
set_option maxRecDepth 20000 in
theorem ggX7_hasRow_X2_has : GoodIn wsX7_hasRow wsX2_has := goodIn_r _ [6, 7, 35, 36, 37] (by decide +kernel) (by decide +kernel)
set_option maxRecDepth 20000 in
theorem gX7_hasRow_X2_has : GoodIn wsX7_hasRow (wsV RX7 77 RX2 yX2_has wsX2_has) := goodIn_app (goodIn_of _ (by decide +kernel)) ggX7_hasRow_X2_has
theorem dX7_hasRow_0 : decode cX7_hasRow 0 = .ok (.aload_n 0, 1) := by decide +kernel
theorem dX7_hasRow_1 : decode cX7_hasRow 1 = .ok (.getfield 12, 3) := by decide +kernel
theorem dX7_hasRow_4 : decode cX7_hasRow 4 = .ok (.iload_n 1, 1) := by decide +kernel
theorem dX7_hasRow_5 : decode cX7_hasRow 5 = .ok (.invokevirtual 77, 3) := by decide +kernel
theorem dX7_hasRow_8 : decode cX7_hasRow 8 = .ok (.ifCond .eq 26, 3) := by decide +kernel
theorem dX7_hasRow_34 : decode cX7_hasRow 34 = .ok (.iconst 0, 1) := by decide +kernel
theorem dX7_hasRow_35 : decode cX7_hasRow 35 = .ok (.ireturn, 1) := by decide +kernel
set_option maxRecDepth 20000 in
theorem ggX7_areTwo_X2_has : GoodIn wsX7_areTwo wsX2_has := goodIn_r _ [6, 7, 18, 19, 20] (by decide +kernel) (by decide +kernel)
set_option maxRecDepth 20000 in
theorem gX7_areTwo_X2_has : GoodIn wsX7_areTwo (wsV RX7 77 RX2 yX2_has wsX2_has) := goodIn_app (goodIn_of _ (by decide +kernel)) ggX7_areTwo_X2_has
theorem dX7_areTwo_0 : decode cX7_areTwo 0 = .ok (.aload_n 0, 1) := by decide +kernel
theorem dX7_areTwo_1 : decode cX7_areTwo 1 = .ok (.getfield 12, 3) := by decide +kernel
theorem dX7_areTwo_4 : decode cX7_areTwo 4 = .ok (.iload_n 1, 1) := by decide +kernel
theorem dX7_areTwo_5 : decode cX7_areTwo 5 = .ok (.invokevirtual 77, 3) := by decide +kernel
theorem dX7_areTwo_8 : decode cX7_areTwo 8 = .ok (.ifCond .eq 23, 3) := by decide +kernel
theorem dX7_areTwo_31 : decode cX7_areTwo 31 = .ok (.iconst 0, 1) := by decide +kernel
theorem dX7_areTwo_32 : decode cX7_areTwo 32 = .ok (.ireturn, 1) := by decide +kernel
set_option maxRecDepth 20000 in
theorem ggX7_isHeap_X2_everything : GoodIn wsX7_isHeap wsX2_everything := goodIn_r _ [6, 7, 18, 19, 20] (by decide +kernel) (by decide +kernel)
set_option maxRecDepth 20000 in
theorem gX7_isHeap_X2_everything : GoodIn wsX7_isHeap (wsV RX7 223 RX2 yX2_everything wsX2_everything) := goodIn_app (goodIn_of _ (by decide +kernel)) ggX7_isHeap_X2_everything
theorem dX7_isHeap_0 : decode cX7_isHeap 0 = .ok (.iload_n 1, 1) := by decide +kernel
theorem dX7_isHeap_1 : decode cX7_isHeap 1 = .ok (.aload_n 0, 1) := by decide +kernel
theorem dX7_isHeap_2 : decode cX7_isHeap 2 = .ok (.getfield 12, 3) := by decide +kernel
theorem dX7_isHeap_5 : decode cX7_isHeap 5 = .ok (.invokevirtual 223, 3) := by decide +kernel
theorem dX7_isHeap_8 : decode cX7_isHeap 8 = .ok (.iconst (-1), 1) := by decide +kernel
theorem dX7_isHeap_9 : decode cX7_isHeap 9 = .ok (.ixor, 1) := by decide +kernel
theorem dX7_isHeap_10 : decode cX7_isHeap 10 = .ok (.iand, 1) := by decide +kernel
theorem dX7_isHeap_11 : decode cX7_isHeap 11 = .ok (.ifCond .ne 7, 3) := by decide +kernel
theorem dX7_isHeap_14 : decode cX7_isHeap 14 = .ok (.iconst 1, 1) := by decide +kernel
theorem dX7_isHeap_15 : decode cX7_isHeap 15 = .ok (.goto 4, 3) := by decide +kernel
theorem dX7_isHeap_18 : decode cX7_isHeap 18 = .ok (.iconst 0, 1) := by decide +kernel
theorem dX7_isHeap_19 : decode cX7_isHeap 19 = .ok (.ireturn, 1) := by decide +kernel
set_option maxRecDepth 20000 in
theorem ggX7_isSetting_X7_heapOf : GoodIn wsX7_isSetting wsX7_heapOf := goodIn_r _ [4] (by decide +kernel) (by decide +kernel)
set_option maxRecDepth 20000 in
theorem gX7_isSetting_X7_heapOf : GoodIn wsX7_isSetting (va_wsS RX7 127 yX7_heapOf wsX7_heapOf) := goodIn_app (goodIn_of _ (by decide +kernel)) ggX7_isSetting_X7_heapOf
set_option maxRecDepth 20000 in
theorem ggX7_isSetting_X7_isHeap : GoodIn wsX7_isSetting wsX7_isHeap := goodIn_r _ [8, 9, 10, 11, 12, 13, 14, 15, 19, 20, 21, 22, 23, 24, 25, 26, 27, 28, 29, 30, 31] (by decide +kernel) (by decide +kernel)
set_option maxRecDepth 20000 in
theorem gX7_isSetting_X7_isHeap : GoodIn wsX7_isSetting (wsV RX7 144 RX7 yX7_isHeap wsX7_isHeap) := goodIn_app (goodIn_of _ (by decide +kernel)) ggX7_isSetting_X7_isHeap
set_option maxRecDepth 20000 in
theorem ggX7_isSetting_X7_onesOf : GoodIn wsX7_isSetting wsX7_onesOf := goodIn_r _ [18] (by decide +kernel) (by decide +kernel)
set_option maxRecDepth 20000 in
theorem gX7_isSetting_X7_onesOf : GoodIn wsX7_isSetting (va_wsS RX7 130 yX7_onesOf wsX7_onesOf) := goodIn_app (goodIn_of _ (by decide +kernel)) ggX7_isSetting_X7_onesOf
theorem dX7_isSetting_0 : decode cX7_isSetting 0 = .ok (.iload_n 1, 1) := by decide +kernel
theorem dX7_isSetting_1 : decode cX7_isSetting 1 = .ok (.bipush 16, 2) := by decide +kernel
theorem dX7_isSetting_3 : decode cX7_isSetting 3 = .ok (.iushr, 1) := by decide +kernel
theorem dX7_isSetting_4 : decode cX7_isSetting 4 = .ok (.ifCond .ne 32, 3) := by decide +kernel
theorem dX7_isSetting_7 : decode cX7_isSetting 7 = .ok (.aload_n 0, 1) := by decide +kernel
theorem dX7_isSetting_8 : decode cX7_isSetting 8 = .ok (.iload_n 1, 1) := by decide +kernel
theorem dX7_isSetting_9 : decode cX7_isSetting 9 = .ok (.invokestatic 127, 3) := by decide +kernel
theorem dX7_isSetting_12 : decode cX7_isSetting 12 = .ok (.invokevirtual 144, 3) := by decide +kernel
theorem dX7_isSetting_15 : decode cX7_isSetting 15 = .ok (.ifCond .eq 21, 3) := by decide +kernel
theorem dX7_isSetting_18 : decode cX7_isSetting 18 = .ok (.iload_n 1, 1) := by decide +kernel
theorem dX7_isSetting_19 : decode cX7_isSetting 19 = .ok (.invokestatic 130, 3) := by decide +kernel
theorem dX7_isSetting_22 : decode cX7_isSetting 22 = .ok (.iload_n 1, 1) := by decide +kernel
theorem dX7_isSetting_23 : decode cX7_isSetting 23 = .ok (.invokestatic 127, 3) := by decide +kernel
theorem dX7_isSetting_26 : decode cX7_isSetting 26 = .ok (.iconst (-1), 1) := by decide +kernel
theorem dX7_isSetting_27 : decode cX7_isSetting 27 = .ok (.ixor, 1) := by decide +kernel
theorem dX7_isSetting_28 : decode cX7_isSetting 28 = .ok (.iand, 1) := by decide +kernel
theorem dX7_isSetting_29 : decode cX7_isSetting 29 = .ok (.ifCond .ne 7, 3) := by decide +kernel
theorem dX7_isSetting_32 : decode cX7_isSetting 32 = .ok (.iconst 1, 1) := by decide +kernel
theorem dX7_isSetting_33 : decode cX7_isSetting 33 = .ok (.goto 4, 3) := by decide +kernel
theorem dX7_isSetting_36 : decode cX7_isSetting 36 = .ok (.iconst 0, 1) := by decide +kernel
theorem dX7_isSetting_37 : decode cX7_isSetting 37 = .ok (.ireturn, 1) := by decide +kernel
theorem dX7_bit_0 : decode cX7_bit 0 = .ok (.iconst 1, 1) := by decide +kernel
theorem dX7_bit_1 : decode cX7_bit 1 = .ok (.iload_n 0, 1) := by decide +kernel
theorem dX7_bit_2 : decode cX7_bit 2 = .ok (.ishl, 1) := by decide +kernel
theorem dX7_bit_3 : decode cX7_bit 3 = .ok (.ireturn, 1) := by decide +kernel
theorem dX7_inHeap_0 : decode cX7_inHeap 0 = .ok (.iload_n 0, 1) := by decide +kernel
theorem dX7_inHeap_1 : decode cX7_inHeap 1 = .ok (.iload_n 1, 1) := by decide +kernel
theorem dX7_inHeap_2 : decode cX7_inHeap 2 = .ok (.ishr, 1) := by decide +kernel
theorem dX7_inHeap_3 : decode cX7_inHeap 3 = .ok (.iconst 1, 1) := by decide +kernel
theorem dX7_inHeap_4 : decode cX7_inHeap 4 = .ok (.iand, 1) := by decide +kernel
theorem dX7_inHeap_5 : decode cX7_inHeap 5 = .ok (.iconst 1, 1) := by decide +kernel
theorem dX7_inHeap_6 : decode cX7_inHeap 6 = .ok (.if_icmp .ne 7, 3) := by decide +kernel
theorem dX7_inHeap_13 : decode cX7_inHeap 13 = .ok (.iconst 0, 1) := by decide +kernel
theorem dX7_inHeap_14 : decode cX7_inHeap 14 = .ok (.ireturn, 1) := by decide +kernel
theorem dX7_heapOf_0 : decode cX7_heapOf 0 = .ok (.iload_n 0, 1) := by decide +kernel
theorem dX7_heapOf_1 : decode cX7_heapOf 1 = .ok (.sipush 255, 3) := by decide +kernel
theorem dX7_heapOf_4 : decode cX7_heapOf 4 = .ok (.iand, 1) := by decide +kernel
theorem dX7_heapOf_5 : decode cX7_heapOf 5 = .ok (.ireturn, 1) := by decide +kernel
theorem dX7_onesOf_0 : decode cX7_onesOf 0 = .ok (.iload_n 0, 1) := by decide +kernel
theorem dX7_onesOf_1 : decode cX7_onesOf 1 = .ok (.bipush 8, 2) := by decide +kernel
theorem dX7_onesOf_3 : decode cX7_onesOf 3 = .ok (.ishr, 1) := by decide +kernel
theorem dX7_onesOf_4 : decode cX7_onesOf 4 = .ok (.sipush 255, 3) := by decide +kernel
theorem dX7_onesOf_7 : decode cX7_onesOf 7 = .ok (.iand, 1) := by decide +kernel
theorem dX7_onesOf_8 : decode cX7_onesOf 8 = .ok (.ireturn, 1) := by decide +kernel
set_option maxRecDepth 20000 in
theorem ggX7_clash_X7_heapOf : GoodIn wsX7_clash wsX7_heapOf := goodIn_r _ [4] (by decide +kernel) (by decide +kernel)
set_option maxRecDepth 20000 in
theorem gX7_clash_X7_heapOf : GoodIn wsX7_clash (va_wsS RX7 127 yX7_heapOf wsX7_heapOf) := goodIn_app (goodIn_of _ (by decide +kernel)) ggX7_clash_X7_heapOf
set_option maxRecDepth 20000 in
theorem ggX7_clash_X7_onesOf : GoodIn wsX7_clash wsX7_onesOf := goodIn_r _ [7] (by decide +kernel) (by decide +kernel)
set_option maxRecDepth 20000 in
theorem gX7_clash_X7_onesOf : GoodIn wsX7_clash (va_wsS RX7 130 yX7_onesOf wsX7_onesOf) := goodIn_app (goodIn_of _ (by decide +kernel)) ggX7_clash_X7_onesOf
theorem dX7_clash_0 : decode cX7_clash 0 = .ok (.iload_n 0, 1) := by decide +kernel
theorem dX7_clash_1 : decode cX7_clash 1 = .ok (.invokestatic 127, 3) := by decide +kernel
theorem dX7_clash_4 : decode cX7_clash 4 = .ok (.iload_n 1, 1) := by decide +kernel
theorem dX7_clash_5 : decode cX7_clash 5 = .ok (.invokestatic 127, 3) := by decide +kernel
theorem dX7_clash_8 : decode cX7_clash 8 = .ok (.iand, 1) := by decide +kernel
theorem dX7_clash_9 : decode cX7_clash 9 = .ok (.iload_n 0, 1) := by decide +kernel
theorem dX7_clash_10 : decode cX7_clash 10 = .ok (.invokestatic 130, 3) := by decide +kernel
theorem dX7_clash_13 : decode cX7_clash 13 = .ok (.iload_n 1, 1) := by decide +kernel
theorem dX7_clash_14 : decode cX7_clash 14 = .ok (.invokestatic 130, 3) := by decide +kernel
theorem dX7_clash_17 : decode cX7_clash 17 = .ok (.ixor, 1) := by decide +kernel
theorem dX7_clash_18 : decode cX7_clash 18 = .ok (.iand, 1) := by decide +kernel
theorem dX7_clash_19 : decode cX7_clash 19 = .ok (.ifCond .eq 7, 3) := by decide +kernel
theorem dX7_clash_26 : decode cX7_clash 26 = .ok (.iconst 0, 1) := by decide +kernel
theorem dX7_clash_27 : decode cX7_clash 27 = .ok (.ireturn, 1) := by decide +kernel
set_option maxRecDepth 20000 in
theorem ggX7_partsOf_J6_bitCount_0f7a4 : GoodIn wsX7_partsOf wsJ6_bitCount_0f7a4 := goodIn_r _ [4, 5, 6, 7] (by decide +kernel) (by decide +kernel)
set_option maxRecDepth 20000 in
theorem gX7_partsOf_J6_bitCount_0f7a4 : GoodIn wsX7_partsOf (va_wsS RX7 239 yJ6_bitCount_0f7a4 wsJ6_bitCount_0f7a4) := goodIn_app (goodIn_of _ (by decide +kernel)) ggX7_partsOf_J6_bitCount_0f7a4
theorem dX7_partsOf_0 : decode cX7_partsOf 0 = .ok (.iconst 1, 1) := by decide +kernel
theorem dX7_partsOf_1 : decode cX7_partsOf 1 = .ok (.iload_n 0, 1) := by decide +kernel
theorem dX7_partsOf_2 : decode cX7_partsOf 2 = .ok (.invokestatic 239, 3) := by decide +kernel
theorem dX7_partsOf_5 : decode cX7_partsOf 5 = .ok (.ishl, 1) := by decide +kernel
theorem dX7_partsOf_6 : decode cX7_partsOf 6 = .ok (.ireturn, 1) := by decide +kernel
theorem dX7_nextPart_0 : decode cX7_nextPart 0 = .ok (.iload_n 0, 1) := by decide +kernel
theorem dX7_nextPart_1 : decode cX7_nextPart 1 = .ok (.iload_n 1, 1) := by decide +kernel
theorem dX7_nextPart_2 : decode cX7_nextPart 2 = .ok (.isub, 1) := by decide +kernel
theorem dX7_nextPart_3 : decode cX7_nextPart 3 = .ok (.iload_n 1, 1) := by decide +kernel
theorem dX7_nextPart_4 : decode cX7_nextPart 4 = .ok (.iand, 1) := by decide +kernel
theorem dX7_nextPart_5 : decode cX7_nextPart 5 = .ok (.ireturn, 1) := by decide +kernel
theorem dX7_commonDivisor_0 : decode cX7_commonDivisor 0 = .ok (.lload_n 0, 1) := by decide +kernel
theorem dX7_commonDivisor_1 : decode cX7_commonDivisor 1 = .ok (.lstore 4, 2) := by decide +kernel
theorem dX7_commonDivisor_3 : decode cX7_commonDivisor 3 = .ok (.lload_n 2, 1) := by decide +kernel
theorem dX7_commonDivisor_4 : decode cX7_commonDivisor 4 = .ok (.lstore 6, 2) := by decide +kernel
theorem dX7_commonDivisor_6 : decode cX7_commonDivisor 6 = .ok (.iconst 0, 1) := by decide +kernel
theorem dX7_commonDivisor_7 : decode cX7_commonDivisor 7 = .ok (.istore 8, 2) := by decide +kernel
theorem dX7_commonDivisor_9 : decode cX7_commonDivisor 9 = .ok (.iload 8, 2) := by decide +kernel
theorem dX7_commonDivisor_11 : decode cX7_commonDivisor 11 = .ok (.bipush 100, 2) := by decide +kernel
theorem dX7_commonDivisor_13 : decode cX7_commonDivisor 13 = .ok (.if_icmp .ge 31, 3) := by decide +kernel
theorem dX7_commonDivisor_16 : decode cX7_commonDivisor 16 = .ok (.lload 6, 2) := by decide +kernel
theorem dX7_commonDivisor_18 : decode cX7_commonDivisor 18 = .ok (.lconst 0, 1) := by decide +kernel
theorem dX7_commonDivisor_19 : decode cX7_commonDivisor 19 = .ok (.lcmp, 1) := by decide +kernel
theorem dX7_commonDivisor_20 : decode cX7_commonDivisor 20 = .ok (.ifCond .eq 24, 3) := by decide +kernel
theorem dX7_commonDivisor_23 : decode cX7_commonDivisor 23 = .ok (.lload 4, 2) := by decide +kernel
theorem dX7_commonDivisor_25 : decode cX7_commonDivisor 25 = .ok (.lload 6, 2) := by decide +kernel
theorem dX7_commonDivisor_27 : decode cX7_commonDivisor 27 = .ok (.lrem, 1) := by decide +kernel
theorem dX7_commonDivisor_28 : decode cX7_commonDivisor 28 = .ok (.lstore 9, 2) := by decide +kernel
theorem dX7_commonDivisor_30 : decode cX7_commonDivisor 30 = .ok (.lload 6, 2) := by decide +kernel
theorem dX7_commonDivisor_32 : decode cX7_commonDivisor 32 = .ok (.lstore 4, 2) := by decide +kernel
theorem dX7_commonDivisor_34 : decode cX7_commonDivisor 34 = .ok (.lload 9, 2) := by decide +kernel
theorem dX7_commonDivisor_36 : decode cX7_commonDivisor 36 = .ok (.lstore 6, 2) := by decide +kernel
theorem dX7_commonDivisor_38 : decode cX7_commonDivisor 38 = .ok (.iinc 8 1, 3) := by decide +kernel
theorem dX7_commonDivisor_41 : decode cX7_commonDivisor 41 = .ok (.goto (-32), 3) := by decide +kernel
theorem dX7_commonDivisor_44 : decode cX7_commonDivisor 44 = .ok (.lconst 1, 1) := by decide +kernel
theorem dX7_commonDivisor_45 : decode cX7_commonDivisor 45 = .ok (.lload 4, 2) := by decide +kernel
theorem dX7_commonDivisor_47 : decode cX7_commonDivisor 47 = .ok (.invokestatic 199, 3) := by decide +kernel
theorem dX7_commonDivisor_50 : decode cX7_commonDivisor 50 = .ok (.lreturn, 1) := by decide +kernel
theorem dX8_init_0 : decode cX8_init 0 = .ok (.aload_n 0, 1) := by decide +kernel
theorem dX8_init_1 : decode cX8_init 1 = .ok (.invokespecial 3, 3) := by decide +kernel
theorem dX8_init_4 : decode cX8_init 4 = .ok (.aload_n 0, 1) := by decide +kernel
theorem dX8_init_5 : decode cX8_init 5 = .ok (.bipush 8, 2) := by decide +kernel
theorem dX8_init_7 : decode cX8_init 7 = .ok (.newarray .boolean, 2) := by decide +kernel
theorem dX8_init_9 : decode cX8_init 9 = .ok (.putfield 9, 3) := by decide +kernel
theorem dX8_init_12 : decode cX8_init 12 = .ok (.aload_n 0, 1) := by decide +kernel
theorem dX8_init_13 : decode cX8_init 13 = .ok (.bipush 8, 2) := by decide +kernel
theorem dX8_init_15 : decode cX8_init 15 = .ok (.newarray .int, 2) := by decide +kernel
theorem dX8_init_17 : decode cX8_init 17 = .ok (.putfield 13, 3) := by decide +kernel
theorem dX8_init_20 : decode cX8_init 20 = .ok (.aload_n 0, 1) := by decide +kernel
theorem dX8_init_21 : decode cX8_init 21 = .ok (.sipush 1024, 3) := by decide +kernel
theorem dX8_init_24 : decode cX8_init 24 = .ok (.newarray .int, 2) := by decide +kernel
theorem dX8_init_26 : decode cX8_init 26 = .ok (.putfield 17, 3) := by decide +kernel
theorem dX8_init_29 : decode cX8_init 29 = .ok (.aload_n 0, 1) := by decide +kernel
theorem dX8_init_30 : decode cX8_init 30 = .ok (.lconst 1, 1) := by decide +kernel
theorem dX8_init_31 : decode cX8_init 31 = .ok (.putfield 20, 3) := by decide +kernel
theorem dX8_init_34 : decode cX8_init 34 = .ok (.aload_n 0, 1) := by decide +kernel
theorem dX8_init_35 : decode cX8_init 35 = .ok (.bipush 8, 2) := by decide +kernel
theorem dX8_init_37 : decode cX8_init 37 = .ok (.newarray .int, 2) := by decide +kernel
theorem dX8_init_39 : decode cX8_init 39 = .ok (.putfield 24, 3) := by decide +kernel
theorem dX8_init_42 : decode cX8_init 42 = .ok (.aload_n 0, 1) := by decide +kernel
theorem dX8_init_43 : decode cX8_init 43 = .ok (.bipush 9, 2) := by decide +kernel
theorem dX8_init_45 : decode cX8_init 45 = .ok (.newarray .int, 2) := by decide +kernel
theorem dX8_init_47 : decode cX8_init 47 = .ok (.putfield 27, 3) := by decide +kernel
theorem dX8_init_50 : decode cX8_init 50 = .ok (.aload_n 0, 1) := by decide +kernel
theorem dX8_init_51 : decode cX8_init 51 = .ok (.sipush 256, 3) := by decide +kernel
theorem dX8_init_54 : decode cX8_init 54 = .ok (.newarray .boolean, 2) := by decide +kernel
theorem dX8_init_56 : decode cX8_init 56 = .ok (.putfield 30, 3) := by decide +kernel
theorem dX8_init_59 : decode cX8_init 59 = .ok (.aload_n 0, 1) := by decide +kernel
theorem dX8_init_60 : decode cX8_init 60 = .ok (.sipush 200, 3) := by decide +kernel
theorem dX8_init_63 : decode cX8_init 63 = .ok (.newarray .long, 2) := by decide +kernel
theorem dX8_init_65 : decode cX8_init 65 = .ok (.putfield 33, 3) := by decide +kernel
theorem dX8_init_68 : decode cX8_init 68 = .ok (.aload_n 0, 1) := by decide +kernel
theorem dX8_init_69 : decode cX8_init 69 = .ok (.sipush 200, 3) := by decide +kernel
theorem dX8_init_72 : decode cX8_init 72 = .ok (.newarray .long, 2) := by decide +kernel
theorem dX8_init_74 : decode cX8_init 74 = .ok (.putfield 37, 3) := by decide +kernel
theorem dX8_init_77 : decode cX8_init 77 = .ok (.aload_n 0, 1) := by decide +kernel
theorem dX8_init_78 : decode cX8_init 78 = .ok (.sipush 200, 3) := by decide +kernel
theorem dX8_init_81 : decode cX8_init 81 = .ok (.newarray .long, 2) := by decide +kernel
theorem dX8_init_83 : decode cX8_init 83 = .ok (.putfield 40, 3) := by decide +kernel
theorem dX8_init_86 : decode cX8_init 86 = .ok (.aload_n 0, 1) := by decide +kernel
theorem dX8_init_87 : decode cX8_init 87 = .ok (.bipush 8, 2) := by decide +kernel
theorem dX8_init_89 : decode cX8_init 89 = .ok (.newarray .int, 2) := by decide +kernel
theorem dX8_init_91 : decode cX8_init 91 = .ok (.putfield 43, 3) := by decide +kernel
theorem dX8_init_94 : decode cX8_init 94 = .ok (.aload_n 0, 1) := by decide +kernel
theorem dX8_init_95 : decode cX8_init 95 = .ok (.bipush 9, 2) := by decide +kernel
theorem dX8_init_97 : decode cX8_init 97 = .ok (.newarray .int, 2) := by decide +kernel
theorem dX8_init_99 : decode cX8_init 99 = .ok (.putfield 46, 3) := by decide +kernel
theorem dX8_init_102 : decode cX8_init 102 = .ok (.aload_n 0, 1) := by decide +kernel
theorem dX8_init_103 : decode cX8_init 103 = .ok (.bipush 8, 2) := by decide +kernel
theorem dX8_init_105 : decode cX8_init 105 = .ok (.newarray .int, 2) := by decide +kernel
theorem dX8_init_107 : decode cX8_init 107 = .ok (.putfield 49, 3) := by decide +kernel
theorem dX8_init_110 : decode cX8_init 110 = .ok (.aload_n 0, 1) := by decide +kernel
theorem dX8_init_111 : decode cX8_init 111 = .ok (.bipush 64, 2) := by decide +kernel
theorem dX8_init_113 : decode cX8_init 113 = .ok (.newarray .boolean, 2) := by decide +kernel
theorem dX8_init_115 : decode cX8_init 115 = .ok (.putfield 52, 3) := by decide +kernel
theorem dX8_init_118 : decode cX8_init 118 = .ok (.aload_n 0, 1) := by decide +kernel
theorem dX8_init_119 : decode cX8_init 119 = .ok (.bipush 8, 2) := by decide +kernel
theorem dX8_init_121 : decode cX8_init 121 = .ok (.newarray .int, 2) := by decide +kernel
theorem dX8_init_123 : decode cX8_init 123 = .ok (.putfield 55, 3) := by decide +kernel
theorem dX8_init_126 : decode cX8_init 126 = .ok (.return_, 1) := by decide +kernel
theorem dX8_isThing_0 : decode cX8_isThing 0 = .ok (.iload_n 1, 1) := by decide +kernel
theorem dX8_isThing_1 : decode cX8_isThing 1 = .ok (.ifCond .lt 15, 3) := by decide +kernel
theorem dX8_isThing_4 : decode cX8_isThing 4 = .ok (.iload_n 1, 1) := by decide +kernel
theorem dX8_isThing_5 : decode cX8_isThing 5 = .ok (.aload_n 0, 1) := by decide +kernel
theorem dX8_isThing_6 : decode cX8_isThing 6 = .ok (.getfield 58, 3) := by decide +kernel
theorem dX8_isThing_9 : decode cX8_isThing 9 = .ok (.if_icmp .ge 7, 3) := by decide +kernel
theorem dX8_isThing_16 : decode cX8_isThing 16 = .ok (.iconst 0, 1) := by decide +kernel
theorem dX8_isThing_17 : decode cX8_isThing 17 = .ok (.ireturn, 1) := by decide +kernel
theorem dX8_isHeap_0 : decode cX8_isHeap 0 = .ok (.iload_n 1, 1) := by decide +kernel
theorem dX8_isHeap_1 : decode cX8_isHeap 1 = .ok (.ifCond .lt 17, 3) := by decide +kernel
theorem dX8_isHeap_4 : decode cX8_isHeap 4 = .ok (.iload_n 1, 1) := by decide +kernel
theorem dX8_isHeap_5 : decode cX8_isHeap 5 = .ok (.iconst 1, 1) := by decide +kernel
theorem dX8_isHeap_6 : decode cX8_isHeap 6 = .ok (.aload_n 0, 1) := by decide +kernel
theorem dX8_isHeap_7 : decode cX8_isHeap 7 = .ok (.getfield 58, 3) := by decide +kernel
theorem dX8_isHeap_10 : decode cX8_isHeap 10 = .ok (.ishl, 1) := by decide +kernel
theorem dX8_isHeap_11 : decode cX8_isHeap 11 = .ok (.if_icmp .ge 7, 3) := by decide +kernel
theorem dX8_isHeap_14 : decode cX8_isHeap 14 = .ok (.iconst 1, 1) := by decide +kernel
theorem dX8_isHeap_15 : decode cX8_isHeap 15 = .ok (.goto 4, 3) := by decide +kernel
theorem dX8_isHeap_18 : decode cX8_isHeap 18 = .ok (.iconst 0, 1) := by decide +kernel
theorem dX8_isHeap_19 : decode cX8_isHeap 19 = .ok (.ireturn, 1) := by decide +kernel
set_option maxRecDepth 20000 in
theorem ggX8_isSetting_X8_isHeap : GoodIn wsX8_isSetting wsX8_isHeap := goodIn_r _ [6, 7, 8, 9, 10, 11, 12, 13, 14, 15, 16, 17, 18, 19, 20, 21, 22, 23, 24] (by decide +kernel) (by decide +kernel)
set_option maxRecDepth 20000 in
theorem gX8_isSetting_X8_isHeap : GoodIn wsX8_isSetting (wsV RX8 63 RX8 yX8_isHeap wsX8_isHeap) := goodIn_app (goodIn_of _ (by decide +kernel)) ggX8_isSetting_X8_isHeap
theorem dX8_isSetting_0 : decode cX8_isSetting 0 = .ok (.iload_n 1, 1) := by decide +kernel
theorem dX8_isSetting_1 : decode cX8_isSetting 1 = .ok (.ifCond .lt 40, 3) := by decide +kernel
theorem dX8_isSetting_4 : decode cX8_isSetting 4 = .ok (.iload_n 1, 1) := by decide +kernel
theorem dX8_isSetting_5 : decode cX8_isSetting 5 = .ok (.ldc 62, 2) := by decide +kernel
theorem dX8_isSetting_7 : decode cX8_isSetting 7 = .ok (.if_icmp .ge 34, 3) := by decide +kernel
theorem dX8_isSetting_10 : decode cX8_isSetting 10 = .ok (.aload_n 0, 1) := by decide +kernel
theorem dX8_isSetting_11 : decode cX8_isSetting 11 = .ok (.iload_n 1, 1) := by decide +kernel
theorem dX8_isSetting_12 : decode cX8_isSetting 12 = .ok (.sipush 255, 3) := by decide +kernel
theorem dX8_isSetting_15 : decode cX8_isSetting 15 = .ok (.iand, 1) := by decide +kernel
theorem dX8_isSetting_16 : decode cX8_isSetting 16 = .ok (.invokevirtual 63, 3) := by decide +kernel
theorem dX8_isSetting_19 : decode cX8_isSetting 19 = .ok (.ifCond .eq 22, 3) := by decide +kernel
theorem dX8_isSetting_22 : decode cX8_isSetting 22 = .ok (.iload_n 1, 1) := by decide +kernel
theorem dX8_isSetting_23 : decode cX8_isSetting 23 = .ok (.bipush 8, 2) := by decide +kernel
theorem dX8_isSetting_25 : decode cX8_isSetting 25 = .ok (.ishr, 1) := by decide +kernel
theorem dX8_isSetting_26 : decode cX8_isSetting 26 = .ok (.iload_n 1, 1) := by decide +kernel
theorem dX8_isSetting_27 : decode cX8_isSetting 27 = .ok (.sipush 255, 3) := by decide +kernel
theorem dX8_isSetting_30 : decode cX8_isSetting 30 = .ok (.iand, 1) := by decide +kernel
theorem dX8_isSetting_31 : decode cX8_isSetting 31 = .ok (.iconst (-1), 1) := by decide +kernel
theorem dX8_isSetting_32 : decode cX8_isSetting 32 = .ok (.ixor, 1) := by decide +kernel
theorem dX8_isSetting_33 : decode cX8_isSetting 33 = .ok (.iand, 1) := by decide +kernel
theorem dX8_isSetting_34 : decode cX8_isSetting 34 = .ok (.ifCond .ne 7, 3) := by decide +kernel
theorem dX8_isSetting_37 : decode cX8_isSetting 37 = .ok (.iconst 1, 1) := by decide +kernel
theorem dX8_isSetting_38 : decode cX8_isSetting 38 = .ok (.goto 4, 3) := by decide +kernel
theorem dX8_isSetting_41 : decode cX8_isSetting 41 = .ok (.iconst 0, 1) := by decide +kernel
theorem dX8_isSetting_42 : decode cX8_isSetting 42 = .ok (.ireturn, 1) := by decide +kernel
theorem dX8_fresh_0 : decode cX8_fresh 0 = .ok (.iconst 0, 1) := by decide +kernel
theorem dX8_fresh_1 : decode cX8_fresh 1 = .ok (.istore_n 2, 1) := by decide +kernel
theorem dX8_fresh_2 : decode cX8_fresh 2 = .ok (.iload_n 2, 1) := by decide +kernel
theorem dX8_fresh_3 : decode cX8_fresh 3 = .ok (.sipush 128, 3) := by decide +kernel
theorem dX8_fresh_6 : decode cX8_fresh 6 = .ok (.if_icmp .ge 23, 3) := by decide +kernel
theorem dX8_fresh_9 : decode cX8_fresh 9 = .ok (.aload_n 0, 1) := by decide +kernel
theorem dX8_fresh_10 : decode cX8_fresh 10 = .ok (.getfield 17, 3) := by decide +kernel
theorem dX8_fresh_13 : decode cX8_fresh 13 = .ok (.sipush 128, 3) := by decide +kernel
theorem dX8_fresh_16 : decode cX8_fresh 16 = .ok (.iload_n 1, 1) := by decide +kernel
theorem dX8_fresh_17 : decode cX8_fresh 17 = .ok (.imul, 1) := by decide +kernel
theorem dX8_fresh_18 : decode cX8_fresh 18 = .ok (.iload_n 2, 1) := by decide +kernel
theorem dX8_fresh_19 : decode cX8_fresh 19 = .ok (.iadd, 1) := by decide +kernel
theorem dX8_fresh_20 : decode cX8_fresh 20 = .ok (.bipush 50, 2) := by decide +kernel
theorem dX8_fresh_22 : decode cX8_fresh 22 = .ok (.iastore, 1) := by decide +kernel
theorem dX8_fresh_23 : decode cX8_fresh 23 = .ok (.iinc 2 1, 3) := by decide +kernel
theorem dX8_fresh_26 : decode cX8_fresh 26 = .ok (.goto (-24), 3) := by decide +kernel
theorem dX8_fresh_29 : decode cX8_fresh 29 = .ok (.return_, 1) := by decide +kernel
set_option maxRecDepth 20000 in
theorem ggX8_thing_X8_fresh : GoodIn wsX8_thing wsX8_fresh := goodIn_r _ [8, 9, 10, 11, 12, 13, 14, 15, 16, 17, 18, 19, 20, 21, 22, 23, 24, 25, 26] (by decide +kernel) (by decide +kernel)
set_option maxRecDepth 20000 in
theorem gX8_thing_X8_fresh : GoodIn wsX8_thing (wsV RX8 67 RX8 yX8_fresh wsX8_fresh) := goodIn_app (goodIn_of _ (by decide +kernel)) ggX8_thing_X8_fresh
theorem dX8_thing_0 : decode cX8_thing 0 = .ok (.aload_n 0, 1) := by decide +kernel
theorem dX8_thing_1 : decode cX8_thing 1 = .ok (.getfield 58, 3) := by decide +kernel
theorem dX8_thing_4 : decode cX8_thing 4 = .ok (.bipush 8, 2) := by decide +kernel
theorem dX8_thing_6 : decode cX8_thing 6 = .ok (.if_icmp .ne 5, 3) := by decide +kernel
theorem dX8_thing_11 : decode cX8_thing 11 = .ok (.aload_n 0, 1) := by decide +kernel
theorem dX8_thing_12 : decode cX8_thing 12 = .ok (.getfield 9, 3) := by decide +kernel
theorem dX8_thing_15 : decode cX8_thing 15 = .ok (.aload_n 0, 1) := by decide +kernel
theorem dX8_thing_16 : decode cX8_thing 16 = .ok (.getfield 58, 3) := by decide +kernel
theorem dX8_thing_19 : decode cX8_thing 19 = .ok (.iload_n 1, 1) := by decide +kernel
theorem dX8_thing_20 : decode cX8_thing 20 = .ok (.bastore, 1) := by decide +kernel
theorem dX8_thing_21 : decode cX8_thing 21 = .ok (.aload_n 0, 1) := by decide +kernel
theorem dX8_thing_22 : decode cX8_thing 22 = .ok (.getfield 13, 3) := by decide +kernel
theorem dX8_thing_25 : decode cX8_thing 25 = .ok (.aload_n 0, 1) := by decide +kernel
theorem dX8_thing_26 : decode cX8_thing 26 = .ok (.getfield 58, 3) := by decide +kernel
theorem dX8_thing_29 : decode cX8_thing 29 = .ok (.iconst 0, 1) := by decide +kernel
theorem dX8_thing_30 : decode cX8_thing 30 = .ok (.iastore, 1) := by decide +kernel
theorem dX8_thing_31 : decode cX8_thing 31 = .ok (.aload_n 0, 1) := by decide +kernel
theorem dX8_thing_32 : decode cX8_thing 32 = .ok (.aload_n 0, 1) := by decide +kernel
theorem dX8_thing_33 : decode cX8_thing 33 = .ok (.getfield 58, 3) := by decide +kernel
theorem dX8_thing_36 : decode cX8_thing 36 = .ok (.invokevirtual 67, 3) := by decide +kernel
theorem dX8_thing_39 : decode cX8_thing 39 = .ok (.aload_n 0, 1) := by decide +kernel
theorem dX8_thing_40 : decode cX8_thing 40 = .ok (.dup, 1) := by decide +kernel
theorem dX8_thing_41 : decode cX8_thing 41 = .ok (.getfield 58, 3) := by decide +kernel
theorem dX8_thing_44 : decode cX8_thing 44 = .ok (.iconst 1, 1) := by decide +kernel
theorem dX8_thing_45 : decode cX8_thing 45 = .ok (.iadd, 1) := by decide +kernel
theorem dX8_thing_46 : decode cX8_thing 46 = .ok (.putfield 58, 3) := by decide +kernel
theorem dX8_thing_49 : decode cX8_thing 49 = .ok (.aload_n 0, 1) := by decide +kernel
theorem dX8_thing_50 : decode cX8_thing 50 = .ok (.getfield 58, 3) := by decide +kernel
theorem dX8_thing_53 : decode cX8_thing 53 = .ok (.iconst 1, 1) := by decide +kernel
theorem dX8_thing_54 : decode cX8_thing 54 = .ok (.isub, 1) := by decide +kernel
theorem dX8_thing_55 : decode cX8_thing 55 = .ok (.ireturn, 1) := by decide +kernel
set_option maxRecDepth 20000 in
theorem ggX8_has_X8_isThing : GoodIn wsX8_has wsX8_isThing := goodIn_r _ [6, 7, 8, 9, 10, 11, 12, 13, 14, 15, 16, 17, 18, 19, 20, 21, 22, 23, 24] (by decide +kernel) (by decide +kernel)
set_option maxRecDepth 20000 in
theorem gX8_has_X8_isThing : GoodIn wsX8_has (wsV RX8 71 RX8 yX8_isThing wsX8_isThing) := goodIn_app (goodIn_of _ (by decide +kernel)) ggX8_has_X8_isThing
theorem dX8_has_0 : decode cX8_has 0 = .ok (.aload_n 0, 1) := by decide +kernel
theorem dX8_has_1 : decode cX8_has 1 = .ok (.iload_n 1, 1) := by decide +kernel
theorem dX8_has_2 : decode cX8_has 2 = .ok (.invokevirtual 71, 3) := by decide +kernel
theorem dX8_has_5 : decode cX8_has 5 = .ok (.ifCond .eq 29, 3) := by decide +kernel
theorem dX8_has_34 : decode cX8_has 34 = .ok (.iconst 0, 1) := by decide +kernel
theorem dX8_has_35 : decode cX8_has 35 = .ok (.ireturn, 1) := by decide +kernel
set_option maxRecDepth 20000 in
theorem ggX8_arrow_X8_isThing : GoodIn wsX8_arrow wsX8_isThing := goodIn_r _ [6, 7, 25, 26, 27, 28, 29, 30, 31, 32, 33, 34, 35, 36, 37, 38, 39, 40, 41] (by decide +kernel) (by decide +kernel)
set_option maxRecDepth 20000 in
theorem gX8_arrow_X8_isThing : GoodIn wsX8_arrow (wsV RX8 71 RX8 yX8_isThing wsX8_isThing) := goodIn_app (goodIn_of _ (by decide +kernel)) ggX8_arrow_X8_isThing
theorem dX8_arrow_0 : decode cX8_arrow 0 = .ok (.aload_n 0, 1) := by decide +kernel
theorem dX8_arrow_1 : decode cX8_arrow 1 = .ok (.iload_n 1, 1) := by decide +kernel
theorem dX8_arrow_2 : decode cX8_arrow 2 = .ok (.invokevirtual 71, 3) := by decide +kernel
theorem dX8_arrow_5 : decode cX8_arrow 5 = .ok (.ifCond .eq 48, 3) := by decide +kernel
theorem dX8_arrow_53 : decode cX8_arrow 53 = .ok (.iconst 0, 1) := by decide +kernel
theorem dX8_arrow_54 : decode cX8_arrow 54 = .ok (.ireturn, 1) := by decide +kernel
set_option maxRecDepth 20000 in
theorem ggX8_cut_X8_has : GoodIn wsX8_cut wsX8_has := goodIn_r _ [6, 1, 7, 8, 9, 5, 10, 11, 17, 18, 19, 20, 21, 22, 23, 24, 25, 26, 27, 28, 29, 30, 31, 32, 33] (by decide +kernel) (by decide +kernel)
set_option maxRecDepth 20000 in
theorem gX8_cut_X8_has : GoodIn wsX8_cut (wsV RX8 78 RX8 yX8_has wsX8_has) := goodIn_app (goodIn_of _ (by decide +kernel)) ggX8_cut_X8_has
theorem dX8_cut_0 : decode cX8_cut 0 = .ok (.aload_n 0, 1) := by decide +kernel
theorem dX8_cut_1 : decode cX8_cut 1 = .ok (.iload_n 1, 1) := by decide +kernel
theorem dX8_cut_2 : decode cX8_cut 2 = .ok (.iload_n 2, 1) := by decide +kernel
theorem dX8_cut_3 : decode cX8_cut 3 = .ok (.invokevirtual 78, 3) := by decide +kernel
theorem dX8_cut_6 : decode cX8_cut 6 = .ok (.ifCond .ne 5, 3) := by decide +kernel
theorem dX8_cut_9 : decode cX8_cut 9 = .ok (.iconst 0, 1) := by decide +kernel
theorem dX8_cut_10 : decode cX8_cut 10 = .ok (.ireturn, 1) := by decide +kernel
set_option maxRecDepth 20000 in
theorem ggX8_turn_X8_has : GoodIn wsX8_turn wsX8_has := goodIn_r _ [6, 1, 7, 8, 9, 5, 10, 11, 25, 26, 27, 28, 29, 30, 31, 32, 33, 34, 35, 36, 37, 38, 39, 40, 41] (by decide +kernel) (by decide +kernel)
set_option maxRecDepth 20000 in
theorem gX8_turn_X8_has : GoodIn wsX8_turn (wsV RX8 78 RX8 yX8_has wsX8_has) := goodIn_app (goodIn_of _ (by decide +kernel)) ggX8_turn_X8_has
theorem dX8_turn_0 : decode cX8_turn 0 = .ok (.aload_n 0, 1) := by decide +kernel
theorem dX8_turn_1 : decode cX8_turn 1 = .ok (.iload_n 1, 1) := by decide +kernel
theorem dX8_turn_2 : decode cX8_turn 2 = .ok (.iload_n 2, 1) := by decide +kernel
theorem dX8_turn_3 : decode cX8_turn 3 = .ok (.invokevirtual 78, 3) := by decide +kernel
theorem dX8_turn_6 : decode cX8_turn 6 = .ok (.ifCond .ne 5, 3) := by decide +kernel
theorem dX8_turn_9 : decode cX8_turn 9 = .ok (.iconst 0, 1) := by decide +kernel
theorem dX8_turn_10 : decode cX8_turn 10 = .ok (.ireturn, 1) := by decide +kernel
set_option maxRecDepth 20000 in
theorem ggX8_isRow_X8_isThing : GoodIn wsX8_isRow wsX8_isThing := goodIn_r _ [6, 7, 11, 12, 13, 14, 15, 16, 17, 18, 19, 20, 21, 22, 23, 24, 25, 26, 27] (by decide +kernel) (by decide +kernel)
set_option maxRecDepth 20000 in
theorem gX8_isRow_X8_isThing : GoodIn wsX8_isRow (wsV RX8 71 RX8 yX8_isThing wsX8_isThing) := goodIn_app (goodIn_of _ (by decide +kernel)) ggX8_isRow_X8_isThing
theorem dX8_isRow_0 : decode cX8_isRow 0 = .ok (.aload_n 0, 1) := by decide +kernel
theorem dX8_isRow_1 : decode cX8_isRow 1 = .ok (.iload_n 1, 1) := by decide +kernel
theorem dX8_isRow_2 : decode cX8_isRow 2 = .ok (.invokevirtual 71, 3) := by decide +kernel
theorem dX8_isRow_5 : decode cX8_isRow 5 = .ok (.ifCond .eq 26, 3) := by decide +kernel
theorem dX8_isRow_31 : decode cX8_isRow 31 = .ok (.iconst 0, 1) := by decide +kernel
theorem dX8_isRow_32 : decode cX8_isRow 32 = .ok (.ireturn, 1) := by decide +kernel
set_option maxRecDepth 20000 in
theorem ggX8_book_X8_isRow : GoodIn wsX8_book wsX8_isRow := goodIn_r _ [6, 7, 8, 9, 10, 5, 11, 12, 13, 14, 15, 16, 17, 18, 19, 20, 21, 22, 23, 24, 25, 26, 27, 28, 29, 30, 31, 32] (by decide +kernel) (by decide +kernel)
set_option maxRecDepth 20000 in
theorem gX8_book_X8_isRow : GoodIn wsX8_book (wsV RX8 90 RX8 yX8_isRow wsX8_isRow) := goodIn_app (goodIn_of _ (by decide +kernel)) ggX8_book_X8_isRow
theorem dX8_book_0 : decode cX8_book 0 = .ok (.aload_n 0, 1) := by decide +kernel
theorem dX8_book_1 : decode cX8_book 1 = .ok (.iload_n 1, 1) := by decide +kernel
theorem dX8_book_2 : decode cX8_book 2 = .ok (.iload_n 2, 1) := by decide +kernel
theorem dX8_book_3 : decode cX8_book 3 = .ok (.invokevirtual 90, 3) := by decide +kernel
theorem dX8_book_6 : decode cX8_book 6 = .ok (.ifCond .eq 13, 3) := by decide +kernel
theorem dX8_book_19 : decode cX8_book 19 = .ok (.iconst 0, 1) := by decide +kernel
theorem dX8_book_20 : decode cX8_book 20 = .ok (.ireturn, 1) := by decide +kernel
set_option maxRecDepth 20000 in
theorem ggX8_booked_X8_isRow : GoodIn wsX8_booked wsX8_isRow := goodIn_r _ [6, 7, 8, 9, 10, 5, 11, 12, 13, 14, 15, 16, 17, 18, 19, 20, 21, 22, 23, 24, 25, 26, 27, 28, 29, 30, 31, 32] (by decide +kernel) (by decide +kernel)
set_option maxRecDepth 20000 in
theorem gX8_booked_X8_isRow : GoodIn wsX8_booked (wsV RX8 90 RX8 yX8_isRow wsX8_isRow) := goodIn_app (goodIn_of _ (by decide +kernel)) ggX8_booked_X8_isRow
theorem dX8_booked_0 : decode cX8_booked 0 = .ok (.aload_n 0, 1) := by decide +kernel
theorem dX8_booked_1 : decode cX8_booked 1 = .ok (.iload_n 1, 1) := by decide +kernel
theorem dX8_booked_2 : decode cX8_booked 2 = .ok (.iload_n 2, 1) := by decide +kernel
theorem dX8_booked_3 : decode cX8_booked 3 = .ok (.invokevirtual 90, 3) := by decide +kernel
theorem dX8_booked_6 : decode cX8_booked 6 = .ok (.ifCond .eq 18, 3) := by decide +kernel
theorem dX8_booked_24 : decode cX8_booked 24 = .ok (.iconst (-1), 1) := by decide +kernel
theorem dX8_booked_25 : decode cX8_booked 25 = .ok (.ireturn, 1) := by decide +kernel
set_option maxRecDepth 20000 in
theorem ggX8_told_X8_isThing : GoodIn wsX8_told wsX8_isThing := goodIn_r _ [8, 3, 21, 22, 23, 24, 25, 26, 27, 28, 29, 30, 31, 32, 33, 34, 35, 36, 37] (by decide +kernel) (by decide +kernel)
set_option maxRecDepth 20000 in
theorem gX8_told_X8_isThing : GoodIn wsX8_told (wsV RX8 71 RX8 yX8_isThing wsX8_isThing) := goodIn_app (goodIn_of _ (by decide +kernel)) ggX8_told_X8_isThing
theorem dX8_told_0 : decode cX8_told 0 = .ok (.aload_n 0, 1) := by decide +kernel
theorem dX8_told_1 : decode cX8_told 1 = .ok (.iload_n 1, 1) := by decide +kernel
theorem dX8_told_2 : decode cX8_told 2 = .ok (.invokevirtual 71, 3) := by decide +kernel
theorem dX8_told_5 : decode cX8_told 5 = .ok (.ifCond .ne 5, 3) := by decide +kernel
theorem dX8_told_8 : decode cX8_told 8 = .ok (.iconst (-1), 1) := by decide +kernel
theorem dX8_told_9 : decode cX8_told 9 = .ok (.ireturn, 1) := by decide +kernel
theorem dX8_weightOf_0 : decode cX8_weightOf 0 = .ok (.iload_n 1, 1) := by decide +kernel
theorem dX8_weightOf_1 : decode cX8_weightOf 1 = .ok (.iload_n 2, 1) := by decide +kernel
theorem dX8_weightOf_2 : decode cX8_weightOf 2 = .ok (.bipush 8, 2) := by decide +kernel
theorem dX8_weightOf_4 : decode cX8_weightOf 4 = .ok (.ishr, 1) := by decide +kernel
theorem dX8_weightOf_5 : decode cX8_weightOf 5 = .ok (.ixor, 1) := by decide +kernel
theorem dX8_weightOf_6 : decode cX8_weightOf 6 = .ok (.iload_n 2, 1) := by decide +kernel
theorem dX8_weightOf_7 : decode cX8_weightOf 7 = .ok (.iand, 1) := by decide +kernel
theorem dX8_weightOf_8 : decode cX8_weightOf 8 = .ok (.sipush 255, 3) := by decide +kernel
theorem dX8_weightOf_11 : decode cX8_weightOf 11 = .ok (.iand, 1) := by decide +kernel
theorem dX8_weightOf_12 : decode cX8_weightOf 12 = .ok (.ifCond .eq 5, 3) := by decide +kernel
theorem dX8_weightOf_17 : decode cX8_weightOf 17 = .ok (.lconst 1, 1) := by decide +kernel
theorem dX8_weightOf_18 : decode cX8_weightOf 18 = .ok (.lstore_n 3, 1) := by decide +kernel
theorem dX8_weightOf_19 : decode cX8_weightOf 19 = .ok (.iconst 0, 1) := by decide +kernel
theorem dX8_weightOf_20 : decode cX8_weightOf 20 = .ok (.istore 5, 2) := by decide +kernel
theorem dX8_weightOf_22 : decode cX8_weightOf 22 = .ok (.iload 5, 2) := by decide +kernel
theorem dX8_weightOf_24 : decode cX8_weightOf 24 = .ok (.aload_n 0, 1) := by decide +kernel
theorem dX8_weightOf_25 : decode cX8_weightOf 25 = .ok (.getfield 58, 3) := by decide +kernel
theorem dX8_weightOf_28 : decode cX8_weightOf 28 = .ok (.if_icmp .ge 59, 3) := by decide +kernel
theorem dX8_weightOf_87 : decode cX8_weightOf 87 = .ok (.lload_n 3, 1) := by decide +kernel
theorem dX8_weightOf_88 : decode cX8_weightOf 88 = .ok (.lreturn, 1) := by decide +kernel
set_option maxRecDepth 20000 in
theorem ggX8_sum_X8_weightOf : GoodIn wsX8_sum wsX8_weightOf := goodIn_r _ [6, 1, 7, 8, 9, 10, 5, 11, 12, 13, 14, 15, 16, 17, 18, 19, 20, 21, 22, 23, 24, 25, 26, 27, 28, 29, 30] (by decide +kernel) (by decide +kernel)
set_option maxRecDepth 20000 in
theorem gX8_sum_X8_weightOf : GoodIn wsX8_sum (wsV RX8 98 RX8 yX8_weightOf wsX8_weightOf) := goodIn_app (goodIn_of _ (by decide +kernel)) ggX8_sum_X8_weightOf
theorem dX8_sum_0 : decode cX8_sum 0 = .ok (.lconst 0, 1) := by decide +kernel
theorem dX8_sum_1 : decode cX8_sum 1 = .ok (.lstore_n 3, 1) := by decide +kernel
theorem dX8_sum_2 : decode cX8_sum 2 = .ok (.iconst 0, 1) := by decide +kernel
theorem dX8_sum_3 : decode cX8_sum 3 = .ok (.istore 5, 2) := by decide +kernel
theorem dX8_sum_5 : decode cX8_sum 5 = .ok (.iload 5, 2) := by decide +kernel
theorem dX8_sum_7 : decode cX8_sum 7 = .ok (.iconst 1, 1) := by decide +kernel
theorem dX8_sum_8 : decode cX8_sum 8 = .ok (.aload_n 0, 1) := by decide +kernel
theorem dX8_sum_9 : decode cX8_sum 9 = .ok (.getfield 58, 3) := by decide +kernel
theorem dX8_sum_12 : decode cX8_sum 12 = .ok (.ishl, 1) := by decide +kernel
theorem dX8_sum_13 : decode cX8_sum 13 = .ok (.if_icmp .ge 35, 3) := by decide +kernel
theorem dX8_sum_16 : decode cX8_sum 16 = .ok (.iload 5, 2) := by decide +kernel
theorem dX8_sum_18 : decode cX8_sum 18 = .ok (.iload_n 1, 1) := by decide +kernel
theorem dX8_sum_19 : decode cX8_sum 19 = .ok (.bipush 8, 2) := by decide +kernel
theorem dX8_sum_21 : decode cX8_sum 21 = .ok (.ishr, 1) := by decide +kernel
theorem dX8_sum_22 : decode cX8_sum 22 = .ok (.ixor, 1) := by decide +kernel
theorem dX8_sum_23 : decode cX8_sum 23 = .ok (.iload_n 1, 1) := by decide +kernel
theorem dX8_sum_24 : decode cX8_sum 24 = .ok (.iand, 1) := by decide +kernel
theorem dX8_sum_25 : decode cX8_sum 25 = .ok (.sipush 255, 3) := by decide +kernel
theorem dX8_sum_28 : decode cX8_sum 28 = .ok (.iand, 1) := by decide +kernel
theorem dX8_sum_29 : decode cX8_sum 29 = .ok (.ifCond .ne 13, 3) := by decide +kernel
theorem dX8_sum_32 : decode cX8_sum 32 = .ok (.lload_n 3, 1) := by decide +kernel
theorem dX8_sum_33 : decode cX8_sum 33 = .ok (.aload_n 0, 1) := by decide +kernel
theorem dX8_sum_34 : decode cX8_sum 34 = .ok (.iload 5, 2) := by decide +kernel
theorem dX8_sum_36 : decode cX8_sum 36 = .ok (.iload_n 2, 1) := by decide +kernel
theorem dX8_sum_37 : decode cX8_sum 37 = .ok (.invokevirtual 98, 3) := by decide +kernel
theorem dX8_sum_40 : decode cX8_sum 40 = .ok (.ladd, 1) := by decide +kernel
theorem dX8_sum_41 : decode cX8_sum 41 = .ok (.lstore_n 3, 1) := by decide +kernel
theorem dX8_sum_42 : decode cX8_sum 42 = .ok (.iinc 5 1, 3) := by decide +kernel
theorem dX8_sum_45 : decode cX8_sum 45 = .ok (.goto (-40), 3) := by decide +kernel
theorem dX8_sum_48 : decode cX8_sum 48 = .ok (.lload_n 3, 1) := by decide +kernel
theorem dX8_sum_49 : decode cX8_sum 49 = .ok (.lreturn, 1) := by decide +kernel
set_option maxRecDepth 20000 in
theorem ggX8_weight_X8_isSetting : GoodIn wsX8_weight wsX8_isSetting := goodIn_r _ [6, 7, 8, 9, 10, 5, 11, 12, 28, 29, 30, 31, 32, 33, 34, 35, 36, 37, 38, 39, 40, 41, 42, 43, 44] (by decide +kernel) (by decide +kernel)
set_option maxRecDepth 20000 in
theorem gX8_weight_X8_isSetting : GoodIn wsX8_weight (wsV RX8 102 RX8 yX8_isSetting wsX8_isSetting) := goodIn_app (goodIn_of _ (by decide +kernel)) ggX8_weight_X8_isSetting
set_option maxRecDepth 20000 in
theorem ggX8_weight_X8_sum : GoodIn wsX8_weight wsX8_sum := goodIn_r _ [16, 12, 17, 18, 19, 5, 20, 21, 22, 23, 24, 25, 26, 27, 28, 29, 30, 31, 32, 33, 34, 35, 36, 37, 38, 39, 40, 41, 42, 43, 44] (by decide +kernel) (by decide +kernel)
set_option maxRecDepth 20000 in
theorem gX8_weight_X8_sum : GoodIn wsX8_weight (wsV RX8 105 RX8 yX8_sum wsX8_sum) := goodIn_app (goodIn_of _ (by decide +kernel)) ggX8_weight_X8_sum
theorem dX8_weight_0 : decode cX8_weight 0 = .ok (.aload_n 0, 1) := by decide +kernel
theorem dX8_weight_1 : decode cX8_weight 1 = .ok (.iload_n 1, 1) := by decide +kernel
theorem dX8_weight_2 : decode cX8_weight 2 = .ok (.invokevirtual 102, 3) := by decide +kernel
theorem dX8_weight_5 : decode cX8_weight 5 = .ok (.ifCond .eq 20, 3) := by decide +kernel
theorem dX8_weight_8 : decode cX8_weight 8 = .ok (.aload_n 0, 1) := by decide +kernel
theorem dX8_weight_9 : decode cX8_weight 9 = .ok (.iload_n 2, 1) := by decide +kernel
theorem dX8_weight_10 : decode cX8_weight 10 = .ok (.invokevirtual 102, 3) := by decide +kernel
theorem dX8_weight_13 : decode cX8_weight 13 = .ok (.ifCond .eq 12, 3) := by decide +kernel
theorem dX8_weight_16 : decode cX8_weight 16 = .ok (.aload_n 0, 1) := by decide +kernel
theorem dX8_weight_17 : decode cX8_weight 17 = .ok (.iload_n 1, 1) := by decide +kernel
theorem dX8_weight_18 : decode cX8_weight 18 = .ok (.iload_n 2, 1) := by decide +kernel
theorem dX8_weight_19 : decode cX8_weight 19 = .ok (.invokevirtual 105, 3) := by decide +kernel
theorem dX8_weight_22 : decode cX8_weight 22 = .ok (.goto 6, 3) := by decide +kernel
theorem dX8_weight_25 : decode cX8_weight 25 = .ok (.ldc2_w 108, 3) := by decide +kernel
theorem dX8_weight_28 : decode cX8_weight 28 = .ok (.lreturn, 1) := by decide +kernel
theorem dX8_shared_0 : decode cX8_shared 0 = .ok (.lload_n 0, 1) := by decide +kernel
theorem dX8_shared_1 : decode cX8_shared 1 = .ok (.lstore 4, 2) := by decide +kernel
theorem dX8_shared_3 : decode cX8_shared 3 = .ok (.lload_n 2, 1) := by decide +kernel
theorem dX8_shared_4 : decode cX8_shared 4 = .ok (.lstore 6, 2) := by decide +kernel
theorem dX8_shared_6 : decode cX8_shared 6 = .ok (.lload 6, 2) := by decide +kernel
theorem dX8_shared_8 : decode cX8_shared 8 = .ok (.lconst 0, 1) := by decide +kernel
theorem dX8_shared_9 : decode cX8_shared 9 = .ok (.lcmp, 1) := by decide +kernel
theorem dX8_shared_10 : decode cX8_shared 10 = .ok (.ifCond .eq 21, 3) := by decide +kernel
theorem dX8_shared_13 : decode cX8_shared 13 = .ok (.lload 4, 2) := by decide +kernel
theorem dX8_shared_15 : decode cX8_shared 15 = .ok (.lload 6, 2) := by decide +kernel
theorem dX8_shared_17 : decode cX8_shared 17 = .ok (.lrem, 1) := by decide +kernel
theorem dX8_shared_18 : decode cX8_shared 18 = .ok (.lstore 8, 2) := by decide +kernel
theorem dX8_shared_20 : decode cX8_shared 20 = .ok (.lload 6, 2) := by decide +kernel
theorem dX8_shared_22 : decode cX8_shared 22 = .ok (.lstore 4, 2) := by decide +kernel
theorem dX8_shared_24 : decode cX8_shared 24 = .ok (.lload 8, 2) := by decide +kernel
theorem dX8_shared_26 : decode cX8_shared 26 = .ok (.lstore 6, 2) := by decide +kernel
theorem dX8_shared_28 : decode cX8_shared 28 = .ok (.goto (-22), 3) := by decide +kernel
theorem dX8_shared_31 : decode cX8_shared 31 = .ok (.lload 4, 2) := by decide +kernel
theorem dX8_shared_33 : decode cX8_shared 33 = .ok (.lreturn, 1) := by decide +kernel
set_option maxRecDepth 20000 in
theorem ggX8_chance_X8_isSetting : GoodIn wsX8_chance wsX8_isSetting := goodIn_r _ [8, 9, 10, 11, 12, 7, 13, 3, 32, 33, 34, 35, 36, 37, 38, 39, 40, 41, 42, 43, 44, 45, 46, 47, 48] (by decide +kernel) (by decide +kernel)
set_option maxRecDepth 20000 in
theorem gX8_chance_X8_isSetting : GoodIn wsX8_chance (wsV RX8 102 RX8 yX8_isSetting wsX8_isSetting) := goodIn_app (goodIn_of _ (by decide +kernel)) ggX8_chance_X8_isSetting
set_option maxRecDepth 20000 in
theorem ggX8_chance_X8_sum : GoodIn wsX8_chance wsX8_sum := goodIn_r _ [17, 3, 18, 19, 20, 7, 21, 22, 23, 24, 25, 26, 27, 28, 32, 33, 34, 35, 36, 37, 38, 39, 40, 41, 42, 43, 44, 45, 46, 47, 48] (by decide +kernel) (by decide +kernel)
set_option maxRecDepth 20000 in
theorem gX8_chance_X8_sum : GoodIn wsX8_chance (wsV RX8 105 RX8 yX8_sum wsX8_sum) := goodIn_app (goodIn_of _ (by decide +kernel)) ggX8_chance_X8_sum
set_option maxRecDepth 20000 in
theorem ggX8_chance_X8_weightOf : GoodIn wsX8_chance wsX8_weightOf := goodIn_r _ [21, 3, 22, 23, 24, 25, 7, 26, 27, 28, 32, 33, 34, 35, 36, 37, 38, 39, 40, 41, 42, 43, 44, 45, 46, 47, 48] (by decide +kernel) (by decide +kernel)
set_option maxRecDepth 20000 in
theorem gX8_chance_X8_weightOf : GoodIn wsX8_chance (wsV RX8 98 RX8 yX8_weightOf wsX8_weightOf) := goodIn_app (goodIn_of _ (by decide +kernel)) ggX8_chance_X8_weightOf
set_option maxRecDepth 20000 in
theorem ggX8_chance_X8_shared : GoodIn wsX8_chance wsX8_shared := goodIn_r _ [31] (by decide +kernel) (by decide +kernel)
set_option maxRecDepth 20000 in
theorem gX8_chance_X8_shared : GoodIn wsX8_chance (va_wsS RX8 113 yX8_shared wsX8_shared) := goodIn_app (goodIn_of _ (by decide +kernel)) ggX8_chance_X8_shared
theorem dX8_chance_0 : decode cX8_chance 0 = .ok (.aload_n 0, 1) := by decide +kernel
theorem dX8_chance_1 : decode cX8_chance 1 = .ok (.lconst 0, 1) := by decide +kernel
theorem dX8_chance_2 : decode cX8_chance 2 = .ok (.putfield 110, 3) := by decide +kernel
theorem dX8_chance_5 : decode cX8_chance 5 = .ok (.aload_n 0, 1) := by decide +kernel
theorem dX8_chance_6 : decode cX8_chance 6 = .ok (.lconst 1, 1) := by decide +kernel
theorem dX8_chance_7 : decode cX8_chance 7 = .ok (.putfield 20, 3) := by decide +kernel
theorem dX8_chance_10 : decode cX8_chance 10 = .ok (.aload_n 0, 1) := by decide +kernel
theorem dX8_chance_11 : decode cX8_chance 11 = .ok (.iload_n 1, 1) := by decide +kernel
theorem dX8_chance_12 : decode cX8_chance 12 = .ok (.invokevirtual 102, 3) := by decide +kernel
theorem dX8_chance_15 : decode cX8_chance 15 = .ok (.ifCond .eq 19, 3) := by decide +kernel
theorem dX8_chance_18 : decode cX8_chance 18 = .ok (.aload_n 0, 1) := by decide +kernel
theorem dX8_chance_19 : decode cX8_chance 19 = .ok (.iload_n 2, 1) := by decide +kernel
theorem dX8_chance_20 : decode cX8_chance 20 = .ok (.invokevirtual 102, 3) := by decide +kernel
theorem dX8_chance_23 : decode cX8_chance 23 = .ok (.ifCond .eq 11, 3) := by decide +kernel
theorem dX8_chance_26 : decode cX8_chance 26 = .ok (.aload_n 0, 1) := by decide +kernel
theorem dX8_chance_27 : decode cX8_chance 27 = .ok (.iload_n 3, 1) := by decide +kernel
theorem dX8_chance_28 : decode cX8_chance 28 = .ok (.invokevirtual 102, 3) := by decide +kernel
theorem dX8_chance_31 : decode cX8_chance 31 = .ok (.ifCond .ne 5, 3) := by decide +kernel
theorem dX8_chance_34 : decode cX8_chance 34 = .ok (.iconst (-1), 1) := by decide +kernel
theorem dX8_chance_35 : decode cX8_chance 35 = .ok (.ireturn, 1) := by decide +kernel
theorem dX8_chance_36 : decode cX8_chance 36 = .ok (.aload_n 0, 1) := by decide +kernel
theorem dX8_chance_37 : decode cX8_chance 37 = .ok (.iload_n 2, 1) := by decide +kernel
theorem dX8_chance_38 : decode cX8_chance 38 = .ok (.iload_n 3, 1) := by decide +kernel
theorem dX8_chance_39 : decode cX8_chance 39 = .ok (.invokevirtual 105, 3) := by decide +kernel
theorem dX8_chance_42 : decode cX8_chance 42 = .ok (.lstore 4, 2) := by decide +kernel
theorem dX8_chance_44 : decode cX8_chance 44 = .ok (.lload 4, 2) := by decide +kernel
theorem dX8_chance_46 : decode cX8_chance 46 = .ok (.lconst 0, 1) := by decide +kernel
theorem dX8_chance_47 : decode cX8_chance 47 = .ok (.lcmp, 1) := by decide +kernel
theorem dX8_chance_48 : decode cX8_chance 48 = .ok (.ifCond .ne 5, 3) := by decide +kernel
theorem dX8_chance_53 : decode cX8_chance 53 = .ok (.lconst 0, 1) := by decide +kernel
theorem dX8_chance_54 : decode cX8_chance 54 = .ok (.lstore 6, 2) := by decide +kernel
theorem dX8_chance_56 : decode cX8_chance 56 = .ok (.iconst 0, 1) := by decide +kernel
theorem dX8_chance_57 : decode cX8_chance 57 = .ok (.istore 8, 2) := by decide +kernel
theorem dX8_chance_59 : decode cX8_chance 59 = .ok (.iload 8, 2) := by decide +kernel
theorem dX8_chance_61 : decode cX8_chance 61 = .ok (.iconst 1, 1) := by decide +kernel
theorem dX8_chance_62 : decode cX8_chance 62 = .ok (.aload_n 0, 1) := by decide +kernel
theorem dX8_chance_63 : decode cX8_chance 63 = .ok (.getfield 58, 3) := by decide +kernel
theorem dX8_chance_66 : decode cX8_chance 66 = .ok (.ishl, 1) := by decide +kernel
theorem dX8_chance_67 : decode cX8_chance 67 = .ok (.if_icmp .ge 65, 3) := by decide +kernel
theorem dX8_chance_70 : decode cX8_chance 70 = .ok (.iload 8, 2) := by decide +kernel
theorem dX8_chance_72 : decode cX8_chance 72 = .ok (.iload_n 1, 1) := by decide +kernel
theorem dX8_chance_73 : decode cX8_chance 73 = .ok (.bipush 8, 2) := by decide +kernel
theorem dX8_chance_75 : decode cX8_chance 75 = .ok (.ishr, 1) := by decide +kernel
theorem dX8_chance_76 : decode cX8_chance 76 = .ok (.ixor, 1) := by decide +kernel
theorem dX8_chance_77 : decode cX8_chance 77 = .ok (.iload_n 1, 1) := by decide +kernel
theorem dX8_chance_78 : decode cX8_chance 78 = .ok (.iand, 1) := by decide +kernel
theorem dX8_chance_79 : decode cX8_chance 79 = .ok (.sipush 255, 3) := by decide +kernel
theorem dX8_chance_82 : decode cX8_chance 82 = .ok (.iand, 1) := by decide +kernel
theorem dX8_chance_83 : decode cX8_chance 83 = .ok (.ifCond .ne 23, 3) := by decide +kernel
theorem dX8_chance_86 : decode cX8_chance 86 = .ok (.iload 8, 2) := by decide +kernel
theorem dX8_chance_88 : decode cX8_chance 88 = .ok (.iload_n 2, 1) := by decide +kernel
theorem dX8_chance_89 : decode cX8_chance 89 = .ok (.bipush 8, 2) := by decide +kernel
theorem dX8_chance_91 : decode cX8_chance 91 = .ok (.ishr, 1) := by decide +kernel
theorem dX8_chance_92 : decode cX8_chance 92 = .ok (.ixor, 1) := by decide +kernel
theorem dX8_chance_93 : decode cX8_chance 93 = .ok (.iload_n 2, 1) := by decide +kernel
theorem dX8_chance_94 : decode cX8_chance 94 = .ok (.iand, 1) := by decide +kernel
theorem dX8_chance_95 : decode cX8_chance 95 = .ok (.sipush 255, 3) := by decide +kernel
theorem dX8_chance_98 : decode cX8_chance 98 = .ok (.iand, 1) := by decide +kernel
theorem dX8_chance_99 : decode cX8_chance 99 = .ok (.ifCond .ne 7, 3) := by decide +kernel
theorem dX8_chance_102 : decode cX8_chance 102 = .ok (.iconst 1, 1) := by decide +kernel
theorem dX8_chance_103 : decode cX8_chance 103 = .ok (.goto 4, 3) := by decide +kernel
theorem dX8_chance_107 : decode cX8_chance 107 = .ok (.istore 9, 2) := by decide +kernel
theorem dX8_chance_109 : decode cX8_chance 109 = .ok (.iload 9, 2) := by decide +kernel
theorem dX8_chance_111 : decode cX8_chance 111 = .ok (.ifCond .eq 15, 3) := by decide +kernel
theorem dX8_chance_114 : decode cX8_chance 114 = .ok (.lload 6, 2) := by decide +kernel
theorem dX8_chance_116 : decode cX8_chance 116 = .ok (.aload_n 0, 1) := by decide +kernel
theorem dX8_chance_117 : decode cX8_chance 117 = .ok (.iload 8, 2) := by decide +kernel
theorem dX8_chance_119 : decode cX8_chance 119 = .ok (.iload_n 3, 1) := by decide +kernel
theorem dX8_chance_120 : decode cX8_chance 120 = .ok (.invokevirtual 98, 3) := by decide +kernel
theorem dX8_chance_123 : decode cX8_chance 123 = .ok (.ladd, 1) := by decide +kernel
theorem dX8_chance_124 : decode cX8_chance 124 = .ok (.lstore 6, 2) := by decide +kernel
theorem dX8_chance_126 : decode cX8_chance 126 = .ok (.iinc 8 1, 3) := by decide +kernel
theorem dX8_chance_129 : decode cX8_chance 129 = .ok (.goto (-70), 3) := by decide +kernel
theorem dX8_chance_132 : decode cX8_chance 132 = .ok (.lload 6, 2) := by decide +kernel
theorem dX8_chance_134 : decode cX8_chance 134 = .ok (.lload 4, 2) := by decide +kernel
theorem dX8_chance_136 : decode cX8_chance 136 = .ok (.invokestatic 113, 3) := by decide +kernel
theorem dX8_chance_139 : decode cX8_chance 139 = .ok (.lstore 8, 2) := by decide +kernel
theorem dX8_chance_141 : decode cX8_chance 141 = .ok (.aload_n 0, 1) := by decide +kernel
theorem dX8_chance_142 : decode cX8_chance 142 = .ok (.lload 6, 2) := by decide +kernel
theorem dX8_chance_144 : decode cX8_chance 144 = .ok (.lload 8, 2) := by decide +kernel
theorem dX8_chance_146 : decode cX8_chance 146 = .ok (.ldiv, 1) := by decide +kernel
theorem dX8_chance_147 : decode cX8_chance 147 = .ok (.putfield 110, 3) := by decide +kernel
theorem dX8_chance_150 : decode cX8_chance 150 = .ok (.aload_n 0, 1) := by decide +kernel
theorem dX8_chance_151 : decode cX8_chance 151 = .ok (.lload 4, 2) := by decide +kernel
theorem dX8_chance_153 : decode cX8_chance 153 = .ok (.lload 8, 2) := by decide +kernel
theorem dX8_chance_155 : decode cX8_chance 155 = .ok (.ldiv, 1) := by decide +kernel
theorem dX8_chance_156 : decode cX8_chance 156 = .ok (.putfield 20, 3) := by decide +kernel
theorem dX8_chance_159 : decode cX8_chance 159 = .ok (.iconst 1, 1) := by decide +kernel
theorem dX8_chance_160 : decode cX8_chance 160 = .ok (.ireturn, 1) := by decide +kernel
theorem dX8_above_0 : decode cX8_above 0 = .ok (.aload_n 0, 1) := by decide +kernel
theorem dX8_above_1 : decode cX8_above 1 = .ok (.getfield 110, 3) := by decide +kernel
theorem dX8_above_4 : decode cX8_above 4 = .ok (.lreturn, 1) := by decide +kernel
theorem dX8_below_0 : decode cX8_below 0 = .ok (.aload_n 0, 1) := by decide +kernel
theorem dX8_below_1 : decode cX8_below 1 = .ok (.getfield 20, 3) := by decide +kernel
theorem dX8_below_4 : decode cX8_below 4 = .ok (.lreturn, 1) := by decide +kernel
theorem dX8_barred_0 : decode cX8_barred 0 = .ok (.iconst 0, 1) := by decide +kernel
theorem dX8_barred_1 : decode cX8_barred 1 = .ok (.istore 6, 2) := by decide +kernel
theorem dX8_barred_3 : decode cX8_barred 3 = .ok (.iload 6, 2) := by decide +kernel
theorem dX8_barred_5 : decode cX8_barred 5 = .ok (.aload_n 0, 1) := by decide +kernel
theorem dX8_barred_6 : decode cX8_barred 6 = .ok (.getfield 58, 3) := by decide +kernel
theorem dX8_barred_9 : decode cX8_barred 9 = .ok (.if_icmp .ge 65, 3) := by decide +kernel
theorem dX8_barred_74 : decode cX8_barred 74 = .ok (.iconst 1, 1) := by decide +kernel
theorem dX8_barred_75 : decode cX8_barred 75 = .ok (.ireturn, 1) := by decide +kernel
set_option maxRecDepth 20000 in
theorem ggX8_bars_X8_isHeap : GoodIn wsX8_bars wsX8_isHeap := goodIn_r _ [5, 6, 34, 35, 36, 37, 38, 39, 40, 41, 42, 43, 44, 45, 46, 47, 48, 49, 50] (by decide +kernel) (by decide +kernel)
set_option maxRecDepth 20000 in
theorem gX8_bars_X8_isHeap : GoodIn wsX8_bars (wsV RX8 63 RX8 yX8_isHeap wsX8_isHeap) := goodIn_app (goodIn_of _ (by decide +kernel)) ggX8_bars_X8_isHeap
set_option maxRecDepth 20000 in
theorem ggX8_bars_X8_barred : GoodIn wsX8_bars wsX8_barred := goodIn_r _ [10, 6, 11, 12, 13, 4, 14, 15, 16, 17, 18, 19, 20, 21, 22, 23, 24, 25, 26, 27, 28, 29, 30, 31, 32, 33, 34, 35, 36, 37, 38, 39, 40, 41, 42, 43, 44, 45, 46, 47, 48, 49, 50] (by decide +kernel) (by decide +kernel)
set_option maxRecDepth 20000 in
theorem gX8_bars_X8_barred : GoodIn wsX8_bars (wsV RX8 131 RX8 yX8_barred wsX8_barred) := goodIn_app (goodIn_of _ (by decide +kernel)) ggX8_bars_X8_barred
theorem dX8_bars_0 : decode cX8_bars 0 = .ok (.aload_n 0, 1) := by decide +kernel
theorem dX8_bars_1 : decode cX8_bars 1 = .ok (.iload_n 1, 1) := by decide +kernel
theorem dX8_bars_2 : decode cX8_bars 2 = .ok (.invokevirtual 63, 3) := by decide +kernel
theorem dX8_bars_5 : decode cX8_bars 5 = .ok (.ifCond .eq 37, 3) := by decide +kernel
theorem dX8_bars_8 : decode cX8_bars 8 = .ok (.aload_n 0, 1) := by decide +kernel
theorem dX8_bars_9 : decode cX8_bars 9 = .ok (.iload_n 2, 1) := by decide +kernel
theorem dX8_bars_10 : decode cX8_bars 10 = .ok (.invokevirtual 63, 3) := by decide +kernel
theorem dX8_bars_13 : decode cX8_bars 13 = .ok (.ifCond .eq 29, 3) := by decide +kernel
theorem dX8_bars_16 : decode cX8_bars 16 = .ok (.aload_n 0, 1) := by decide +kernel
theorem dX8_bars_17 : decode cX8_bars 17 = .ok (.iload_n 3, 1) := by decide +kernel
theorem dX8_bars_18 : decode cX8_bars 18 = .ok (.invokevirtual 63, 3) := by decide +kernel
theorem dX8_bars_21 : decode cX8_bars 21 = .ok (.ifCond .eq 21, 3) := by decide +kernel
theorem dX8_bars_24 : decode cX8_bars 24 = .ok (.iload_n 1, 1) := by decide +kernel
theorem dX8_bars_25 : decode cX8_bars 25 = .ok (.iload_n 2, 1) := by decide +kernel
theorem dX8_bars_26 : decode cX8_bars 26 = .ok (.iand, 1) := by decide +kernel
theorem dX8_bars_27 : decode cX8_bars 27 = .ok (.ifCond .ne 15, 3) := by decide +kernel
theorem dX8_bars_30 : decode cX8_bars 30 = .ok (.iload_n 1, 1) := by decide +kernel
theorem dX8_bars_31 : decode cX8_bars 31 = .ok (.iload_n 3, 1) := by decide +kernel
theorem dX8_bars_32 : decode cX8_bars 32 = .ok (.iand, 1) := by decide +kernel
theorem dX8_bars_33 : decode cX8_bars 33 = .ok (.ifCond .ne 9, 3) := by decide +kernel
theorem dX8_bars_36 : decode cX8_bars 36 = .ok (.iload_n 2, 1) := by decide +kernel
theorem dX8_bars_37 : decode cX8_bars 37 = .ok (.iload_n 3, 1) := by decide +kernel
theorem dX8_bars_38 : decode cX8_bars 38 = .ok (.iand, 1) := by decide +kernel
theorem dX8_bars_39 : decode cX8_bars 39 = .ok (.ifCond .eq 5, 3) := by decide +kernel
theorem dX8_bars_42 : decode cX8_bars 42 = .ok (.iconst 0, 1) := by decide +kernel
theorem dX8_bars_43 : decode cX8_bars 43 = .ok (.ireturn, 1) := by decide +kernel
theorem dX8_bars_44 : decode cX8_bars 44 = .ok (.aload_n 0, 1) := by decide +kernel
theorem dX8_bars_45 : decode cX8_bars 45 = .ok (.iload_n 1, 1) := by decide +kernel
theorem dX8_bars_46 : decode cX8_bars 46 = .ok (.iload_n 2, 1) := by decide +kernel
theorem dX8_bars_47 : decode cX8_bars 47 = .ok (.iload_n 3, 1) := by decide +kernel
theorem dX8_bars_48 : decode cX8_bars 48 = .ok (.iconst 0, 1) := by decide +kernel
theorem dX8_bars_49 : decode cX8_bars 49 = .ok (.iconst 0, 1) := by decide +kernel
theorem dX8_bars_50 : decode cX8_bars 50 = .ok (.invokevirtual 131, 3) := by decide +kernel
theorem dX8_bars_53 : decode cX8_bars 53 = .ok (.ireturn, 1) := by decide +kernel
theorem dX8_seen_0 : decode cX8_seen 0 = .ok (.iconst 0, 1) := by decide +kernel
theorem dX8_seen_1 : decode cX8_seen 1 = .ok (.istore_n 1, 1) := by decide +kernel
theorem dX8_seen_2 : decode cX8_seen 2 = .ok (.iconst 0, 1) := by decide +kernel
theorem dX8_seen_3 : decode cX8_seen 3 = .ok (.istore_n 2, 1) := by decide +kernel
theorem dX8_seen_4 : decode cX8_seen 4 = .ok (.iload_n 2, 1) := by decide +kernel
theorem dX8_seen_5 : decode cX8_seen 5 = .ok (.aload_n 0, 1) := by decide +kernel
theorem dX8_seen_6 : decode cX8_seen 6 = .ok (.getfield 58, 3) := by decide +kernel
theorem dX8_seen_9 : decode cX8_seen 9 = .ok (.if_icmp .ge 28, 3) := by decide +kernel
theorem dX8_seen_37 : decode cX8_seen 37 = .ok (.iload_n 1, 1) := by decide +kernel
theorem dX8_seen_38 : decode cX8_seen 38 = .ok (.ireturn, 1) := by decide +kernel
set_option maxRecDepth 20000 in
theorem ggX8_works_X8_isThing : GoodIn wsX8_works wsX8_isThing := goodIn_r _ [6, 7, 40, 41, 42, 43, 44, 45, 46, 47, 48, 49, 50, 51, 52, 53, 54, 55, 56] (by decide +kernel) (by decide +kernel)
set_option maxRecDepth 20000 in
theorem gX8_works_X8_isThing : GoodIn wsX8_works (wsV RX8 71 RX8 yX8_isThing wsX8_isThing) := goodIn_app (goodIn_of _ (by decide +kernel)) ggX8_works_X8_isThing
theorem dX8_works_0 : decode cX8_works 0 = .ok (.aload_n 0, 1) := by decide +kernel
theorem dX8_works_1 : decode cX8_works 1 = .ok (.iload_n 1, 1) := by decide +kernel
theorem dX8_works_2 : decode cX8_works 2 = .ok (.invokevirtual 71, 3) := by decide +kernel
theorem dX8_works_5 : decode cX8_works 5 = .ok (.ifCond .eq 16, 3) := by decide +kernel
theorem dX8_works_21 : decode cX8_works 21 = .ok (.iconst 0, 1) := by decide +kernel
theorem dX8_works_22 : decode cX8_works 22 = .ok (.ireturn, 1) := by decide +kernel
set_option maxRecDepth 20000 in
theorem ggX8_least_X8_works : GoodIn wsX8_least wsX8_works := goodIn_r _ [5, 6, 7, 8, 9, 4, 10, 11, 12, 13, 14, 15, 16, 17, 18, 19, 20, 21, 22, 23, 24, 25, 26, 27, 28, 29, 30, 31, 32, 33, 34, 35, 36, 37, 38, 39, 40, 41, 42, 43, 48, 49, 50, 51, 52, 53, 54, 55, 56, 57, 58, 59, 60, 61, 62, 63, 64] (by decide +kernel) (by decide +kernel)
set_option maxRecDepth 20000 in
theorem gX8_least_X8_works : GoodIn wsX8_least (wsV RX8 138 RX8 yX8_works wsX8_works) := goodIn_app (goodIn_of _ (by decide +kernel)) ggX8_least_X8_works
theorem dX8_least_0 : decode cX8_least 0 = .ok (.aload_n 0, 1) := by decide +kernel
theorem dX8_least_1 : decode cX8_least 1 = .ok (.iload_n 1, 1) := by decide +kernel
theorem dX8_least_2 : decode cX8_least 2 = .ok (.iload_n 2, 1) := by decide +kernel
theorem dX8_least_3 : decode cX8_least 3 = .ok (.invokevirtual 138, 3) := by decide +kernel
theorem dX8_least_6 : decode cX8_least 6 = .ok (.ifCond .ne 5, 3) := by decide +kernel
theorem dX8_least_9 : decode cX8_least 9 = .ok (.iconst (-1), 1) := by decide +kernel
theorem dX8_least_10 : decode cX8_least 10 = .ok (.ireturn, 1) := by decide +kernel
set_option maxRecDepth 20000 in
theorem ggX8_leastAt_X8_works : GoodIn wsX8_leastAt wsX8_works := goodIn_r _ [5, 6, 7, 8, 9, 4, 10, 11, 12, 13, 14, 15, 16, 17, 18, 19, 20, 21, 22, 23, 24, 25, 26, 27, 28, 29, 30, 31, 32, 33, 34, 35, 36, 37, 38, 39, 40, 41, 42, 43, 48, 49, 50, 51, 52, 53, 54, 55, 56, 57, 58, 59, 60, 61, 62, 63, 64] (by decide +kernel) (by decide +kernel)
set_option maxRecDepth 20000 in
theorem gX8_leastAt_X8_works : GoodIn wsX8_leastAt (wsV RX8 138 RX8 yX8_works wsX8_works) := goodIn_app (goodIn_of _ (by decide +kernel)) ggX8_leastAt_X8_works
theorem dX8_leastAt_0 : decode cX8_leastAt 0 = .ok (.iload_n 3, 1) := by decide +kernel
theorem dX8_leastAt_1 : decode cX8_leastAt 1 = .ok (.ifCond .lt 12, 3) := by decide +kernel
theorem dX8_leastAt_4 : decode cX8_leastAt 4 = .ok (.aload_n 0, 1) := by decide +kernel
theorem dX8_leastAt_5 : decode cX8_leastAt 5 = .ok (.iload_n 1, 1) := by decide +kernel
theorem dX8_leastAt_6 : decode cX8_leastAt 6 = .ok (.iload_n 2, 1) := by decide +kernel
theorem dX8_leastAt_7 : decode cX8_leastAt 7 = .ok (.invokevirtual 138, 3) := by decide +kernel
theorem dX8_leastAt_10 : decode cX8_leastAt 10 = .ok (.ifCond .ne 5, 3) := by decide +kernel
theorem dX8_leastAt_13 : decode cX8_leastAt 13 = .ok (.iconst (-1), 1) := by decide +kernel
theorem dX8_leastAt_14 : decode cX8_leastAt 14 = .ok (.ireturn, 1) := by decide +kernel
set_option maxRecDepth 20000 in
theorem ggX8_fit_X8_isThing : GoodIn wsX8_fit wsX8_isThing := goodIn_r _ [6, 1, 47, 48, 49, 50, 51, 52, 53, 54, 55, 56, 57, 58, 59, 60, 61, 62, 63] (by decide +kernel) (by decide +kernel)
set_option maxRecDepth 20000 in
theorem gX8_fit_X8_isThing : GoodIn wsX8_fit (wsV RX8 71 RX8 yX8_isThing wsX8_isThing) := goodIn_app (goodIn_of _ (by decide +kernel)) ggX8_fit_X8_isThing
theorem dX8_fit_0 : decode cX8_fit 0 = .ok (.aload_n 0, 1) := by decide +kernel
theorem dX8_fit_1 : decode cX8_fit 1 = .ok (.iload_n 1, 1) := by decide +kernel
theorem dX8_fit_2 : decode cX8_fit 2 = .ok (.invokevirtual 71, 3) := by decide +kernel
theorem dX8_fit_5 : decode cX8_fit 5 = .ok (.ifCond .eq 53, 3) := by decide +kernel
theorem dX8_fit_58 : decode cX8_fit 58 = .ok (.iconst 0, 1) := by decide +kernel
theorem dX8_fit_59 : decode cX8_fit 59 = .ok (.ireturn, 1) := by decide +kernel
set_option maxRecDepth 20000 in
theorem ggX8_agrees_X8_isThing : GoodIn wsX8_agrees wsX8_isThing := goodIn_r _ [10, 11, 46, 47, 48, 49, 50, 51, 52, 53, 54, 55, 56, 57, 58, 59, 60, 61, 62] (by decide +kernel) (by decide +kernel)
set_option maxRecDepth 20000 in
theorem gX8_agrees_X8_isThing : GoodIn wsX8_agrees (wsV RX8 71 RX8 yX8_isThing wsX8_isThing) := goodIn_app (goodIn_of _ (by decide +kernel)) ggX8_agrees_X8_isThing
theorem dX8_agrees_0 : decode cX8_agrees 0 = .ok (.aload_n 0, 1) := by decide +kernel
theorem dX8_agrees_1 : decode cX8_agrees 1 = .ok (.iload_n 1, 1) := by decide +kernel
theorem dX8_agrees_2 : decode cX8_agrees 2 = .ok (.invokevirtual 71, 3) := by decide +kernel
theorem dX8_agrees_5 : decode cX8_agrees 5 = .ok (.ifCond .eq 64, 3) := by decide +kernel
theorem dX8_agrees_69 : decode cX8_agrees 69 = .ok (.iconst (-1), 1) := by decide +kernel
theorem dX8_agrees_70 : decode cX8_agrees 70 = .ok (.ireturn, 1) := by decide +kernel
theorem dX8_drawings_0 : decode cX8_drawings 0 = .ok (.iconst 0, 1) := by decide +kernel
theorem dX8_drawings_1 : decode cX8_drawings 1 = .ok (.istore_n 1, 1) := by decide +kernel
theorem dX8_drawings_2 : decode cX8_drawings 2 = .ok (.iload_n 1, 1) := by decide +kernel
theorem dX8_drawings_3 : decode cX8_drawings 3 = .ok (.aload_n 0, 1) := by decide +kernel
theorem dX8_drawings_4 : decode cX8_drawings 4 = .ok (.getfield 58, 3) := by decide +kernel
theorem dX8_drawings_7 : decode cX8_drawings 7 = .ok (.if_icmp .ge 62, 3) := by decide +kernel
theorem dX8_drawings_69 : decode cX8_drawings 69 = .ok (.iconst 0, 1) := by decide +kernel
theorem dX8_drawings_70 : decode cX8_drawings 70 = .ok (.istore_n 1, 1) := by decide +kernel
theorem dX8_drawings_71 : decode cX8_drawings 71 = .ok (.iload_n 1, 1) := by decide +kernel
theorem dX8_drawings_72 : decode cX8_drawings 72 = .ok (.bipush 64, 2) := by decide +kernel
theorem dX8_drawings_74 : decode cX8_drawings 74 = .ok (.if_icmp .ge 16, 3) := by decide +kernel
theorem dX8_drawings_77 : decode cX8_drawings 77 = .ok (.aload_n 0, 1) := by decide +kernel
theorem dX8_drawings_78 : decode cX8_drawings 78 = .ok (.getfield 52, 3) := by decide +kernel
theorem dX8_drawings_81 : decode cX8_drawings 81 = .ok (.iload_n 1, 1) := by decide +kernel
theorem dX8_drawings_82 : decode cX8_drawings 82 = .ok (.iconst 1, 1) := by decide +kernel
theorem dX8_drawings_83 : decode cX8_drawings 83 = .ok (.bastore, 1) := by decide +kernel
theorem dX8_drawings_84 : decode cX8_drawings 84 = .ok (.iinc 1 1, 3) := by decide +kernel
theorem dX8_drawings_87 : decode cX8_drawings 87 = .ok (.goto (-16), 3) := by decide +kernel
theorem dX8_drawings_90 : decode cX8_drawings 90 = .ok (.iconst 0, 1) := by decide +kernel
theorem dX8_drawings_91 : decode cX8_drawings 91 = .ok (.istore_n 1, 1) := by decide +kernel
theorem dX8_drawings_92 : decode cX8_drawings 92 = .ok (.iconst 0, 1) := by decide +kernel
theorem dX8_drawings_93 : decode cX8_drawings 93 = .ok (.istore_n 2, 1) := by decide +kernel
theorem dX8_drawings_94 : decode cX8_drawings 94 = .ok (.iconst 0, 1) := by decide +kernel
theorem dX8_drawings_95 : decode cX8_drawings 95 = .ok (.istore_n 3, 1) := by decide +kernel
theorem dX8_drawings_96 : decode cX8_drawings 96 = .ok (.aload_n 0, 1) := by decide +kernel
theorem dX8_drawings_97 : decode cX8_drawings 97 = .ok (.getfield 46, 3) := by decide +kernel
theorem dX8_drawings_100 : decode cX8_drawings 100 = .ok (.iconst 0, 1) := by decide +kernel
theorem dX8_drawings_101 : decode cX8_drawings 101 = .ok (.iconst 0, 1) := by decide +kernel
theorem dX8_drawings_102 : decode cX8_drawings 102 = .ok (.iastore, 1) := by decide +kernel
theorem dX8_drawings_103 : decode cX8_drawings 103 = .ok (.iload_n 2, 1) := by decide +kernel
theorem dX8_drawings_104 : decode cX8_drawings 104 = .ok (.ifCond .lt 247, 3) := by decide +kernel
theorem dX8_drawings_107 : decode cX8_drawings 107 = .ok (.iload_n 2, 1) := by decide +kernel
theorem dX8_drawings_108 : decode cX8_drawings 108 = .ok (.aload_n 0, 1) := by decide +kernel
theorem dX8_drawings_109 : decode cX8_drawings 109 = .ok (.getfield 58, 3) := by decide +kernel
theorem dX8_drawings_112 : decode cX8_drawings 112 = .ok (.if_icmp .ne 92, 3) := by decide +kernel
theorem dX8_drawings_115 : decode cX8_drawings 115 = .ok (.iinc 1 1, 3) := by decide +kernel
theorem dX8_drawings_118 : decode cX8_drawings 118 = .ok (.iconst 0, 1) := by decide +kernel
theorem dX8_drawings_119 : decode cX8_drawings 119 = .ok (.istore 4, 2) := by decide +kernel
theorem dX8_drawings_121 : decode cX8_drawings 121 = .ok (.iload 4, 2) := by decide +kernel
theorem dX8_drawings_123 : decode cX8_drawings 123 = .ok (.aload_n 0, 1) := by decide +kernel
theorem dX8_drawings_124 : decode cX8_drawings 124 = .ok (.getfield 58, 3) := by decide +kernel
theorem dX8_drawings_127 : decode cX8_drawings 127 = .ok (.if_icmp .ge 77, 3) := by decide +kernel
theorem dX8_drawings_204 : decode cX8_drawings 204 = .ok (.iload_n 2, 1) := by decide +kernel
theorem dX8_drawings_205 : decode cX8_drawings 205 = .ok (.aload_n 0, 1) := by decide +kernel
theorem dX8_drawings_206 : decode cX8_drawings 206 = .ok (.getfield 58, 3) := by decide +kernel
theorem dX8_drawings_209 : decode cX8_drawings 209 = .ok (.if_icmp .ne 10, 3) := by decide +kernel
theorem dX8_drawings_212 : decode cX8_drawings 212 = .ok (.aload_n 0, 1) := by decide +kernel
theorem dX8_drawings_213 : decode cX8_drawings 213 = .ok (.getfield 58, 3) := by decide +kernel
theorem dX8_drawings_216 : decode cX8_drawings 216 = .ok (.goto 9, 3) := by decide +kernel
theorem dX8_drawings_225 : decode cX8_drawings 225 = .ok (.istore 4, 2) := by decide +kernel
theorem dX8_drawings_227 : decode cX8_drawings 227 = .ok (.iload 4, 2) := by decide +kernel
theorem dX8_drawings_229 : decode cX8_drawings 229 = .ok (.aload_n 0, 1) := by decide +kernel
theorem dX8_drawings_230 : decode cX8_drawings 230 = .ok (.getfield 58, 3) := by decide +kernel
theorem dX8_drawings_233 : decode cX8_drawings 233 = .ok (.if_icmp .ne 26, 3) := by decide +kernel
theorem dX8_drawings_236 : decode cX8_drawings 236 = .ok (.iinc 2 (-1), 3) := by decide +kernel
theorem dX8_drawings_239 : decode cX8_drawings 239 = .ok (.iload_n 2, 1) := by decide +kernel
theorem dX8_drawings_240 : decode cX8_drawings 240 = .ok (.ifCond .lt (-137), 3) := by decide +kernel
theorem dX8_drawings_351 : decode cX8_drawings 351 = .ok (.iload_n 1, 1) := by decide +kernel
theorem dX8_drawings_352 : decode cX8_drawings 352 = .ok (.ireturn, 1) := by decide +kernel
set_option maxRecDepth 20000 in
theorem ggX8_alike_X8_drawings : GoodIn wsX8_alike wsX8_drawings := goodIn_r _ [5, 6, 7, 8, 9, 10, 11, 12, 13, 14, 15, 4, 16, 17, 18, 19, 20, 21, 22, 23, 24, 25, 26, 27, 28, 29, 30, 31, 32, 33, 34, 35, 36, 37, 38, 39, 40, 41, 42, 43, 44, 45] (by decide +kernel) (by decide +kernel)
set_option maxRecDepth 20000 in
theorem gX8_alike_X8_drawings : GoodIn wsX8_alike (wsV RX8 167 RX8 yX8_drawings wsX8_drawings) := goodIn_app (goodIn_of _ (by decide +kernel)) ggX8_alike_X8_drawings
theorem dX8_alike_0 : decode cX8_alike 0 = .ok (.aload_n 0, 1) := by decide +kernel
theorem dX8_alike_1 : decode cX8_alike 1 = .ok (.invokevirtual 167, 3) := by decide +kernel
theorem dX8_alike_4 : decode cX8_alike 4 = .ok (.ireturn, 1) := by decide +kernel
set_option maxRecDepth 20000 in
theorem ggX8_fixed_X8_has : GoodIn wsX8_fixed wsX8_has := goodIn_r _ [6, 7, 8, 9, 10, 5, 11, 12, 29, 30, 31, 32, 33, 34, 35, 36, 37, 38, 39, 40, 41, 42, 43, 44, 45] (by decide +kernel) (by decide +kernel)
set_option maxRecDepth 20000 in
theorem gX8_fixed_X8_has : GoodIn wsX8_fixed (wsV RX8 78 RX8 yX8_has wsX8_has) := goodIn_app (goodIn_of _ (by decide +kernel)) ggX8_fixed_X8_has
theorem dX8_fixed_0 : decode cX8_fixed 0 = .ok (.aload_n 0, 1) := by decide +kernel
theorem dX8_fixed_1 : decode cX8_fixed 1 = .ok (.iload_n 1, 1) := by decide +kernel
theorem dX8_fixed_2 : decode cX8_fixed 2 = .ok (.iload_n 2, 1) := by decide +kernel
theorem dX8_fixed_3 : decode cX8_fixed 3 = .ok (.invokevirtual 78, 3) := by decide +kernel
theorem dX8_fixed_6 : decode cX8_fixed 6 = .ok (.ifCond .ne 5, 3) := by decide +kernel
theorem dX8_fixed_9 : decode cX8_fixed 9 = .ok (.iconst 0, 1) := by decide +kernel
theorem dX8_fixed_10 : decode cX8_fixed 10 = .ok (.ireturn, 1) := by decide +kernel
set_option maxRecDepth 20000 in
theorem ggX8_otherwise_X8_isThing : GoodIn wsX8_otherwise wsX8_isThing := goodIn_r _ [8, 2, 32, 33, 34, 35, 36, 37, 38, 39, 40, 41, 42, 43, 44, 45, 46, 47, 48] (by decide +kernel) (by decide +kernel)
set_option maxRecDepth 20000 in
theorem gX8_otherwise_X8_isThing : GoodIn wsX8_otherwise (wsV RX8 71 RX8 yX8_isThing wsX8_isThing) := goodIn_app (goodIn_of _ (by decide +kernel)) ggX8_otherwise_X8_isThing
theorem dX8_otherwise_0 : decode cX8_otherwise 0 = .ok (.aload_n 0, 1) := by decide +kernel
theorem dX8_otherwise_1 : decode cX8_otherwise 1 = .ok (.iload_n 1, 1) := by decide +kernel
theorem dX8_otherwise_2 : decode cX8_otherwise 2 = .ok (.invokevirtual 71, 3) := by decide +kernel
theorem dX8_otherwise_5 : decode cX8_otherwise 5 = .ok (.ifCond .eq 25, 3) := by decide +kernel
theorem dX8_otherwise_30 : decode cX8_otherwise 30 = .ok (.ldc2_w 108, 3) := by decide +kernel
theorem dX8_otherwise_33 : decode cX8_otherwise 33 = .ok (.lreturn, 1) := by decide +kernel
set_option maxRecDepth 20000 in
theorem ggX8_draw_X8_isSetting : GoodIn wsX8_draw wsX8_isSetting := goodIn_r _ [8, 9, 10, 11, 12, 7, 13, 1, 19, 20, 21, 22, 23, 24, 25, 26, 27, 28, 29, 30, 31, 32, 33, 34, 35] (by decide +kernel) (by decide +kernel)
set_option maxRecDepth 20000 in
theorem gX8_draw_X8_isSetting : GoodIn wsX8_draw (wsV RX8 102 RX8 yX8_isSetting wsX8_isSetting) := goodIn_app (goodIn_of _ (by decide +kernel)) ggX8_draw_X8_isSetting
theorem dX8_draw_0 : decode cX8_draw 0 = .ok (.aload_n 0, 1) := by decide +kernel
theorem dX8_draw_1 : decode cX8_draw 1 = .ok (.iload_n 2, 1) := by decide +kernel
theorem dX8_draw_2 : decode cX8_draw 2 = .ok (.invokevirtual 102, 3) := by decide +kernel
theorem dX8_draw_5 : decode cX8_draw 5 = .ok (.ifCond .ne 5, 3) := by decide +kernel
theorem dX8_draw_8 : decode cX8_draw 8 = .ok (.iconst (-1), 1) := by decide +kernel
theorem dX8_draw_9 : decode cX8_draw 9 = .ok (.ireturn, 1) := by decide +kernel
theorem dX8_draw_10 : decode cX8_draw 10 = .ok (.iload_n 1, 1) := by decide +kernel
theorem dX8_draw_11 : decode cX8_draw 11 = .ok (.istore_n 3, 1) := by decide +kernel
theorem dX8_draw_12 : decode cX8_draw 12 = .ok (.iconst 0, 1) := by decide +kernel
theorem dX8_draw_13 : decode cX8_draw 13 = .ok (.istore 4, 2) := by decide +kernel
theorem dX8_draw_15 : decode cX8_draw 15 = .ok (.iconst 0, 1) := by decide +kernel
theorem dX8_draw_16 : decode cX8_draw 16 = .ok (.istore 5, 2) := by decide +kernel
theorem dX8_draw_18 : decode cX8_draw 18 = .ok (.iconst 0, 1) := by decide +kernel
theorem dX8_draw_19 : decode cX8_draw 19 = .ok (.istore 6, 2) := by decide +kernel
theorem dX8_draw_21 : decode cX8_draw 21 = .ok (.iload 6, 2) := by decide +kernel
theorem dX8_draw_23 : decode cX8_draw 23 = .ok (.aload_n 0, 1) := by decide +kernel
theorem dX8_draw_24 : decode cX8_draw 24 = .ok (.getfield 58, 3) := by decide +kernel
theorem dX8_draw_27 : decode cX8_draw 27 = .ok (.if_icmp .ge 135, 3) := by decide +kernel
theorem dX8_draw_162 : decode cX8_draw 162 = .ok (.iload 5, 2) := by decide +kernel
theorem dX8_draw_164 : decode cX8_draw 164 = .ok (.ireturn, 1) := by decide +kernel
set_option maxRecDepth 20000 in
theorem ggX8_count_X8_seen : GoodIn wsX8_count wsX8_seen := goodIn_r _ [10, 1, 11, 12, 13, 14, 15, 16, 17, 18, 19, 20, 21, 22, 23, 24, 25, 26, 27, 28] (by decide +kernel) (by decide +kernel)
set_option maxRecDepth 20000 in
theorem gX8_count_X8_seen : GoodIn wsX8_count (wsV RX8 134 RX8 yX8_seen wsX8_seen) := goodIn_app (goodIn_of _ (by decide +kernel)) ggX8_count_X8_seen
theorem dX8_count_0 : decode cX8_count 0 = .ok (.iconst 0, 1) := by decide +kernel
theorem dX8_count_1 : decode cX8_count 1 = .ok (.istore_n 2, 1) := by decide +kernel
theorem dX8_count_2 : decode cX8_count 2 = .ok (.iload_n 1, 1) := by decide +kernel
theorem dX8_count_3 : decode cX8_count 3 = .ok (.tableswitch 65 0 2 #[25, 30, 60], 25) := by decide +kernel
theorem dX8_count_28 : decode cX8_count 28 = .ok (.aload_n 0, 1) := by decide +kernel
theorem dX8_count_29 : decode cX8_count 29 = .ok (.getfield 58, 3) := by decide +kernel
theorem dX8_count_32 : decode cX8_count 32 = .ok (.ireturn, 1) := by decide +kernel
theorem dX8_count_33 : decode cX8_count 33 = .ok (.iconst 0, 1) := by decide +kernel
theorem dX8_count_34 : decode cX8_count 34 = .ok (.istore_n 3, 1) := by decide +kernel
theorem dX8_count_35 : decode cX8_count 35 = .ok (.iload_n 3, 1) := by decide +kernel
theorem dX8_count_36 : decode cX8_count 36 = .ok (.aload_n 0, 1) := by decide +kernel
theorem dX8_count_37 : decode cX8_count 37 = .ok (.getfield 58, 3) := by decide +kernel
theorem dX8_count_40 : decode cX8_count 40 = .ok (.if_icmp .ge 21, 3) := by decide +kernel
theorem dX8_count_61 : decode cX8_count 61 = .ok (.iload_n 2, 1) := by decide +kernel
theorem dX8_count_62 : decode cX8_count 62 = .ok (.ireturn, 1) := by decide +kernel
theorem dX8_count_63 : decode cX8_count 63 = .ok (.aload_n 0, 1) := by decide +kernel
theorem dX8_count_64 : decode cX8_count 64 = .ok (.invokevirtual 134, 3) := by decide +kernel
theorem dX8_count_67 : decode cX8_count 67 = .ok (.ireturn, 1) := by decide +kernel
theorem dX8_count_68 : decode cX8_count 68 = .ok (.iconst (-1), 1) := by decide +kernel
theorem dX8_count_69 : decode cX8_count 69 = .ok (.ireturn, 1) := by decide +kernel
theorem dJ6_bitCount_0f7a4_0 : decode cJ6_bitCount_0f7a4 0 = .ok (.iload_n 0, 1) := by decide +kernel
theorem dJ6_bitCount_0f7a4_1 : decode cJ6_bitCount_0f7a4 1 = .ok (.iload_n 0, 1) := by decide +kernel
theorem dJ6_bitCount_0f7a4_2 : decode cJ6_bitCount_0f7a4 2 = .ok (.iconst 1, 1) := by decide +kernel
theorem dJ6_bitCount_0f7a4_3 : decode cJ6_bitCount_0f7a4 3 = .ok (.iushr, 1) := by decide +kernel
theorem dJ6_bitCount_0f7a4_4 : decode cJ6_bitCount_0f7a4 4 = .ok (.ldc_w 265, 3) := by decide +kernel
theorem dJ6_bitCount_0f7a4_7 : decode cJ6_bitCount_0f7a4 7 = .ok (.iand, 1) := by decide +kernel
theorem dJ6_bitCount_0f7a4_8 : decode cJ6_bitCount_0f7a4 8 = .ok (.isub, 1) := by decide +kernel
theorem dJ6_bitCount_0f7a4_9 : decode cJ6_bitCount_0f7a4 9 = .ok (.istore_n 0, 1) := by decide +kernel
theorem dJ6_bitCount_0f7a4_10 : decode cJ6_bitCount_0f7a4 10 = .ok (.iload_n 0, 1) := by decide +kernel
theorem dJ6_bitCount_0f7a4_11 : decode cJ6_bitCount_0f7a4 11 = .ok (.ldc_w 266, 3) := by decide +kernel
theorem dJ6_bitCount_0f7a4_14 : decode cJ6_bitCount_0f7a4 14 = .ok (.iand, 1) := by decide +kernel
theorem dJ6_bitCount_0f7a4_15 : decode cJ6_bitCount_0f7a4 15 = .ok (.iload_n 0, 1) := by decide +kernel
theorem dJ6_bitCount_0f7a4_16 : decode cJ6_bitCount_0f7a4 16 = .ok (.iconst 2, 1) := by decide +kernel
theorem dJ6_bitCount_0f7a4_17 : decode cJ6_bitCount_0f7a4 17 = .ok (.iushr, 1) := by decide +kernel
theorem dJ6_bitCount_0f7a4_18 : decode cJ6_bitCount_0f7a4 18 = .ok (.ldc_w 266, 3) := by decide +kernel
theorem dJ6_bitCount_0f7a4_21 : decode cJ6_bitCount_0f7a4 21 = .ok (.iand, 1) := by decide +kernel
theorem dJ6_bitCount_0f7a4_22 : decode cJ6_bitCount_0f7a4 22 = .ok (.iadd, 1) := by decide +kernel
theorem dJ6_bitCount_0f7a4_23 : decode cJ6_bitCount_0f7a4 23 = .ok (.istore_n 0, 1) := by decide +kernel
theorem dJ6_bitCount_0f7a4_24 : decode cJ6_bitCount_0f7a4 24 = .ok (.iload_n 0, 1) := by decide +kernel
theorem dJ6_bitCount_0f7a4_25 : decode cJ6_bitCount_0f7a4 25 = .ok (.iload_n 0, 1) := by decide +kernel
theorem dJ6_bitCount_0f7a4_26 : decode cJ6_bitCount_0f7a4 26 = .ok (.iconst 4, 1) := by decide +kernel
theorem dJ6_bitCount_0f7a4_27 : decode cJ6_bitCount_0f7a4 27 = .ok (.iushr, 1) := by decide +kernel
theorem dJ6_bitCount_0f7a4_28 : decode cJ6_bitCount_0f7a4 28 = .ok (.iadd, 1) := by decide +kernel
theorem dJ6_bitCount_0f7a4_29 : decode cJ6_bitCount_0f7a4 29 = .ok (.ldc_w 267, 3) := by decide +kernel
theorem dJ6_bitCount_0f7a4_32 : decode cJ6_bitCount_0f7a4 32 = .ok (.iand, 1) := by decide +kernel
theorem dJ6_bitCount_0f7a4_33 : decode cJ6_bitCount_0f7a4 33 = .ok (.istore_n 0, 1) := by decide +kernel
theorem dJ6_bitCount_0f7a4_34 : decode cJ6_bitCount_0f7a4 34 = .ok (.iload_n 0, 1) := by decide +kernel
theorem dJ6_bitCount_0f7a4_35 : decode cJ6_bitCount_0f7a4 35 = .ok (.iload_n 0, 1) := by decide +kernel
theorem dJ6_bitCount_0f7a4_36 : decode cJ6_bitCount_0f7a4 36 = .ok (.bipush 8, 2) := by decide +kernel
theorem dJ6_bitCount_0f7a4_38 : decode cJ6_bitCount_0f7a4 38 = .ok (.iushr, 1) := by decide +kernel
theorem dJ6_bitCount_0f7a4_39 : decode cJ6_bitCount_0f7a4 39 = .ok (.iadd, 1) := by decide +kernel
theorem dJ6_bitCount_0f7a4_40 : decode cJ6_bitCount_0f7a4 40 = .ok (.istore_n 0, 1) := by decide +kernel
theorem dJ6_bitCount_0f7a4_41 : decode cJ6_bitCount_0f7a4 41 = .ok (.iload_n 0, 1) := by decide +kernel
theorem dJ6_bitCount_0f7a4_42 : decode cJ6_bitCount_0f7a4 42 = .ok (.iload_n 0, 1) := by decide +kernel
theorem dJ6_bitCount_0f7a4_43 : decode cJ6_bitCount_0f7a4 43 = .ok (.bipush 16, 2) := by decide +kernel
theorem dJ6_bitCount_0f7a4_45 : decode cJ6_bitCount_0f7a4 45 = .ok (.iushr, 1) := by decide +kernel
theorem dJ6_bitCount_0f7a4_46 : decode cJ6_bitCount_0f7a4 46 = .ok (.iadd, 1) := by decide +kernel
theorem dJ6_bitCount_0f7a4_47 : decode cJ6_bitCount_0f7a4 47 = .ok (.istore_n 0, 1) := by decide +kernel
theorem dJ6_bitCount_0f7a4_48 : decode cJ6_bitCount_0f7a4 48 = .ok (.iload_n 0, 1) := by decide +kernel
theorem dJ6_bitCount_0f7a4_49 : decode cJ6_bitCount_0f7a4 49 = .ok (.bipush 63, 2) := by decide +kernel
theorem dJ6_bitCount_0f7a4_51 : decode cJ6_bitCount_0f7a4 51 = .ok (.iand, 1) := by decide +kernel
theorem dJ6_bitCount_0f7a4_52 : decode cJ6_bitCount_0f7a4 52 = .ok (.ireturn, 1) := by decide +kernel
