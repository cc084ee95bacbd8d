/-! printed rows of NAMES that the contracts use -/
theorem mz_i_wsX8_isOpen_6 : (.code yX8_isArrow cX8_isArrow 5 (some .boolean) : Cond) ∈ wsX8_isOpen := mz_mt (mz_ml (mz_mt (mz_mt (mz_mt (mz_mt (mz_mt mz_mh))))))
theorem mz_i_wsX8_isOpen_11 : (.fieldLink RX8 13 "MadeItSoModel" "parents" "[I" : Cond) ∈ wsX8_isOpen := mz_mt (mz_ml (mz_mt (mz_mt (mz_mt (mz_mt (mz_mt (mz_mt (mz_mt (mz_mt (mz_mt (mz_mt mz_mh)))))))))))
theorem mz_i_wsX8_isOpen_10 : (.code yX8_parentsWithout cX8_parentsWithout 4 (some .int) : Cond) ∈ wsX8_isOpen := mz_mt (mz_ml (mz_mt (mz_mt (mz_mt (mz_mt (mz_mt (mz_mt (mz_mt (mz_mt (mz_mt mz_mh))))))))))
theorem mz_i_wsX8_isOpen_5 : (.initialized RX8 : Cond) ∈ wsX8_isOpen := mz_mt (mz_ml (mz_mt (mz_mt (mz_mt (mz_mt mz_mh)))))
theorem mz_i_wsX8_isOpen_9 : (.selects RX8 yX8_parentsWithout yX8_parentsWithout : Cond) ∈ wsX8_isOpen := mz_mt (mz_ml (mz_mt (mz_mt (mz_mt (mz_mt (mz_mt (mz_mt (mz_mt (mz_mt mz_mh)))))))))
theorem mz_i_wsX8_isOpen_8 : (.instanceMethod yX8_parentsWithout : Cond) ∈ wsX8_isOpen := mz_mt (mz_ml (mz_mt (mz_mt (mz_mt (mz_mt (mz_mt (mz_mt (mz_mt mz_mh))))))))
theorem mz_i_wsX8_isOpen_7 : (.methodLink RX8 74 yX8_parentsWithout : Cond) ∈ wsX8_isOpen := mz_mt (mz_ml (mz_mt (mz_mt (mz_mt (mz_mt (mz_mt (mz_mt mz_mh)))))))
theorem mz_f_wsX8_isOpen_wsX80 : ∀ w ∈ wsX80, w ∈ wsX8_isOpen := fun _ h => mz_mt (mz_mr h)
set_option maxRecDepth 20000 in
theorem ggX8_isOpen_X8_isArrow : GoodIn wsX8_isOpen wsX8_isArrow := goodIn_sub (mz_fc mz_i_wsX8_isOpen_6 (mz_fa (mz_fc mz_i_wsX8_isOpen_7 (mz_fc mz_i_wsX8_isOpen_8 (mz_fc mz_i_wsX8_isOpen_9 (mz_fc mz_i_wsX8_isOpen_5 (mz_fc mz_i_wsX8_isOpen_10 (mz_fc mz_i_wsX8_isOpen_11 mz_fn)))))) (mz_f_wsX8_isOpen_wsX80))) (by decide +kernel)
theorem mz_i_wsX8_isOpen_4 : (.selects RX8 yX8_isArrow yX8_isArrow : Cond) ∈ wsX8_isOpen := mz_mt (mz_ml (mz_mt (mz_mt (mz_mt mz_mh))))
theorem mz_i_wsX8_isOpen_3 : (.instanceMethod yX8_isArrow : Cond) ∈ wsX8_isOpen := mz_mt (mz_ml (mz_mt (mz_mt mz_mh)))
theorem mz_i_wsX8_isOpen_2 : (.methodLink RX8 117 yX8_isArrow : Cond) ∈ wsX8_isOpen := mz_mt (mz_ml (mz_mt mz_mh))
set_option maxRecDepth 20000 in
theorem gX8_isOpen_X8_isArrow : GoodIn wsX8_isOpen (wsV RX8 117 RX8 yX8_isArrow wsX8_isArrow) := goodIn_app (goodIn_sub (mz_fc mz_i_wsX8_isOpen_2 (mz_fc mz_i_wsX8_isOpen_3 (mz_fc mz_i_wsX8_isOpen_4 (mz_fc mz_i_wsX8_isOpen_5 mz_fn)))) (by decide +kernel)) ggX8_isOpen_X8_isArrow
theorem mz_i_wsX8_isOpen_15 : (.code yX8_belowWithout cX8_belowWithout 8 (some .int) : Cond) ∈ wsX8_isOpen := mz_mt (mz_ml (mz_mt (mz_mt (mz_mt (mz_mt (mz_mt (mz_mt (mz_mt (mz_mt (mz_mt (mz_mt (mz_mt (mz_mt (mz_mt (mz_mt mz_mh)))))))))))))))
theorem mz_i_wsX8_isOpen_16 : (.fieldLink RX8 58 "MadeItSoModel" "many" "I" : Cond) ∈ wsX8_isOpen := mz_mt (mz_ml (mz_mt (mz_mt (mz_mt (mz_mt (mz_mt (mz_mt (mz_mt (mz_mt (mz_mt (mz_mt (mz_mt (mz_mt (mz_mt (mz_mt (mz_mt mz_mh))))))))))))))))
set_option maxRecDepth 20000 in
theorem ggX8_isOpen_X8_belowWithout : GoodIn wsX8_isOpen wsX8_belowWithout := goodIn_sub (mz_fc mz_i_wsX8_isOpen_15 (mz_fa (mz_fc mz_i_wsX8_isOpen_16 (mz_fc mz_i_wsX8_isOpen_7 (mz_fc mz_i_wsX8_isOpen_8 (mz_fc mz_i_wsX8_isOpen_9 (mz_fc mz_i_wsX8_isOpen_5 (mz_fc mz_i_wsX8_isOpen_10 (mz_fc mz_i_wsX8_isOpen_11 mz_fn))))))) (mz_f_wsX8_isOpen_wsX80))) (by decide +kernel)
theorem mz_i_wsX8_isOpen_14 : (.selects RX8 yX8_belowWithout yX8_belowWithout : Cond) ∈ wsX8_isOpen := mz_mt (mz_ml (mz_mt (mz_mt (mz_mt (mz_mt (mz_mt (mz_mt (mz_mt (mz_mt (mz_mt (mz_mt (mz_mt (mz_mt (mz_mt mz_mh))))))))))))))
theorem mz_i_wsX8_isOpen_13 : (.instanceMethod yX8_belowWithout : Cond) ∈ wsX8_isOpen := mz_mt (mz_ml (mz_mt (mz_mt (mz_mt (mz_mt (mz_mt (mz_mt (mz_mt (mz_mt (mz_mt (mz_mt (mz_mt (mz_mt mz_mh)))))))))))))
theorem mz_i_wsX8_isOpen_12 : (.methodLink RX8 121 yX8_belowWithout : Cond) ∈ wsX8_isOpen := mz_mt (mz_ml (mz_mt (mz_mt (mz_mt (mz_mt (mz_mt (mz_mt (mz_mt (mz_mt (mz_mt (mz_mt (mz_mt mz_mh))))))))))))
set_option maxRecDepth 20000 in
theorem gX8_isOpen_X8_belowWithout : GoodIn wsX8_isOpen (wsV RX8 121 RX8 yX8_belowWithout wsX8_belowWithout) := goodIn_app (goodIn_sub (mz_fc mz_i_wsX8_isOpen_12 (mz_fc mz_i_wsX8_isOpen_13 (mz_fc mz_i_wsX8_isOpen_14 (mz_fc mz_i_wsX8_isOpen_5 mz_fn)))) (by decide +kernel)) ggX8_isOpen_X8_belowWithout
theorem dX8_isOpen_0 : decode cX8_isOpen 0 = .ok (.iconst 1, 1) := by decide +kernel
theorem dX8_isOpen_1 : decode cX8_isOpen 1 = .ok (.istore 5, 2) := by decide +kernel
theorem dX8_isOpen_3 : decode cX8_isOpen 3 = .ok (.iload 5, 2) := by decide +kernel
theorem dX8_isOpen_5 : decode cX8_isOpen 5 = .ok (.iconst 1, 1) := by decide +kernel
theorem dX8_isOpen_6 : decode cX8_isOpen 6 = .ok (.iadd, 1) := by decide +kernel
theorem dX8_isOpen_7 : decode cX8_isOpen 7 = .ok (.iload_n 1, 1) := by decide +kernel
theorem dX8_isOpen_8 : decode cX8_isOpen 8 = .ok (.if_icmp .ge 135, 3) := by decide +kernel
theorem dX8_isOpen_11 : decode cX8_isOpen 11 = .ok (.aload_n 0, 1) := by decide +kernel
theorem dX8_isOpen_12 : decode cX8_isOpen 12 = .ok (.getfield 24, 3) := by decide +kernel
theorem dX8_isOpen_15 : decode cX8_isOpen 15 = .ok (.iload 5, 2) := by decide +kernel
theorem dX8_isOpen_17 : decode cX8_isOpen 17 = .ok (.iaload, 1) := by decide +kernel
theorem dX8_isOpen_18 : decode cX8_isOpen 18 = .ok (.istore 6, 2) := by decide +kernel
theorem dX8_isOpen_20 : decode cX8_isOpen 20 = .ok (.aload_n 0, 1) := by decide +kernel
theorem dX8_isOpen_21 : decode cX8_isOpen 21 = .ok (.aload_n 0, 1) := by decide +kernel
theorem dX8_isOpen_22 : decode cX8_isOpen 22 = .ok (.getfield 24, 3) := by decide +kernel
theorem dX8_isOpen_25 : decode cX8_isOpen 25 = .ok (.iload 5, 2) := by decide +kernel
theorem dX8_isOpen_27 : decode cX8_isOpen 27 = .ok (.iconst 1, 1) := by decide +kernel
theorem dX8_isOpen_28 : decode cX8_isOpen 28 = .ok (.isub, 1) := by decide +kernel
theorem dX8_isOpen_29 : decode cX8_isOpen 29 = .ok (.iaload, 1) := by decide +kernel
theorem dX8_isOpen_30 : decode cX8_isOpen 30 = .ok (.iload 6, 2) := by decide +kernel
theorem dX8_isOpen_32 : decode cX8_isOpen 32 = .ok (.iload_n 3, 1) := by decide +kernel
theorem dX8_isOpen_33 : decode cX8_isOpen 33 = .ok (.iload 4, 2) := by decide +kernel
theorem dX8_isOpen_35 : decode cX8_isOpen 35 = .ok (.invokevirtual 117, 3) := by decide +kernel
theorem dX8_isOpen_38 : decode cX8_isOpen 38 = .ok (.ifCond .eq 28, 3) := by decide +kernel
theorem dX8_isOpen_41 : decode cX8_isOpen 41 = .ok (.aload_n 0, 1) := by decide +kernel
theorem dX8_isOpen_42 : decode cX8_isOpen 42 = .ok (.aload_n 0, 1) := by decide +kernel
theorem dX8_isOpen_43 : decode cX8_isOpen 43 = .ok (.getfield 24, 3) := by decide +kernel
theorem dX8_isOpen_46 : decode cX8_isOpen 46 = .ok (.iload 5, 2) := by decide +kernel
theorem dX8_isOpen_48 : decode cX8_isOpen 48 = .ok (.iconst 1, 1) := by decide +kernel
theorem dX8_isOpen_49 : decode cX8_isOpen 49 = .ok (.iadd, 1) := by decide +kernel
theorem dX8_isOpen_50 : decode cX8_isOpen 50 = .ok (.iaload, 1) := by decide +kernel
theorem dX8_isOpen_51 : decode cX8_isOpen 51 = .ok (.iload 6, 2) := by decide +kernel
theorem dX8_isOpen_53 : decode cX8_isOpen 53 = .ok (.iload_n 3, 1) := by decide +kernel
theorem dX8_isOpen_54 : decode cX8_isOpen 54 = .ok (.iload 4, 2) := by decide +kernel
theorem dX8_isOpen_56 : decode cX8_isOpen 56 = .ok (.invokevirtual 117, 3) := by decide +kernel
theorem dX8_isOpen_59 : decode cX8_isOpen 59 = .ok (.ifCond .eq 7, 3) := by decide +kernel
theorem dX8_isOpen_62 : decode cX8_isOpen 62 = .ok (.iconst 1, 1) := by decide +kernel
theorem dX8_isOpen_63 : decode cX8_isOpen 63 = .ok (.goto 4, 3) := by decide +kernel
theorem dX8_isOpen_66 : decode cX8_isOpen 66 = .ok (.iconst 0, 1) := by decide +kernel
theorem dX8_isOpen_67 : decode cX8_isOpen 67 = .ok (.istore 7, 2) := by decide +kernel
theorem dX8_isOpen_69 : decode cX8_isOpen 69 = .ok (.iload_n 2, 1) := by decide +kernel
theorem dX8_isOpen_70 : decode cX8_isOpen 70 = .ok (.iload 6, 2) := by decide +kernel
theorem dX8_isOpen_72 : decode cX8_isOpen 72 = .ok (.ishr, 1) := by decide +kernel
theorem dX8_isOpen_73 : decode cX8_isOpen 73 = .ok (.iconst 1, 1) := by decide +kernel
theorem dX8_isOpen_74 : decode cX8_isOpen 74 = .ok (.iand, 1) := by decide +kernel
theorem dX8_isOpen_75 : decode cX8_isOpen 75 = .ok (.iconst 1, 1) := by decide +kernel
theorem dX8_isOpen_76 : decode cX8_isOpen 76 = .ok (.if_icmp .ne 7, 3) := by decide +kernel
theorem dX8_isOpen_79 : decode cX8_isOpen 79 = .ok (.iconst 1, 1) := by decide +kernel
theorem dX8_isOpen_80 : decode cX8_isOpen 80 = .ok (.goto 4, 3) := by decide +kernel
theorem dX8_isOpen_83 : decode cX8_isOpen 83 = .ok (.iconst 0, 1) := by decide +kernel
theorem dX8_isOpen_84 : decode cX8_isOpen 84 = .ok (.istore 8, 2) := by decide +kernel
theorem dX8_isOpen_86 : decode cX8_isOpen 86 = .ok (.iload 7, 2) := by decide +kernel
theorem dX8_isOpen_88 : decode cX8_isOpen 88 = .ok (.ifCond .eq 30, 3) := by decide +kernel
theorem dX8_isOpen_91 : decode cX8_isOpen 91 = .ok (.iload 8, 2) := by decide +kernel
theorem dX8_isOpen_93 : decode cX8_isOpen 93 = .ok (.ifCond .ne 17, 3) := by decide +kernel
theorem dX8_isOpen_96 : decode cX8_isOpen 96 = .ok (.aload_n 0, 1) := by decide +kernel
theorem dX8_isOpen_97 : decode cX8_isOpen 97 = .ok (.iload 6, 2) := by decide +kernel
theorem dX8_isOpen_99 : decode cX8_isOpen 99 = .ok (.iload_n 3, 1) := by decide +kernel
theorem dX8_isOpen_100 : decode cX8_isOpen 100 = .ok (.iload 4, 2) := by decide +kernel
theorem dX8_isOpen_102 : decode cX8_isOpen 102 = .ok (.invokevirtual 121, 3) := by decide +kernel
theorem dX8_isOpen_105 : decode cX8_isOpen 105 = .ok (.iload_n 2, 1) := by decide +kernel
theorem dX8_isOpen_106 : decode cX8_isOpen 106 = .ok (.iand, 1) := by decide +kernel
theorem dX8_isOpen_107 : decode cX8_isOpen 107 = .ok (.ifCond .eq 7, 3) := by decide +kernel
theorem dX8_isOpen_110 : decode cX8_isOpen 110 = .ok (.iconst 1, 1) := by decide +kernel
theorem dX8_isOpen_111 : decode cX8_isOpen 111 = .ok (.goto 17, 3) := by decide +kernel
theorem dX8_isOpen_114 : decode cX8_isOpen 114 = .ok (.iconst 0, 1) := by decide +kernel
theorem dX8_isOpen_115 : decode cX8_isOpen 115 = .ok (.goto 13, 3) := by decide +kernel
theorem dX8_isOpen_118 : decode cX8_isOpen 118 = .ok (.iload 8, 2) := by decide +kernel
theorem dX8_isOpen_120 : decode cX8_isOpen 120 = .ok (.ifCond .ne 7, 3) := by decide +kernel
theorem dX8_isOpen_123 : decode cX8_isOpen 123 = .ok (.iconst 1, 1) := by decide +kernel
theorem dX8_isOpen_124 : decode cX8_isOpen 124 = .ok (.goto 4, 3) := by decide +kernel
theorem dX8_isOpen_127 : decode cX8_isOpen 127 = .ok (.iconst 0, 1) := by decide +kernel
theorem dX8_isOpen_128 : decode cX8_isOpen 128 = .ok (.istore 9, 2) := by decide +kernel
theorem dX8_isOpen_130 : decode cX8_isOpen 130 = .ok (.iload 9, 2) := by decide +kernel
theorem dX8_isOpen_132 : decode cX8_isOpen 132 = .ok (.ifCond .ne 5, 3) := by decide +kernel
theorem dX8_isOpen_135 : decode cX8_isOpen 135 = .ok (.iconst 0, 1) := by decide +kernel
theorem dX8_isOpen_136 : decode cX8_isOpen 136 = .ok (.ireturn, 1) := by decide +kernel
theorem dX8_isOpen_137 : decode cX8_isOpen 137 = .ok (.iinc 5 1, 3) := by decide +kernel
theorem dX8_isOpen_140 : decode cX8_isOpen 140 = .ok (.goto (-137), 3) := by decide +kernel
theorem dX8_isOpen_143 : decode cX8_isOpen 143 = .ok (.iconst 1, 1) := by decide +kernel
theorem dX8_isOpen_144 : decode cX8_isOpen 144 = .ok (.ireturn, 1) := by decide +kernel
theorem mz_i_wsX8_joins_8 : (.code yX8_isArrow cX8_isArrow 5 (some .boolean) : Cond) ∈ wsX8_joins := mz_mt (mz_ml (mz_mt (mz_mt (mz_mt (mz_mt (mz_mt (mz_mt (mz_mt mz_mh))))))))
theorem mz_i_wsX8_joins_13 : (.fieldLink RX8 13 "MadeItSoModel" "parents" "[I" : Cond) ∈ wsX8_joins := mz_mt (mz_ml (mz_mt (mz_mt (mz_mt (mz_mt (mz_mt (mz_mt (mz_mt (mz_mt (mz_mt (mz_mt (mz_mt (mz_mt mz_mh)))))))))))))
theorem mz_i_wsX8_joins_12 : (.code yX8_parentsWithout cX8_parentsWithout 4 (some .int) : Cond) ∈ wsX8_joins := mz_mt (mz_ml (mz_mt (mz_mt (mz_mt (mz_mt (mz_mt (mz_mt (mz_mt (mz_mt (mz_mt (mz_mt (mz_mt mz_mh))))))))))))
theorem mz_i_wsX8_joins_7 : (.initialized RX8 : Cond) ∈ wsX8_joins := mz_mt (mz_ml (mz_mt (mz_mt (mz_mt (mz_mt (mz_mt (mz_mt mz_mh)))))))
theorem mz_i_wsX8_joins_11 : (.selects RX8 yX8_parentsWithout yX8_parentsWithout : Cond) ∈ wsX8_joins := mz_mt (mz_ml (mz_mt (mz_mt (mz_mt (mz_mt (mz_mt (mz_mt (mz_mt (mz_mt (mz_mt (mz_mt mz_mh)))))))))))
theorem mz_i_wsX8_joins_10 : (.instanceMethod yX8_parentsWithout : Cond) ∈ wsX8_joins := mz_mt (mz_ml (mz_mt (mz_mt (mz_mt (mz_mt (mz_mt (mz_mt (mz_mt (mz_mt (mz_mt mz_mh))))))))))
theorem mz_i_wsX8_joins_9 : (.methodLink RX8 74 yX8_parentsWithout : Cond) ∈ wsX8_joins := mz_mt (mz_ml (mz_mt (mz_mt (mz_mt (mz_mt (mz_mt (mz_mt (mz_mt (mz_mt mz_mh)))))))))
theorem mz_f_wsX8_joins_wsX80 : ∀ w ∈ wsX80, w ∈ wsX8_joins := fun _ h => mz_mt (mz_mr h)
set_option maxRecDepth 20000 in
theorem ggX8_joins_X8_isArrow : GoodIn wsX8_joins wsX8_isArrow := goodIn_sub (mz_fc mz_i_wsX8_joins_8 (mz_fa (mz_fc mz_i_wsX8_joins_9 (mz_fc mz_i_wsX8_joins_10 (mz_fc mz_i_wsX8_joins_11 (mz_fc mz_i_wsX8_joins_7 (mz_fc mz_i_wsX8_joins_12 (mz_fc mz_i_wsX8_joins_13 mz_fn)))))) (mz_f_wsX8_joins_wsX80))) (by decide +kernel)
theorem mz_i_wsX8_joins_6 : (.selects RX8 yX8_isArrow yX8_isArrow : Cond) ∈ wsX8_joins := mz_mt (mz_ml (mz_mt (mz_mt (mz_mt (mz_mt (mz_mt mz_mh))))))
theorem mz_i_wsX8_joins_5 : (.instanceMethod yX8_isArrow : Cond) ∈ wsX8_joins := mz_mt (mz_ml (mz_mt (mz_mt (mz_mt (mz_mt mz_mh)))))
theorem mz_i_wsX8_joins_4 : (.methodLink RX8 117 yX8_isArrow : Cond) ∈ wsX8_joins := mz_mt (mz_ml (mz_mt (mz_mt (mz_mt mz_mh))))
set_option maxRecDepth 20000 in
theorem gX8_joins_X8_isArrow : GoodIn wsX8_joins (wsV RX8 117 RX8 yX8_isArrow wsX8_isArrow) := goodIn_app (goodIn_sub (mz_fc mz_i_wsX8_joins_4 (mz_fc mz_i_wsX8_joins_5 (mz_fc mz_i_wsX8_joins_6 (mz_fc mz_i_wsX8_joins_7 mz_fn)))) (by decide +kernel)) ggX8_joins_X8_isArrow
theorem mz_i_wsX8_joins_17 : (.code yX8_isOpen cX8_isOpen 10 (some .boolean) : Cond) ∈ wsX8_joins := mz_mt (mz_ml (mz_mt (mz_mt (mz_mt (mz_mt (mz_mt (mz_mt (mz_mt (mz_mt (mz_mt (mz_mt (mz_mt (mz_mt (mz_mt (mz_mt (mz_mt (mz_mt mz_mh)))))))))))))))))
theorem mz_i_wsX8_joins_3 : (.fieldLink RX8 58 "MadeItSoModel" "many" "I" : Cond) ∈ wsX8_joins := mz_mt (mz_ml (mz_mt (mz_mt mz_mh)))
theorem mz_i_wsX8_joins_21 : (.code yX8_belowWithout cX8_belowWithout 8 (some .int) : Cond) ∈ wsX8_joins := mz_mt (mz_ml (mz_mt (mz_mt (mz_mt (mz_mt (mz_mt (mz_mt (mz_mt (mz_mt (mz_mt (mz_mt (mz_mt (mz_mt (mz_mt (mz_mt (mz_mt (mz_mt (mz_mt (mz_mt (mz_mt (mz_mt mz_mh)))))))))))))))))))))
theorem mz_i_wsX8_joins_20 : (.selects RX8 yX8_belowWithout yX8_belowWithout : Cond) ∈ wsX8_joins := mz_mt (mz_ml (mz_mt (mz_mt (mz_mt (mz_mt (mz_mt (mz_mt (mz_mt (mz_mt (mz_mt (mz_mt (mz_mt (mz_mt (mz_mt (mz_mt (mz_mt (mz_mt (mz_mt (mz_mt (mz_mt mz_mh))))))))))))))))))))
theorem mz_i_wsX8_joins_19 : (.instanceMethod yX8_belowWithout : Cond) ∈ wsX8_joins := mz_mt (mz_ml (mz_mt (mz_mt (mz_mt (mz_mt (mz_mt (mz_mt (mz_mt (mz_mt (mz_mt (mz_mt (mz_mt (mz_mt (mz_mt (mz_mt (mz_mt (mz_mt (mz_mt (mz_mt mz_mh)))))))))))))))))))
theorem mz_i_wsX8_joins_18 : (.methodLink RX8 121 yX8_belowWithout : Cond) ∈ wsX8_joins := mz_mt (mz_ml (mz_mt (mz_mt (mz_mt (mz_mt (mz_mt (mz_mt (mz_mt (mz_mt (mz_mt (mz_mt (mz_mt (mz_mt (mz_mt (mz_mt (mz_mt (mz_mt (mz_mt mz_mh))))))))))))))))))
theorem mz_i_wsX8_joins_1 : (.fieldLink RX8 24 "MadeItSoModel" "way" "[I" : Cond) ∈ wsX8_joins := mz_mt (mz_ml mz_mh)
set_option maxRecDepth 20000 in
theorem ggX8_joins_X8_isOpen : GoodIn wsX8_joins wsX8_isOpen := goodIn_sub (mz_fc mz_i_wsX8_joins_17 (mz_fa (mz_fc mz_i_wsX8_joins_1 (mz_fc mz_i_wsX8_joins_4 (mz_fc mz_i_wsX8_joins_5 (mz_fc mz_i_wsX8_joins_6 (mz_fc mz_i_wsX8_joins_7 (mz_fc mz_i_wsX8_joins_8 (mz_fc mz_i_wsX8_joins_9 (mz_fc mz_i_wsX8_joins_10 (mz_fc mz_i_wsX8_joins_11 (mz_fc mz_i_wsX8_joins_12 (mz_fc mz_i_wsX8_joins_13 (mz_fc mz_i_wsX8_joins_18 (mz_fc mz_i_wsX8_joins_19 (mz_fc mz_i_wsX8_joins_20 (mz_fc mz_i_wsX8_joins_21 (mz_fc mz_i_wsX8_joins_3 mz_fn)))))))))))))))) (mz_f_wsX8_joins_wsX80))) (by decide +kernel)
theorem mz_i_wsX8_joins_16 : (.selects RX8 yX8_isOpen yX8_isOpen : Cond) ∈ wsX8_joins := mz_mt (mz_ml (mz_mt (mz_mt (mz_mt (mz_mt (mz_mt (mz_mt (mz_mt (mz_mt (mz_mt (mz_mt (mz_mt (mz_mt (mz_mt (mz_mt (mz_mt mz_mh))))))))))))))))
theorem mz_i_wsX8_joins_15 : (.instanceMethod yX8_isOpen : Cond) ∈ wsX8_joins := mz_mt (mz_ml (mz_mt (mz_mt (mz_mt (mz_mt (mz_mt (mz_mt (mz_mt (mz_mt (mz_mt (mz_mt (mz_mt (mz_mt (mz_mt (mz_mt mz_mh)))))))))))))))
theorem mz_i_wsX8_joins_14 : (.methodLink RX8 124 yX8_isOpen : Cond) ∈ wsX8_joins := mz_mt (mz_ml (mz_mt (mz_mt (mz_mt (mz_mt (mz_mt (mz_mt (mz_mt (mz_mt (mz_mt (mz_mt (mz_mt (mz_mt (mz_mt mz_mh))))))))))))))
set_option maxRecDepth 20000 in
theorem gX8_joins_X8_isOpen : GoodIn wsX8_joins (wsV RX8 124 RX8 yX8_isOpen wsX8_isOpen) := goodIn_app (goodIn_sub (mz_fc mz_i_wsX8_joins_14 (mz_fc mz_i_wsX8_joins_15 (mz_fc mz_i_wsX8_joins_16 (mz_fc mz_i_wsX8_joins_7 mz_fn)))) (by decide +kernel)) ggX8_joins_X8_isOpen
theorem dX8_joins_0 : decode cX8_joins 0 = .ok (.iconst 1, 1) := by decide +kernel
theorem dX8_joins_1 : decode cX8_joins 1 = .ok (.istore 6, 2) := by decide +kernel
theorem dX8_joins_3 : decode cX8_joins 3 = .ok (.aload_n 0, 1) := by decide +kernel
theorem dX8_joins_4 : decode cX8_joins 4 = .ok (.getfield 24, 3) := by decide +kernel
theorem dX8_joins_7 : decode cX8_joins 7 = .ok (.iconst 0, 1) := by decide +kernel
theorem dX8_joins_8 : decode cX8_joins 8 = .ok (.iload_n 1, 1) := by decide +kernel
theorem dX8_joins_9 : decode cX8_joins 9 = .ok (.iastore, 1) := by decide +kernel
theorem dX8_joins_10 : decode cX8_joins 10 = .ok (.aload_n 0, 1) := by decide +kernel
theorem dX8_joins_11 : decode cX8_joins 11 = .ok (.getfield 27, 3) := by decide +kernel
theorem dX8_joins_14 : decode cX8_joins 14 = .ok (.iconst 0, 1) := by decide +kernel
theorem dX8_joins_15 : decode cX8_joins 15 = .ok (.iconst 0, 1) := by decide +kernel
theorem dX8_joins_16 : decode cX8_joins 16 = .ok (.iastore, 1) := by decide +kernel
theorem dX8_joins_17 : decode cX8_joins 17 = .ok (.iconst 1, 1) := by decide +kernel
theorem dX8_joins_18 : decode cX8_joins 18 = .ok (.iload_n 1, 1) := by decide +kernel
theorem dX8_joins_19 : decode cX8_joins 19 = .ok (.ishl, 1) := by decide +kernel
theorem dX8_joins_20 : decode cX8_joins 20 = .ok (.istore 7, 2) := by decide +kernel
theorem dX8_joins_22 : decode cX8_joins 22 = .ok (.iload 6, 2) := by decide +kernel
theorem dX8_joins_24 : decode cX8_joins 24 = .ok (.ifCond .le 181, 3) := by decide +kernel
theorem dX8_joins_27 : decode cX8_joins 27 = .ok (.aload_n 0, 1) := by decide +kernel
theorem dX8_joins_28 : decode cX8_joins 28 = .ok (.getfield 27, 3) := by decide +kernel
theorem dX8_joins_31 : decode cX8_joins 31 = .ok (.iload 6, 2) := by decide +kernel
theorem dX8_joins_33 : decode cX8_joins 33 = .ok (.iconst 1, 1) := by decide +kernel
theorem dX8_joins_34 : decode cX8_joins 34 = .ok (.isub, 1) := by decide +kernel
theorem dX8_joins_35 : decode cX8_joins 35 = .ok (.iaload, 1) := by decide +kernel
theorem dX8_joins_36 : decode cX8_joins 36 = .ok (.istore 8, 2) := by decide +kernel
theorem dX8_joins_38 : decode cX8_joins 38 = .ok (.aload_n 0, 1) := by decide +kernel
theorem dX8_joins_39 : decode cX8_joins 39 = .ok (.getfield 27, 3) := by decide +kernel
theorem dX8_joins_42 : decode cX8_joins 42 = .ok (.iload 6, 2) := by decide +kernel
theorem dX8_joins_44 : decode cX8_joins 44 = .ok (.iconst 1, 1) := by decide +kernel
theorem dX8_joins_45 : decode cX8_joins 45 = .ok (.isub, 1) := by decide +kernel
theorem dX8_joins_46 : decode cX8_joins 46 = .ok (.dup2, 1) := by decide +kernel
theorem dX8_joins_47 : decode cX8_joins 47 = .ok (.iaload, 1) := by decide +kernel
theorem dX8_joins_48 : decode cX8_joins 48 = .ok (.iconst 1, 1) := by decide +kernel
theorem dX8_joins_49 : decode cX8_joins 49 = .ok (.iadd, 1) := by decide +kernel
theorem dX8_joins_50 : decode cX8_joins 50 = .ok (.iastore, 1) := by decide +kernel
theorem dX8_joins_51 : decode cX8_joins 51 = .ok (.iload 8, 2) := by decide +kernel
theorem dX8_joins_53 : decode cX8_joins 53 = .ok (.aload_n 0, 1) := by decide +kernel
theorem dX8_joins_54 : decode cX8_joins 54 = .ok (.getfield 58, 3) := by decide +kernel
theorem dX8_joins_57 : decode cX8_joins 57 = .ok (.if_icmp .ne 25, 3) := by decide +kernel
theorem dX8_joins_60 : decode cX8_joins 60 = .ok (.iinc 6 (-1), 3) := by decide +kernel
theorem dX8_joins_63 : decode cX8_joins 63 = .ok (.iload 7, 2) := by decide +kernel
theorem dX8_joins_65 : decode cX8_joins 65 = .ok (.iconst 1, 1) := by decide +kernel
theorem dX8_joins_66 : decode cX8_joins 66 = .ok (.aload_n 0, 1) := by decide +kernel
theorem dX8_joins_67 : decode cX8_joins 67 = .ok (.getfield 24, 3) := by decide +kernel
theorem dX8_joins_70 : decode cX8_joins 70 = .ok (.iload 6, 2) := by decide +kernel
theorem dX8_joins_72 : decode cX8_joins 72 = .ok (.iaload, 1) := by decide +kernel
theorem dX8_joins_73 : decode cX8_joins 73 = .ok (.ishl, 1) := by decide +kernel
theorem dX8_joins_74 : decode cX8_joins 74 = .ok (.iconst (-1), 1) := by decide +kernel
theorem dX8_joins_75 : decode cX8_joins 75 = .ok (.ixor, 1) := by decide +kernel
theorem dX8_joins_76 : decode cX8_joins 76 = .ok (.iand, 1) := by decide +kernel
theorem dX8_joins_77 : decode cX8_joins 77 = .ok (.istore 7, 2) := by decide +kernel
theorem dX8_joins_79 : decode cX8_joins 79 = .ok (.goto (-57), 3) := by decide +kernel
theorem dX8_joins_82 : decode cX8_joins 82 = .ok (.aload_n 0, 1) := by decide +kernel
theorem dX8_joins_83 : decode cX8_joins 83 = .ok (.getfield 24, 3) := by decide +kernel
theorem dX8_joins_86 : decode cX8_joins 86 = .ok (.iload 6, 2) := by decide +kernel
theorem dX8_joins_88 : decode cX8_joins 88 = .ok (.iconst 1, 1) := by decide +kernel
theorem dX8_joins_89 : decode cX8_joins 89 = .ok (.isub, 1) := by decide +kernel
theorem dX8_joins_90 : decode cX8_joins 90 = .ok (.iaload, 1) := by decide +kernel
theorem dX8_joins_91 : decode cX8_joins 91 = .ok (.istore 9, 2) := by decide +kernel
theorem dX8_joins_93 : decode cX8_joins 93 = .ok (.aload_n 0, 1) := by decide +kernel
theorem dX8_joins_94 : decode cX8_joins 94 = .ok (.iload 9, 2) := by decide +kernel
theorem dX8_joins_96 : decode cX8_joins 96 = .ok (.iload 8, 2) := by decide +kernel
theorem dX8_joins_98 : decode cX8_joins 98 = .ok (.iload 4, 2) := by decide +kernel
theorem dX8_joins_100 : decode cX8_joins 100 = .ok (.iload 5, 2) := by decide +kernel
theorem dX8_joins_102 : decode cX8_joins 102 = .ok (.invokevirtual 117, 3) := by decide +kernel
theorem dX8_joins_105 : decode cX8_joins 105 = .ok (.ifCond .ne 18, 3) := by decide +kernel
theorem dX8_joins_108 : decode cX8_joins 108 = .ok (.aload_n 0, 1) := by decide +kernel
theorem dX8_joins_109 : decode cX8_joins 109 = .ok (.iload 8, 2) := by decide +kernel
theorem dX8_joins_111 : decode cX8_joins 111 = .ok (.iload 9, 2) := by decide +kernel
theorem dX8_joins_113 : decode cX8_joins 113 = .ok (.iload 4, 2) := by decide +kernel
theorem dX8_joins_115 : decode cX8_joins 115 = .ok (.iload 5, 2) := by decide +kernel
theorem dX8_joins_117 : decode cX8_joins 117 = .ok (.invokevirtual 117, 3) := by decide +kernel
theorem dX8_joins_120 : decode cX8_joins 120 = .ok (.ifCond .eq 7, 3) := by decide +kernel
theorem dX8_joins_123 : decode cX8_joins 123 = .ok (.iconst 1, 1) := by decide +kernel
theorem dX8_joins_124 : decode cX8_joins 124 = .ok (.goto 4, 3) := by decide +kernel
theorem dX8_joins_127 : decode cX8_joins 127 = .ok (.iconst 0, 1) := by decide +kernel
theorem dX8_joins_128 : decode cX8_joins 128 = .ok (.istore 10, 2) := by decide +kernel
theorem dX8_joins_130 : decode cX8_joins 130 = .ok (.iload 10, 2) := by decide +kernel
theorem dX8_joins_132 : decode cX8_joins 132 = .ok (.ifCond .eq (-110), 3) := by decide +kernel
theorem dX8_joins_135 : decode cX8_joins 135 = .ok (.iload 7, 2) := by decide +kernel
theorem dX8_joins_137 : decode cX8_joins 137 = .ok (.iload 8, 2) := by decide +kernel
theorem dX8_joins_139 : decode cX8_joins 139 = .ok (.ishr, 1) := by decide +kernel
theorem dX8_joins_140 : decode cX8_joins 140 = .ok (.iconst 1, 1) := by decide +kernel
theorem dX8_joins_141 : decode cX8_joins 141 = .ok (.iand, 1) := by decide +kernel
theorem dX8_joins_142 : decode cX8_joins 142 = .ok (.iconst 1, 1) := by decide +kernel
theorem dX8_joins_143 : decode cX8_joins 143 = .ok (.if_icmp .ne 6, 3) := by decide +kernel
theorem dX8_joins_146 : decode cX8_joins 146 = .ok (.goto (-124), 3) := by decide +kernel
theorem dX8_joins_149 : decode cX8_joins 149 = .ok (.aload_n 0, 1) := by decide +kernel
theorem dX8_joins_150 : decode cX8_joins 150 = .ok (.getfield 24, 3) := by decide +kernel
theorem dX8_joins_153 : decode cX8_joins 153 = .ok (.iload 6, 2) := by decide +kernel
theorem dX8_joins_155 : decode cX8_joins 155 = .ok (.iload 8, 2) := by decide +kernel
theorem dX8_joins_157 : decode cX8_joins 157 = .ok (.iastore, 1) := by decide +kernel
theorem dX8_joins_158 : decode cX8_joins 158 = .ok (.iload 8, 2) := by decide +kernel
theorem dX8_joins_160 : decode cX8_joins 160 = .ok (.iload_n 2, 1) := by decide +kernel
theorem dX8_joins_161 : decode cX8_joins 161 = .ok (.if_icmp .ne 21, 3) := by decide +kernel
theorem dX8_joins_164 : decode cX8_joins 164 = .ok (.aload_n 0, 1) := by decide +kernel
theorem dX8_joins_165 : decode cX8_joins 165 = .ok (.iload 6, 2) := by decide +kernel
theorem dX8_joins_167 : decode cX8_joins 167 = .ok (.iconst 1, 1) := by decide +kernel
theorem dX8_joins_168 : decode cX8_joins 168 = .ok (.iadd, 1) := by decide +kernel
theorem dX8_joins_169 : decode cX8_joins 169 = .ok (.iload_n 3, 1) := by decide +kernel
theorem dX8_joins_170 : decode cX8_joins 170 = .ok (.iload 4, 2) := by decide +kernel
theorem dX8_joins_172 : decode cX8_joins 172 = .ok (.iload 5, 2) := by decide +kernel
theorem dX8_joins_174 : decode cX8_joins 174 = .ok (.invokevirtual 124, 3) := by decide +kernel
theorem dX8_joins_177 : decode cX8_joins 177 = .ok (.ifCond .eq (-155), 3) := by decide +kernel
theorem dX8_joins_180 : decode cX8_joins 180 = .ok (.iconst 1, 1) := by decide +kernel
theorem dX8_joins_181 : decode cX8_joins 181 = .ok (.ireturn, 1) := by decide +kernel
theorem dX8_joins_182 : decode cX8_joins 182 = .ok (.aload_n 0, 1) := by decide +kernel
theorem dX8_joins_183 : decode cX8_joins 183 = .ok (.getfield 27, 3) := by decide +kernel
theorem dX8_joins_186 : decode cX8_joins 186 = .ok (.iload 6, 2) := by decide +kernel
theorem dX8_joins_188 : decode cX8_joins 188 = .ok (.iconst 0, 1) := by decide +kernel
theorem dX8_joins_189 : decode cX8_joins 189 = .ok (.iastore, 1) := by decide +kernel
theorem dX8_joins_190 : decode cX8_joins 190 = .ok (.iload 7, 2) := by decide +kernel
theorem dX8_joins_192 : decode cX8_joins 192 = .ok (.iconst 1, 1) := by decide +kernel
theorem dX8_joins_193 : decode cX8_joins 193 = .ok (.iload 8, 2) := by decide +kernel
theorem dX8_joins_195 : decode cX8_joins 195 = .ok (.ishl, 1) := by decide +kernel
theorem dX8_joins_196 : decode cX8_joins 196 = .ok (.ior, 1) := by decide +kernel
theorem dX8_joins_197 : decode cX8_joins 197 = .ok (.istore 7, 2) := by decide +kernel
theorem dX8_joins_199 : decode cX8_joins 199 = .ok (.iinc 6 1, 3) := by decide +kernel
theorem dX8_joins_202 : decode cX8_joins 202 = .ok (.goto (-180), 3) := by decide +kernel
theorem dX8_joins_205 : decode cX8_joins 205 = .ok (.iconst 0, 1) := by decide +kernel
theorem dX8_joins_206 : decode cX8_joins 206 = .ok (.ireturn, 1) := by decide +kernel
theorem mz_i_wsX8_barred_6 : (.code yX8_joins cX8_joins 11 (some .boolean) : Cond) ∈ wsX8_barred := mz_mt (mz_ml (mz_ml (mz_mt (mz_mt (mz_mt (mz_mt (mz_mt mz_mh)))))))
theorem mz_i_wsX8_barred_25 : (.code yX8_belowWithout cX8_belowWithout 8 (some .int) : Cond) ∈ wsX8_barred := mz_mt (mz_ml (mz_mr mz_mh))
theorem mz_i_wsX8_barred_24 : (.selects RX8 yX8_belowWithout yX8_belowWithout : Cond) ∈ wsX8_barred := mz_mt (mz_ml (mz_ml (mz_mt (mz_mt (mz_mt (mz_mt (mz_mt (mz_mt (mz_mt (mz_mt (mz_mt (mz_mt (mz_mt (mz_mt (mz_mt (mz_mt (mz_mt (mz_mt (mz_mt (mz_mt (mz_mt (mz_mt (mz_mt (mz_mt (mz_mt mz_mh)))))))))))))))))))))))))
theorem mz_i_wsX8_barred_23 : (.instanceMethod yX8_belowWithout : Cond) ∈ wsX8_barred := mz_mt (mz_ml (mz_ml (mz_mt (mz_mt (mz_mt (mz_mt (mz_mt (mz_mt (mz_mt (mz_mt (mz_mt (mz_mt (mz_mt (mz_mt (mz_mt (mz_mt (mz_mt (mz_mt (mz_mt (mz_mt (mz_mt (mz_mt (mz_mt (mz_mt mz_mh))))))))))))))))))))))))
theorem mz_i_wsX8_barred_22 : (.methodLink RX8 121 yX8_belowWithout : Cond) ∈ wsX8_barred := mz_mt (mz_ml (mz_ml (mz_mt (mz_mt (mz_mt (mz_mt (mz_mt (mz_mt (mz_mt (mz_mt (mz_mt (mz_mt (mz_mt (mz_mt (mz_mt (mz_mt (mz_mt (mz_mt (mz_mt (mz_mt (mz_mt (mz_mt (mz_mt mz_mh)))))))))))))))))))))))
theorem mz_i_wsX8_barred_21 : (.code yX8_isOpen cX8_isOpen 10 (some .boolean) : Cond) ∈ wsX8_barred := mz_mt (mz_ml (mz_ml (mz_mt (mz_mt (mz_mt (mz_mt (mz_mt (mz_mt (mz_mt (mz_mt (mz_mt (mz_mt (mz_mt (mz_mt (mz_mt (mz_mt (mz_mt (mz_mt (mz_mt (mz_mt (mz_mt (mz_mt mz_mh))))))))))))))))))))))
theorem mz_i_wsX8_barred_20 : (.selects RX8 yX8_isOpen yX8_isOpen : Cond) ∈ wsX8_barred := mz_mt (mz_ml (mz_ml (mz_mt (mz_mt (mz_mt (mz_mt (mz_mt (mz_mt (mz_mt (mz_mt (mz_mt (mz_mt (mz_mt (mz_mt (mz_mt (mz_mt (mz_mt (mz_mt (mz_mt (mz_mt (mz_mt mz_mh)))))))))))))))))))))
theorem mz_i_wsX8_barred_19 : (.instanceMethod yX8_isOpen : Cond) ∈ wsX8_barred := mz_mt (mz_ml (mz_ml (mz_mt (mz_mt (mz_mt (mz_mt (mz_mt (mz_mt (mz_mt (mz_mt (mz_mt (mz_mt (mz_mt (mz_mt (mz_mt (mz_mt (mz_mt (mz_mt (mz_mt (mz_mt mz_mh))))))))))))))))))))
theorem mz_i_wsX8_barred_18 : (.methodLink RX8 124 yX8_isOpen : Cond) ∈ wsX8_barred := mz_mt (mz_ml (mz_ml (mz_mt (mz_mt (mz_mt (mz_mt (mz_mt (mz_mt (mz_mt (mz_mt (mz_mt (mz_mt (mz_mt (mz_mt (mz_mt (mz_mt (mz_mt (mz_mt (mz_mt mz_mh)))))))))))))))))))
theorem mz_i_wsX8_barred_17 : (.fieldLink RX8 13 "MadeItSoModel" "parents" "[I" : Cond) ∈ wsX8_barred := mz_mt (mz_ml (mz_ml (mz_mt (mz_mt (mz_mt (mz_mt (mz_mt (mz_mt (mz_mt (mz_mt (mz_mt (mz_mt (mz_mt (mz_mt (mz_mt (mz_mt (mz_mt (mz_mt mz_mh))))))))))))))))))
theorem mz_i_wsX8_barred_16 : (.code yX8_parentsWithout cX8_parentsWithout 4 (some .int) : Cond) ∈ wsX8_barred := mz_mt (mz_ml (mz_ml (mz_mt (mz_mt (mz_mt (mz_mt (mz_mt (mz_mt (mz_mt (mz_mt (mz_mt (mz_mt (mz_mt (mz_mt (mz_mt (mz_mt (mz_mt mz_mh)))))))))))))))))
theorem mz_i_wsX8_barred_15 : (.selects RX8 yX8_parentsWithout yX8_parentsWithout : Cond) ∈ wsX8_barred := mz_mt (mz_ml (mz_ml (mz_mt (mz_mt (mz_mt (mz_mt (mz_mt (mz_mt (mz_mt (mz_mt (mz_mt (mz_mt (mz_mt (mz_mt (mz_mt (mz_mt mz_mh))))))))))))))))
theorem mz_i_wsX8_barred_14 : (.instanceMethod yX8_parentsWithout : Cond) ∈ wsX8_barred := mz_mt (mz_ml (mz_ml (mz_mt (mz_mt (mz_mt (mz_mt (mz_mt (mz_mt (mz_mt (mz_mt (mz_mt (mz_mt (mz_mt (mz_mt (mz_mt mz_mh)))))))))))))))
theorem mz_i_wsX8_barred_13 : (.methodLink RX8 74 yX8_parentsWithout : Cond) ∈ wsX8_barred := mz_mt (mz_ml (mz_ml (mz_mt (mz_mt (mz_mt (mz_mt (mz_mt (mz_mt (mz_mt (mz_mt (mz_mt (mz_mt (mz_mt (mz_mt mz_mh))))))))))))))
theorem mz_i_wsX8_barred_12 : (.code yX8_isArrow cX8_isArrow 5 (some .boolean) : Cond) ∈ wsX8_barred := mz_mt (mz_ml (mz_ml (mz_mt (mz_mt (mz_mt (mz_mt (mz_mt (mz_mt (mz_mt (mz_mt (mz_mt (mz_mt (mz_mt mz_mh)))))))))))))
theorem mz_i_wsX8_barred_5 : (.initialized RX8 : Cond) ∈ wsX8_barred := mz_mt (mz_ml (mz_ml (mz_mt (mz_mt (mz_mt (mz_mt mz_mh))))))
theorem mz_i_wsX8_barred_11 : (.selects RX8 yX8_isArrow yX8_isArrow : Cond) ∈ wsX8_barred := mz_mt (mz_ml (mz_ml (mz_mt (mz_mt (mz_mt (mz_mt (mz_mt (mz_mt (mz_mt (mz_mt (mz_mt (mz_mt mz_mh))))))))))))
theorem mz_i_wsX8_barred_10 : (.instanceMethod yX8_isArrow : Cond) ∈ wsX8_barred := mz_mt (mz_ml (mz_ml (mz_mt (mz_mt (mz_mt (mz_mt (mz_mt (mz_mt (mz_mt (mz_mt (mz_mt mz_mh)))))))))))
theorem mz_i_wsX8_barred_9 : (.methodLink RX8 117 yX8_isArrow : Cond) ∈ wsX8_barred := mz_mt (mz_ml (mz_ml (mz_mt (mz_mt (mz_mt (mz_mt (mz_mt (mz_mt (mz_mt (mz_mt mz_mh))))))))))
theorem mz_i_wsX8_barred_1 : (.fieldLink RX8 58 "MadeItSoModel" "many" "I" : Cond) ∈ wsX8_barred := mz_mt (mz_ml (mz_ml mz_mh))
theorem mz_i_wsX8_barred_8 : (.fieldLink RX8 27 "MadeItSoModel" "tried" "[I" : Cond) ∈ wsX8_barred := mz_mt (mz_ml (mz_ml (mz_mt (mz_mt (mz_mt (mz_mt (mz_mt (mz_mt (mz_mt mz_mh)))))))))
theorem mz_i_wsX8_barred_7 : (.fieldLink RX8 24 "MadeItSoModel" "way" "[I" : Cond) ∈ wsX8_barred := mz_mt (mz_ml (mz_ml (mz_mt (mz_mt (mz_mt (mz_mt (mz_mt (mz_mt mz_mh))))))))
theorem mz_f_wsX8_barred_wsX80 : ∀ w ∈ wsX80, w ∈ wsX8_barred := fun _ h => mz_mt (mz_mr h)
set_option maxRecDepth 20000 in
theorem ggX8_barred_X8_joins : GoodIn wsX8_barred wsX8_joins := goodIn_sub (mz_fc mz_i_wsX8_barred_6 (mz_fa (mz_fc mz_i_wsX8_barred_7 (mz_fc mz_i_wsX8_barred_8 (mz_fc mz_i_wsX8_barred_1 (mz_fc mz_i_wsX8_barred_9 (mz_fc mz_i_wsX8_barred_10 (mz_fc mz_i_wsX8_barred_11 (mz_fc mz_i_wsX8_barred_5 (mz_fc mz_i_wsX8_barred_12 (mz_fc mz_i_wsX8_barred_13 (mz_fc mz_i_wsX8_barred_14 (mz_fc mz_i_wsX8_barred_15 (mz_fc mz_i_wsX8_barred_16 (mz_fc mz_i_wsX8_barred_17 (mz_fc mz_i_wsX8_barred_18 (mz_fc mz_i_wsX8_barred_19 (mz_fc mz_i_wsX8_barred_20 (mz_fc mz_i_wsX8_barred_21 (mz_fc mz_i_wsX8_barred_22 (mz_fc mz_i_wsX8_barred_23 (mz_fc mz_i_wsX8_barred_24 (mz_fc mz_i_wsX8_barred_25 mz_fn))))))))))))))))))))) (mz_f_wsX8_barred_wsX80))) (by decide +kernel)
theorem mz_i_wsX8_barred_4 : (.selects RX8 yX8_joins yX8_joins : Cond) ∈ wsX8_barred := mz_mt (mz_ml (mz_ml (mz_mt (mz_mt (mz_mt mz_mh)))))
theorem mz_i_wsX8_barred_3 : (.instanceMethod yX8_joins : Cond) ∈ wsX8_barred := mz_mt (mz_ml (mz_ml (mz_mt (mz_mt mz_mh))))
theorem mz_i_wsX8_barred_2 : (.methodLink RX8 127 yX8_joins : Cond) ∈ wsX8_barred := mz_mt (mz_ml (mz_ml (mz_mt mz_mh)))
set_option maxRecDepth 20000 in
theorem gX8_barred_X8_joins : GoodIn wsX8_barred (wsV RX8 127 RX8 yX8_joins wsX8_joins) := goodIn_app (goodIn_sub (mz_fc mz_i_wsX8_barred_2 (mz_fc mz_i_wsX8_barred_3 (mz_fc mz_i_wsX8_barred_4 (mz_fc mz_i_wsX8_barred_5 mz_fn)))) (by decide +kernel)) ggX8_barred_X8_joins
theorem dX8_barred_0 : decode cX8_barred 0 = .ok (.iconst 0, 1) := by decide +kernel
theorem dX8_barred_1 : decode cX8_barred 1 = .ok (.istore 6, 2) := by decide +kernel
theorem dX8_barred_3 : decode cX8_barred 3 = .ok (.iload 6, 2) := by decide +kernel
theorem dX8_barred_5 : decode cX8_barred 5 = .ok (.aload_n 0, 1) := by decide +kernel
theorem dX8_barred_6 : decode cX8_barred 6 = .ok (.getfield 58, 3) := by decide +kernel
theorem dX8_barred_9 : decode cX8_barred 9 = .ok (.if_icmp .ge 65, 3) := by decide +kernel
theorem dX8_barred_12 : decode cX8_barred 12 = .ok (.iconst 0, 1) := by decide +kernel
theorem dX8_barred_13 : decode cX8_barred 13 = .ok (.istore 7, 2) := by decide +kernel
theorem dX8_barred_15 : decode cX8_barred 15 = .ok (.iload 7, 2) := by decide +kernel
theorem dX8_barred_17 : decode cX8_barred 17 = .ok (.aload_n 0, 1) := by decide +kernel
theorem dX8_barred_18 : decode cX8_barred 18 = .ok (.getfield 58, 3) := by decide +kernel
theorem dX8_barred_21 : decode cX8_barred 21 = .ok (.if_icmp .ge 47, 3) := by decide +kernel
theorem dX8_barred_24 : decode cX8_barred 24 = .ok (.iload_n 1, 1) := by decide +kernel
theorem dX8_barred_25 : decode cX8_barred 25 = .ok (.iload 6, 2) := by decide +kernel
theorem dX8_barred_27 : decode cX8_barred 27 = .ok (.ishr, 1) := by decide +kernel
theorem dX8_barred_28 : decode cX8_barred 28 = .ok (.iconst 1, 1) := by decide +kernel
theorem dX8_barred_29 : decode cX8_barred 29 = .ok (.iand, 1) := by decide +kernel
theorem dX8_barred_30 : decode cX8_barred 30 = .ok (.iconst 1, 1) := by decide +kernel
theorem dX8_barred_31 : decode cX8_barred 31 = .ok (.if_icmp .ne 31, 3) := by decide +kernel
theorem dX8_barred_34 : decode cX8_barred 34 = .ok (.iload_n 2, 1) := by decide +kernel
theorem dX8_barred_35 : decode cX8_barred 35 = .ok (.iload 7, 2) := by decide +kernel
theorem dX8_barred_37 : decode cX8_barred 37 = .ok (.ishr, 1) := by decide +kernel
theorem dX8_barred_38 : decode cX8_barred 38 = .ok (.iconst 1, 1) := by decide +kernel
theorem dX8_barred_39 : decode cX8_barred 39 = .ok (.iand, 1) := by decide +kernel
theorem dX8_barred_40 : decode cX8_barred 40 = .ok (.iconst 1, 1) := by decide +kernel
theorem dX8_barred_41 : decode cX8_barred 41 = .ok (.if_icmp .ne 21, 3) := by decide +kernel
theorem dX8_barred_44 : decode cX8_barred 44 = .ok (.aload_n 0, 1) := by decide +kernel
theorem dX8_barred_45 : decode cX8_barred 45 = .ok (.iload 6, 2) := by decide +kernel
theorem dX8_barred_47 : decode cX8_barred 47 = .ok (.iload 7, 2) := by decide +kernel
theorem dX8_barred_49 : decode cX8_barred 49 = .ok (.iload_n 3, 1) := by decide +kernel
theorem dX8_barred_50 : decode cX8_barred 50 = .ok (.iload 4, 2) := by decide +kernel
theorem dX8_barred_52 : decode cX8_barred 52 = .ok (.iload 5, 2) := by decide +kernel
theorem dX8_barred_54 : decode cX8_barred 54 = .ok (.invokevirtual 127, 3) := by decide +kernel
theorem dX8_barred_57 : decode cX8_barred 57 = .ok (.ifCond .eq 5, 3) := by decide +kernel
theorem dX8_barred_60 : decode cX8_barred 60 = .ok (.iconst 0, 1) := by decide +kernel
theorem dX8_barred_61 : decode cX8_barred 61 = .ok (.ireturn, 1) := by decide +kernel
theorem dX8_barred_62 : decode cX8_barred 62 = .ok (.iinc 7 1, 3) := by decide +kernel
theorem dX8_barred_65 : decode cX8_barred 65 = .ok (.goto (-50), 3) := by decide +kernel
theorem dX8_barred_68 : decode cX8_barred 68 = .ok (.iinc 6 1, 3) := by decide +kernel
theorem dX8_barred_71 : decode cX8_barred 71 = .ok (.goto (-68), 3) := by decide +kernel
theorem dX8_barred_74 : decode cX8_barred 74 = .ok (.iconst 1, 1) := by decide +kernel
theorem dX8_barred_75 : decode cX8_barred 75 = .ok (.ireturn, 1) := by decide +kernel
