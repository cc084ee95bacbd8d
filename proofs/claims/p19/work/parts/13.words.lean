/-! printed rows of NAMES that the contracts use -/
theorem dX8_isThing_0 : decode cX8_isThing 0 = .ok (.iload_n 1, 1) := by decide +kernel
theorem dX8_isThing_1 : decode cX8_isThing 1 = .ok (.ifCond .lt 15, 3) := by decide +kernel
theorem dX8_isThing_4 : decode cX8_isThing 4 = .ok (.iload_n 1, 1) := by decide +kernel
theorem dX8_isThing_5 : decode cX8_isThing 5 = .ok (.aload_n 0, 1) := by decide +kernel
theorem dX8_isThing_6 : decode cX8_isThing 6 = .ok (.getfield 58, 3) := by decide +kernel
theorem dX8_isThing_9 : decode cX8_isThing 9 = .ok (.if_icmp .ge 7, 3) := by decide +kernel
theorem dX8_isThing_12 : decode cX8_isThing 12 = .ok (.iconst 1, 1) := by decide +kernel
theorem dX8_isThing_13 : decode cX8_isThing 13 = .ok (.goto 4, 3) := by decide +kernel
theorem dX8_isThing_16 : decode cX8_isThing 16 = .ok (.iconst 0, 1) := by decide +kernel
theorem dX8_isThing_17 : decode cX8_isThing 17 = .ok (.ireturn, 1) := by decide +kernel
theorem dX8_isHeap_0 : decode cX8_isHeap 0 = .ok (.iload_n 1, 1) := by decide +kernel
theorem dX8_isHeap_1 : decode cX8_isHeap 1 = .ok (.ifCond .lt 17, 3) := by decide +kernel
theorem dX8_isHeap_4 : decode cX8_isHeap 4 = .ok (.iload_n 1, 1) := by decide +kernel
theorem dX8_isHeap_5 : decode cX8_isHeap 5 = .ok (.iconst 1, 1) := by decide +kernel
theorem dX8_isHeap_6 : decode cX8_isHeap 6 = .ok (.aload_n 0, 1) := by decide +kernel
theorem dX8_isHeap_7 : decode cX8_isHeap 7 = .ok (.getfield 58, 3) := by decide +kernel
theorem dX8_isHeap_10 : decode cX8_isHeap 10 = .ok (.ishl, 1) := by decide +kernel
theorem dX8_isHeap_11 : decode cX8_isHeap 11 = .ok (.if_icmp .ge 7, 3) := by decide +kernel
theorem dX8_isHeap_14 : decode cX8_isHeap 14 = .ok (.iconst 1, 1) := by decide +kernel
theorem dX8_isHeap_15 : decode cX8_isHeap 15 = .ok (.goto 4, 3) := by decide +kernel
theorem dX8_isHeap_18 : decode cX8_isHeap 18 = .ok (.iconst 0, 1) := by decide +kernel
theorem dX8_isHeap_19 : decode cX8_isHeap 19 = .ok (.ireturn, 1) := by decide +kernel
theorem mz_i_wsX8_isSetting_6 : (.code yX8_isHeap cX8_isHeap 2 (some .boolean) : Cond) ∈ wsX8_isSetting := mz_mt (mz_ml (mz_mt (mz_mt (mz_mt (mz_mt (mz_mt mz_mh))))))
theorem mz_i_wsX8_isSetting_7 : (.fieldLink RX8 58 "MadeItSoModel" "many" "I" : Cond) ∈ wsX8_isSetting := mz_mt (mz_ml (mz_mt (mz_mt (mz_mt (mz_mt (mz_mt (mz_mt mz_mh)))))))
theorem mz_f_wsX8_isSetting_wsX80 : ∀ w ∈ wsX80, w ∈ wsX8_isSetting := fun _ h => mz_mt (mz_mr h)
set_option maxRecDepth 20000 in
theorem ggX8_isSetting_X8_isHeap : GoodIn wsX8_isSetting wsX8_isHeap := goodIn_sub (mz_fc mz_i_wsX8_isSetting_6 (mz_fa (mz_fc mz_i_wsX8_isSetting_7 mz_fn) (mz_f_wsX8_isSetting_wsX80))) (by decide +kernel)
theorem mz_i_wsX8_isSetting_5 : (.initialized RX8 : Cond) ∈ wsX8_isSetting := mz_mt (mz_ml (mz_mt (mz_mt (mz_mt (mz_mt mz_mh)))))
theorem mz_i_wsX8_isSetting_4 : (.selects RX8 yX8_isHeap yX8_isHeap : Cond) ∈ wsX8_isSetting := mz_mt (mz_ml (mz_mt (mz_mt (mz_mt mz_mh))))
theorem mz_i_wsX8_isSetting_3 : (.instanceMethod yX8_isHeap : Cond) ∈ wsX8_isSetting := mz_mt (mz_ml (mz_mt (mz_mt mz_mh)))
theorem mz_i_wsX8_isSetting_2 : (.methodLink RX8 63 yX8_isHeap : Cond) ∈ wsX8_isSetting := mz_mt (mz_ml (mz_mt mz_mh))
set_option maxRecDepth 20000 in
theorem gX8_isSetting_X8_isHeap : GoodIn wsX8_isSetting (wsV RX8 63 RX8 yX8_isHeap wsX8_isHeap) := goodIn_app (goodIn_sub (mz_fc mz_i_wsX8_isSetting_2 (mz_fc mz_i_wsX8_isSetting_3 (mz_fc mz_i_wsX8_isSetting_4 (mz_fc mz_i_wsX8_isSetting_5 mz_fn)))) (by decide +kernel)) ggX8_isSetting_X8_isHeap
theorem dX8_isSetting_0 : decode cX8_isSetting 0 = .ok (.iload_n 1, 1) := by decide +kernel
theorem dX8_isSetting_1 : decode cX8_isSetting 1 = .ok (.ifCond .lt 40, 3) := by decide +kernel
theorem dX8_isSetting_4 : decode cX8_isSetting 4 = .ok (.iload_n 1, 1) := by decide +kernel
theorem dX8_isSetting_5 : decode cX8_isSetting 5 = .ok (.ldc 62, 2) := by decide +kernel
theorem dX8_isSetting_7 : decode cX8_isSetting 7 = .ok (.if_icmp .ge 34, 3) := by decide +kernel
theorem dX8_isSetting_10 : decode cX8_isSetting 10 = .ok (.aload_n 0, 1) := by decide +kernel
theorem dX8_isSetting_11 : decode cX8_isSetting 11 = .ok (.iload_n 1, 1) := by decide +kernel
theorem dX8_isSetting_12 : decode cX8_isSetting 12 = .ok (.sipush 255, 3) := by decide +kernel
theorem dX8_isSetting_15 : decode cX8_isSetting 15 = .ok (.iand, 1) := by decide +kernel
theorem dX8_isSetting_16 : decode cX8_isSetting 16 = .ok (.invokevirtual 63, 3) := by decide +kernel
theorem dX8_isSetting_19 : decode cX8_isSetting 19 = .ok (.ifCond .eq 22, 3) := by decide +kernel
theorem dX8_isSetting_22 : decode cX8_isSetting 22 = .ok (.iload_n 1, 1) := by decide +kernel
theorem dX8_isSetting_23 : decode cX8_isSetting 23 = .ok (.bipush 8, 2) := by decide +kernel
theorem dX8_isSetting_25 : decode cX8_isSetting 25 = .ok (.ishr, 1) := by decide +kernel
theorem dX8_isSetting_26 : decode cX8_isSetting 26 = .ok (.iload_n 1, 1) := by decide +kernel
theorem dX8_isSetting_27 : decode cX8_isSetting 27 = .ok (.sipush 255, 3) := by decide +kernel
theorem dX8_isSetting_30 : decode cX8_isSetting 30 = .ok (.iand, 1) := by decide +kernel
theorem dX8_isSetting_31 : decode cX8_isSetting 31 = .ok (.iconst (-1), 1) := by decide +kernel
theorem dX8_isSetting_32 : decode cX8_isSetting 32 = .ok (.ixor, 1) := by decide +kernel
theorem dX8_isSetting_33 : decode cX8_isSetting 33 = .ok (.iand, 1) := by decide +kernel
theorem dX8_isSetting_34 : decode cX8_isSetting 34 = .ok (.ifCond .ne 7, 3) := by decide +kernel
theorem dX8_isSetting_37 : decode cX8_isSetting 37 = .ok (.iconst 1, 1) := by decide +kernel
theorem dX8_isSetting_38 : decode cX8_isSetting 38 = .ok (.goto 4, 3) := by decide +kernel
theorem dX8_isSetting_41 : decode cX8_isSetting 41 = .ok (.iconst 0, 1) := by decide +kernel
theorem dX8_isSetting_42 : decode cX8_isSetting 42 = .ok (.ireturn, 1) := by decide +kernel
theorem dX8_fresh_0 : decode cX8_fresh 0 = .ok (.iconst 0, 1) := by decide +kernel
theorem dX8_fresh_1 : decode cX8_fresh 1 = .ok (.istore_n 2, 1) := by decide +kernel
theorem dX8_fresh_2 : decode cX8_fresh 2 = .ok (.iload_n 2, 1) := by decide +kernel
theorem dX8_fresh_3 : decode cX8_fresh 3 = .ok (.sipush 128, 3) := by decide +kernel
theorem dX8_fresh_6 : decode cX8_fresh 6 = .ok (.if_icmp .ge 23, 3) := by decide +kernel
theorem dX8_fresh_9 : decode cX8_fresh 9 = .ok (.aload_n 0, 1) := by decide +kernel
theorem dX8_fresh_10 : decode cX8_fresh 10 = .ok (.getfield 17, 3) := by decide +kernel
theorem dX8_fresh_13 : decode cX8_fresh 13 = .ok (.sipush 128, 3) := by decide +kernel
theorem dX8_fresh_16 : decode cX8_fresh 16 = .ok (.iload_n 1, 1) := by decide +kernel
theorem dX8_fresh_17 : decode cX8_fresh 17 = .ok (.imul, 1) := by decide +kernel
theorem dX8_fresh_18 : decode cX8_fresh 18 = .ok (.iload_n 2, 1) := by decide +kernel
theorem dX8_fresh_19 : decode cX8_fresh 19 = .ok (.iadd, 1) := by decide +kernel
theorem dX8_fresh_20 : decode cX8_fresh 20 = .ok (.bipush 50, 2) := by decide +kernel
theorem dX8_fresh_22 : decode cX8_fresh 22 = .ok (.iastore, 1) := by decide +kernel
theorem dX8_fresh_23 : decode cX8_fresh 23 = .ok (.iinc 2 1, 3) := by decide +kernel
theorem dX8_fresh_26 : decode cX8_fresh 26 = .ok (.goto (-24), 3) := by decide +kernel
theorem dX8_fresh_29 : decode cX8_fresh 29 = .ok (.return_, 1) := by decide +kernel
theorem mz_i_wsX8_has_6 : (.code yX8_isThing cX8_isThing 2 (some .boolean) : Cond) ∈ wsX8_has := mz_mt (mz_ml (mz_mt (mz_mt (mz_mt (mz_mt (mz_mt mz_mh))))))
theorem mz_i_wsX8_has_7 : (.fieldLink RX8 58 "MadeItSoModel" "many" "I" : Cond) ∈ wsX8_has := mz_mt (mz_ml (mz_mt (mz_mt (mz_mt (mz_mt (mz_mt (mz_mt mz_mh)))))))
theorem mz_f_wsX8_has_wsX80 : ∀ w ∈ wsX80, w ∈ wsX8_has := fun _ h => mz_mt (mz_mr h)
set_option maxRecDepth 20000 in
theorem ggX8_has_X8_isThing : GoodIn wsX8_has wsX8_isThing := goodIn_sub (mz_fc mz_i_wsX8_has_6 (mz_fa (mz_fc mz_i_wsX8_has_7 mz_fn) (mz_f_wsX8_has_wsX80))) (by decide +kernel)
theorem mz_i_wsX8_has_5 : (.initialized RX8 : Cond) ∈ wsX8_has := mz_mt (mz_ml (mz_mt (mz_mt (mz_mt (mz_mt mz_mh)))))
theorem mz_i_wsX8_has_4 : (.selects RX8 yX8_isThing yX8_isThing : Cond) ∈ wsX8_has := mz_mt (mz_ml (mz_mt (mz_mt (mz_mt mz_mh))))
theorem mz_i_wsX8_has_3 : (.instanceMethod yX8_isThing : Cond) ∈ wsX8_has := mz_mt (mz_ml (mz_mt (mz_mt mz_mh)))
theorem mz_i_wsX8_has_2 : (.methodLink RX8 71 yX8_isThing : Cond) ∈ wsX8_has := mz_mt (mz_ml (mz_mt mz_mh))
set_option maxRecDepth 20000 in
theorem gX8_has_X8_isThing : GoodIn wsX8_has (wsV RX8 71 RX8 yX8_isThing wsX8_isThing) := goodIn_app (goodIn_sub (mz_fc mz_i_wsX8_has_2 (mz_fc mz_i_wsX8_has_3 (mz_fc mz_i_wsX8_has_4 (mz_fc mz_i_wsX8_has_5 mz_fn)))) (by decide +kernel)) ggX8_has_X8_isThing
theorem dX8_has_0 : decode cX8_has 0 = .ok (.aload_n 0, 1) := by decide +kernel
theorem dX8_has_1 : decode cX8_has 1 = .ok (.iload_n 1, 1) := by decide +kernel
theorem dX8_has_2 : decode cX8_has 2 = .ok (.invokevirtual 71, 3) := by decide +kernel
theorem dX8_has_5 : decode cX8_has 5 = .ok (.ifCond .eq 29, 3) := by decide +kernel
theorem dX8_has_8 : decode cX8_has 8 = .ok (.aload_n 0, 1) := by decide +kernel
theorem dX8_has_9 : decode cX8_has 9 = .ok (.iload_n 2, 1) := by decide +kernel
theorem dX8_has_10 : decode cX8_has 10 = .ok (.invokevirtual 71, 3) := by decide +kernel
theorem dX8_has_13 : decode cX8_has 13 = .ok (.ifCond .eq 21, 3) := by decide +kernel
theorem dX8_has_16 : decode cX8_has 16 = .ok (.aload_n 0, 1) := by decide +kernel
theorem dX8_has_17 : decode cX8_has 17 = .ok (.getfield 13, 3) := by decide +kernel
theorem dX8_has_20 : decode cX8_has 20 = .ok (.iload_n 2, 1) := by decide +kernel
theorem dX8_has_21 : decode cX8_has 21 = .ok (.iaload, 1) := by decide +kernel
theorem dX8_has_22 : decode cX8_has 22 = .ok (.iload_n 1, 1) := by decide +kernel
theorem dX8_has_23 : decode cX8_has 23 = .ok (.ishr, 1) := by decide +kernel
theorem dX8_has_24 : decode cX8_has 24 = .ok (.iconst 1, 1) := by decide +kernel
theorem dX8_has_25 : decode cX8_has 25 = .ok (.iand, 1) := by decide +kernel
theorem dX8_has_26 : decode cX8_has 26 = .ok (.iconst 1, 1) := by decide +kernel
theorem dX8_has_27 : decode cX8_has 27 = .ok (.if_icmp .ne 7, 3) := by decide +kernel
theorem dX8_has_30 : decode cX8_has 30 = .ok (.iconst 1, 1) := by decide +kernel
theorem dX8_has_31 : decode cX8_has 31 = .ok (.goto 4, 3) := by decide +kernel
theorem dX8_has_34 : decode cX8_has 34 = .ok (.iconst 0, 1) := by decide +kernel
theorem dX8_has_35 : decode cX8_has 35 = .ok (.ireturn, 1) := by decide +kernel
theorem mz_i_wsX8_belowOf_6 : (.code yX8_parentsWithout cX8_parentsWithout 4 (some .int) : Cond) ∈ wsX8_belowOf := mz_mt (mz_ml (mz_mt (mz_mt (mz_mt (mz_mt (mz_mt mz_mh))))))
theorem mz_i_wsX8_belowOf_7 : (.fieldLink RX8 13 "MadeItSoModel" "parents" "[I" : Cond) ∈ wsX8_belowOf := mz_mt (mz_ml (mz_mt (mz_mt (mz_mt (mz_mt (mz_mt (mz_mt mz_mh)))))))
theorem mz_f_wsX8_belowOf_wsX80 : ∀ w ∈ wsX80, w ∈ wsX8_belowOf := fun _ h => mz_mt (mz_mr h)
set_option maxRecDepth 20000 in
theorem ggX8_belowOf_X8_parentsWithout : GoodIn wsX8_belowOf wsX8_parentsWithout := goodIn_sub (mz_fc mz_i_wsX8_belowOf_6 (mz_fa (mz_fc mz_i_wsX8_belowOf_7 mz_fn) (mz_f_wsX8_belowOf_wsX80))) (by decide +kernel)
theorem mz_i_wsX8_belowOf_5 : (.initialized RX8 : Cond) ∈ wsX8_belowOf := mz_mt (mz_ml (mz_mt (mz_mt (mz_mt (mz_mt mz_mh)))))
theorem mz_i_wsX8_belowOf_4 : (.selects RX8 yX8_parentsWithout yX8_parentsWithout : Cond) ∈ wsX8_belowOf := mz_mt (mz_ml (mz_mt (mz_mt (mz_mt mz_mh))))
theorem mz_i_wsX8_belowOf_3 : (.instanceMethod yX8_parentsWithout : Cond) ∈ wsX8_belowOf := mz_mt (mz_ml (mz_mt (mz_mt mz_mh)))
theorem mz_i_wsX8_belowOf_2 : (.methodLink RX8 74 yX8_parentsWithout : Cond) ∈ wsX8_belowOf := mz_mt (mz_ml (mz_mt mz_mh))
set_option maxRecDepth 20000 in
theorem gX8_belowOf_X8_parentsWithout : GoodIn wsX8_belowOf (wsV RX8 74 RX8 yX8_parentsWithout wsX8_parentsWithout) := goodIn_app (goodIn_sub (mz_fc mz_i_wsX8_belowOf_2 (mz_fc mz_i_wsX8_belowOf_3 (mz_fc mz_i_wsX8_belowOf_4 (mz_fc mz_i_wsX8_belowOf_5 mz_fn)))) (by decide +kernel)) ggX8_belowOf_X8_parentsWithout
theorem dX8_belowOf_0 : decode cX8_belowOf 0 = .ok (.iconst 0, 1) := by decide +kernel
theorem dX8_belowOf_1 : decode cX8_belowOf 1 = .ok (.istore_n 3, 1) := by decide +kernel
theorem dX8_belowOf_2 : decode cX8_belowOf 2 = .ok (.iconst 1, 1) := by decide +kernel
theorem dX8_belowOf_3 : decode cX8_belowOf 3 = .ok (.istore 4, 2) := by decide +kernel
theorem dX8_belowOf_5 : decode cX8_belowOf 5 = .ok (.iload 4, 2) := by decide +kernel
theorem dX8_belowOf_7 : decode cX8_belowOf 7 = .ok (.ifCond .eq 88, 3) := by decide +kernel
theorem dX8_belowOf_10 : decode cX8_belowOf 10 = .ok (.iconst 0, 1) := by decide +kernel
theorem dX8_belowOf_11 : decode cX8_belowOf 11 = .ok (.istore 4, 2) := by decide +kernel
theorem dX8_belowOf_13 : decode cX8_belowOf 13 = .ok (.iconst 0, 1) := by decide +kernel
theorem dX8_belowOf_14 : decode cX8_belowOf 14 = .ok (.istore 5, 2) := by decide +kernel
theorem dX8_belowOf_16 : decode cX8_belowOf 16 = .ok (.iload 5, 2) := by decide +kernel
theorem dX8_belowOf_18 : decode cX8_belowOf 18 = .ok (.aload_n 0, 1) := by decide +kernel
theorem dX8_belowOf_19 : decode cX8_belowOf 19 = .ok (.getfield 58, 3) := by decide +kernel
theorem dX8_belowOf_22 : decode cX8_belowOf 22 = .ok (.if_icmp .ge 70, 3) := by decide +kernel
theorem dX8_belowOf_25 : decode cX8_belowOf 25 = .ok (.aload_n 0, 1) := by decide +kernel
theorem dX8_belowOf_26 : decode cX8_belowOf 26 = .ok (.iload 5, 2) := by decide +kernel
theorem dX8_belowOf_28 : decode cX8_belowOf 28 = .ok (.iload_n 1, 1) := by decide +kernel
theorem dX8_belowOf_29 : decode cX8_belowOf 29 = .ok (.iload_n 2, 1) := by decide +kernel
theorem dX8_belowOf_30 : decode cX8_belowOf 30 = .ok (.invokevirtual 74, 3) := by decide +kernel
theorem dX8_belowOf_33 : decode cX8_belowOf 33 = .ok (.istore 6, 2) := by decide +kernel
theorem dX8_belowOf_35 : decode cX8_belowOf 35 = .ok (.iload_n 3, 1) := by decide +kernel
theorem dX8_belowOf_36 : decode cX8_belowOf 36 = .ok (.iload 5, 2) := by decide +kernel
theorem dX8_belowOf_38 : decode cX8_belowOf 38 = .ok (.ishr, 1) := by decide +kernel
theorem dX8_belowOf_39 : decode cX8_belowOf 39 = .ok (.iconst 1, 1) := by decide +kernel
theorem dX8_belowOf_40 : decode cX8_belowOf 40 = .ok (.iand, 1) := by decide +kernel
theorem dX8_belowOf_41 : decode cX8_belowOf 41 = .ok (.ifCond .ne 24, 3) := by decide +kernel
theorem dX8_belowOf_44 : decode cX8_belowOf 44 = .ok (.iload 6, 2) := by decide +kernel
theorem dX8_belowOf_46 : decode cX8_belowOf 46 = .ok (.iload_n 1, 1) := by decide +kernel
theorem dX8_belowOf_47 : decode cX8_belowOf 47 = .ok (.ishr, 1) := by decide +kernel
theorem dX8_belowOf_48 : decode cX8_belowOf 48 = .ok (.iconst 1, 1) := by decide +kernel
theorem dX8_belowOf_49 : decode cX8_belowOf 49 = .ok (.iand, 1) := by decide +kernel
theorem dX8_belowOf_50 : decode cX8_belowOf 50 = .ok (.iconst 1, 1) := by decide +kernel
theorem dX8_belowOf_51 : decode cX8_belowOf 51 = .ok (.if_icmp .eq 10, 3) := by decide +kernel
theorem dX8_belowOf_54 : decode cX8_belowOf 54 = .ok (.iload 6, 2) := by decide +kernel
theorem dX8_belowOf_56 : decode cX8_belowOf 56 = .ok (.iload_n 3, 1) := by decide +kernel
theorem dX8_belowOf_57 : decode cX8_belowOf 57 = .ok (.iand, 1) := by decide +kernel
theorem dX8_belowOf_58 : decode cX8_belowOf 58 = .ok (.ifCond .eq 7, 3) := by decide +kernel
theorem dX8_belowOf_61 : decode cX8_belowOf 61 = .ok (.iconst 1, 1) := by decide +kernel
theorem dX8_belowOf_62 : decode cX8_belowOf 62 = .ok (.goto 4, 3) := by decide +kernel
theorem dX8_belowOf_65 : decode cX8_belowOf 65 = .ok (.iconst 0, 1) := by decide +kernel
theorem dX8_belowOf_66 : decode cX8_belowOf 66 = .ok (.istore 7, 2) := by decide +kernel
theorem dX8_belowOf_68 : decode cX8_belowOf 68 = .ok (.iload 7, 2) := by decide +kernel
theorem dX8_belowOf_70 : decode cX8_belowOf 70 = .ok (.ifCond .ne 6, 3) := by decide +kernel
theorem dX8_belowOf_73 : decode cX8_belowOf 73 = .ok (.goto 13, 3) := by decide +kernel
theorem dX8_belowOf_76 : decode cX8_belowOf 76 = .ok (.iload_n 3, 1) := by decide +kernel
theorem dX8_belowOf_77 : decode cX8_belowOf 77 = .ok (.iconst 1, 1) := by decide +kernel
theorem dX8_belowOf_78 : decode cX8_belowOf 78 = .ok (.iload 5, 2) := by decide +kernel
theorem dX8_belowOf_80 : decode cX8_belowOf 80 = .ok (.ishl, 1) := by decide +kernel
theorem dX8_belowOf_81 : decode cX8_belowOf 81 = .ok (.ior, 1) := by decide +kernel
theorem dX8_belowOf_82 : decode cX8_belowOf 82 = .ok (.istore_n 3, 1) := by decide +kernel
theorem dX8_belowOf_83 : decode cX8_belowOf 83 = .ok (.iconst 1, 1) := by decide +kernel
theorem dX8_belowOf_84 : decode cX8_belowOf 84 = .ok (.istore 4, 2) := by decide +kernel
theorem dX8_belowOf_86 : decode cX8_belowOf 86 = .ok (.iinc 5 1, 3) := by decide +kernel
theorem dX8_belowOf_89 : decode cX8_belowOf 89 = .ok (.goto (-73), 3) := by decide +kernel
theorem dX8_belowOf_92 : decode cX8_belowOf 92 = .ok (.goto (-87), 3) := by decide +kernel
theorem dX8_belowOf_95 : decode cX8_belowOf 95 = .ok (.iload_n 3, 1) := by decide +kernel
theorem dX8_belowOf_96 : decode cX8_belowOf 96 = .ok (.ireturn, 1) := by decide +kernel
theorem dX8_parentsWithout_0 : decode cX8_parentsWithout 0 = .ok (.iload_n 3, 1) := by decide +kernel
theorem dX8_parentsWithout_1 : decode cX8_parentsWithout 1 = .ok (.iload_n 1, 1) := by decide +kernel
theorem dX8_parentsWithout_2 : decode cX8_parentsWithout 2 = .ok (.ishr, 1) := by decide +kernel
theorem dX8_parentsWithout_3 : decode cX8_parentsWithout 3 = .ok (.iconst 1, 1) := by decide +kernel
theorem dX8_parentsWithout_4 : decode cX8_parentsWithout 4 = .ok (.iand, 1) := by decide +kernel
theorem dX8_parentsWithout_5 : decode cX8_parentsWithout 5 = .ok (.iconst 1, 1) := by decide +kernel
theorem dX8_parentsWithout_6 : decode cX8_parentsWithout 6 = .ok (.if_icmp .ne 18, 3) := by decide +kernel
theorem dX8_parentsWithout_9 : decode cX8_parentsWithout 9 = .ok (.aload_n 0, 1) := by decide +kernel
theorem dX8_parentsWithout_10 : decode cX8_parentsWithout 10 = .ok (.getfield 13, 3) := by decide +kernel
theorem dX8_parentsWithout_13 : decode cX8_parentsWithout 13 = .ok (.iload_n 1, 1) := by decide +kernel
theorem dX8_parentsWithout_14 : decode cX8_parentsWithout 14 = .ok (.iaload, 1) := by decide +kernel
theorem dX8_parentsWithout_15 : decode cX8_parentsWithout 15 = .ok (.iconst 1, 1) := by decide +kernel
theorem dX8_parentsWithout_16 : decode cX8_parentsWithout 16 = .ok (.iload_n 2, 1) := by decide +kernel
theorem dX8_parentsWithout_17 : decode cX8_parentsWithout 17 = .ok (.ishl, 1) := by decide +kernel
theorem dX8_parentsWithout_18 : decode cX8_parentsWithout 18 = .ok (.iconst (-1), 1) := by decide +kernel
theorem dX8_parentsWithout_19 : decode cX8_parentsWithout 19 = .ok (.ixor, 1) := by decide +kernel
theorem dX8_parentsWithout_20 : decode cX8_parentsWithout 20 = .ok (.iand, 1) := by decide +kernel
theorem dX8_parentsWithout_21 : decode cX8_parentsWithout 21 = .ok (.goto 9, 3) := by decide +kernel
theorem dX8_parentsWithout_24 : decode cX8_parentsWithout 24 = .ok (.aload_n 0, 1) := by decide +kernel
theorem dX8_parentsWithout_25 : decode cX8_parentsWithout 25 = .ok (.getfield 13, 3) := by decide +kernel
theorem dX8_parentsWithout_28 : decode cX8_parentsWithout 28 = .ok (.iload_n 1, 1) := by decide +kernel
theorem dX8_parentsWithout_29 : decode cX8_parentsWithout 29 = .ok (.iaload, 1) := by decide +kernel
theorem dX8_parentsWithout_30 : decode cX8_parentsWithout 30 = .ok (.ireturn, 1) := by decide +kernel
theorem dX8_bits_0 : decode cX8_bits 0 = .ok (.iconst 0, 1) := by decide +kernel
theorem dX8_bits_1 : decode cX8_bits 1 = .ok (.istore_n 1, 1) := by decide +kernel
theorem dX8_bits_2 : decode cX8_bits 2 = .ok (.iconst 0, 1) := by decide +kernel
theorem dX8_bits_3 : decode cX8_bits 3 = .ok (.istore_n 2, 1) := by decide +kernel
theorem dX8_bits_4 : decode cX8_bits 4 = .ok (.iload_n 2, 1) := by decide +kernel
theorem dX8_bits_5 : decode cX8_bits 5 = .ok (.bipush 8, 2) := by decide +kernel
theorem dX8_bits_7 : decode cX8_bits 7 = .ok (.if_icmp .ge 17, 3) := by decide +kernel
theorem dX8_bits_10 : decode cX8_bits 10 = .ok (.iload_n 1, 1) := by decide +kernel
theorem dX8_bits_11 : decode cX8_bits 11 = .ok (.iload_n 0, 1) := by decide +kernel
theorem dX8_bits_12 : decode cX8_bits 12 = .ok (.iload_n 2, 1) := by decide +kernel
theorem dX8_bits_13 : decode cX8_bits 13 = .ok (.ishr, 1) := by decide +kernel
theorem dX8_bits_14 : decode cX8_bits 14 = .ok (.iconst 1, 1) := by decide +kernel
theorem dX8_bits_15 : decode cX8_bits 15 = .ok (.iand, 1) := by decide +kernel
theorem dX8_bits_16 : decode cX8_bits 16 = .ok (.iadd, 1) := by decide +kernel
theorem dX8_bits_17 : decode cX8_bits 17 = .ok (.istore_n 1, 1) := by decide +kernel
theorem dX8_bits_18 : decode cX8_bits 18 = .ok (.iinc 2 1, 3) := by decide +kernel
theorem dX8_bits_21 : decode cX8_bits 21 = .ok (.goto (-17), 3) := by decide +kernel
theorem dX8_bits_24 : decode cX8_bits 24 = .ok (.iload_n 1, 1) := by decide +kernel
theorem dX8_bits_25 : decode cX8_bits 25 = .ok (.ireturn, 1) := by decide +kernel
theorem mz_i_wsX8_isRow_6 : (.code yX8_isThing cX8_isThing 2 (some .boolean) : Cond) ∈ wsX8_isRow := mz_mt (mz_ml (mz_mt (mz_mt (mz_mt (mz_mt (mz_mt mz_mh))))))
theorem mz_i_wsX8_isRow_7 : (.fieldLink RX8 58 "MadeItSoModel" "many" "I" : Cond) ∈ wsX8_isRow := mz_mt (mz_ml (mz_mt (mz_mt (mz_mt (mz_mt (mz_mt (mz_mt mz_mh)))))))
theorem mz_f_wsX8_isRow_wsX80 : ∀ w ∈ wsX80, w ∈ wsX8_isRow := fun _ h => mz_mt (mz_mr h)
set_option maxRecDepth 20000 in
theorem ggX8_isRow_X8_isThing : GoodIn wsX8_isRow wsX8_isThing := goodIn_sub (mz_fc mz_i_wsX8_isRow_6 (mz_fa (mz_fc mz_i_wsX8_isRow_7 mz_fn) (mz_f_wsX8_isRow_wsX80))) (by decide +kernel)
theorem mz_i_wsX8_isRow_5 : (.initialized RX8 : Cond) ∈ wsX8_isRow := mz_mt (mz_ml (mz_mt (mz_mt (mz_mt (mz_mt mz_mh)))))
theorem mz_i_wsX8_isRow_4 : (.selects RX8 yX8_isThing yX8_isThing : Cond) ∈ wsX8_isRow := mz_mt (mz_ml (mz_mt (mz_mt (mz_mt mz_mh))))
theorem mz_i_wsX8_isRow_3 : (.instanceMethod yX8_isThing : Cond) ∈ wsX8_isRow := mz_mt (mz_ml (mz_mt (mz_mt mz_mh)))
theorem mz_i_wsX8_isRow_2 : (.methodLink RX8 71 yX8_isThing : Cond) ∈ wsX8_isRow := mz_mt (mz_ml (mz_mt mz_mh))
set_option maxRecDepth 20000 in
theorem gX8_isRow_X8_isThing : GoodIn wsX8_isRow (wsV RX8 71 RX8 yX8_isThing wsX8_isThing) := goodIn_app (goodIn_sub (mz_fc mz_i_wsX8_isRow_2 (mz_fc mz_i_wsX8_isRow_3 (mz_fc mz_i_wsX8_isRow_4 (mz_fc mz_i_wsX8_isRow_5 mz_fn)))) (by decide +kernel)) ggX8_isRow_X8_isThing
theorem mz_i_wsX8_isRow_10 : (.code yX8_bits cX8_bits 3 (some .int) : Cond) ∈ wsX8_isRow := mz_mt (mz_ml (mz_mt (mz_mt (mz_mt (mz_mt (mz_mt (mz_mt (mz_mt (mz_mt (mz_mt mz_mh))))))))))
set_option maxRecDepth 20000 in
theorem ggX8_isRow_X8_bits : GoodIn wsX8_isRow wsX8_bits := goodIn_sub (mz_fc mz_i_wsX8_isRow_10 (mz_fn)) (by decide +kernel)
theorem mz_i_wsX8_isRow_9 : (.static yX8_bits : Cond) ∈ wsX8_isRow := mz_mt (mz_ml (mz_mt (mz_mt (mz_mt (mz_mt (mz_mt (mz_mt (mz_mt (mz_mt mz_mh)))))))))
theorem mz_i_wsX8_isRow_8 : (.methodLink RX8 86 yX8_bits : Cond) ∈ wsX8_isRow := mz_mt (mz_ml (mz_mt (mz_mt (mz_mt (mz_mt (mz_mt (mz_mt (mz_mt mz_mh))))))))
set_option maxRecDepth 20000 in
theorem gX8_isRow_X8_bits : GoodIn wsX8_isRow (va_wsS RX8 86 yX8_bits wsX8_bits) := goodIn_app (goodIn_sub (mz_fc mz_i_wsX8_isRow_8 (mz_fc mz_i_wsX8_isRow_9 (mz_fc mz_i_wsX8_isRow_5 mz_fn))) (by decide +kernel)) ggX8_isRow_X8_bits
theorem dX8_isRow_0 : decode cX8_isRow 0 = .ok (.aload_n 0, 1) := by decide +kernel
theorem dX8_isRow_1 : decode cX8_isRow 1 = .ok (.iload_n 1, 1) := by decide +kernel
theorem dX8_isRow_2 : decode cX8_isRow 2 = .ok (.invokevirtual 71, 3) := by decide +kernel
theorem dX8_isRow_5 : decode cX8_isRow 5 = .ok (.ifCond .eq 26, 3) := by decide +kernel
theorem dX8_isRow_8 : decode cX8_isRow 8 = .ok (.iload_n 2, 1) := by decide +kernel
theorem dX8_isRow_9 : decode cX8_isRow 9 = .ok (.ifCond .lt 22, 3) := by decide +kernel
theorem dX8_isRow_12 : decode cX8_isRow 12 = .ok (.iload_n 2, 1) := by decide +kernel
theorem dX8_isRow_13 : decode cX8_isRow 13 = .ok (.iconst 1, 1) := by decide +kernel
theorem dX8_isRow_14 : decode cX8_isRow 14 = .ok (.aload_n 0, 1) := by decide +kernel
theorem dX8_isRow_15 : decode cX8_isRow 15 = .ok (.getfield 13, 3) := by decide +kernel
theorem dX8_isRow_18 : decode cX8_isRow 18 = .ok (.iload_n 1, 1) := by decide +kernel
theorem dX8_isRow_19 : decode cX8_isRow 19 = .ok (.iaload, 1) := by decide +kernel
theorem dX8_isRow_20 : decode cX8_isRow 20 = .ok (.invokestatic 86, 3) := by decide +kernel
theorem dX8_isRow_23 : decode cX8_isRow 23 = .ok (.ishl, 1) := by decide +kernel
theorem dX8_isRow_24 : decode cX8_isRow 24 = .ok (.if_icmp .ge 7, 3) := by decide +kernel
theorem dX8_isRow_27 : decode cX8_isRow 27 = .ok (.iconst 1, 1) := by decide +kernel
theorem dX8_isRow_28 : decode cX8_isRow 28 = .ok (.goto 4, 3) := by decide +kernel
theorem dX8_isRow_31 : decode cX8_isRow 31 = .ok (.iconst 0, 1) := by decide +kernel
theorem dX8_isRow_32 : decode cX8_isRow 32 = .ok (.ireturn, 1) := by decide +kernel
theorem dX8_partsOf_0 : decode cX8_partsOf 0 = .ok (.iconst 0, 1) := by decide +kernel
theorem dX8_partsOf_1 : decode cX8_partsOf 1 = .ok (.istore_n 3, 1) := by decide +kernel
theorem dX8_partsOf_2 : decode cX8_partsOf 2 = .ok (.iconst 0, 1) := by decide +kernel
theorem dX8_partsOf_3 : decode cX8_partsOf 3 = .ok (.istore 4, 2) := by decide +kernel
theorem dX8_partsOf_5 : decode cX8_partsOf 5 = .ok (.iconst 0, 1) := by decide +kernel
theorem dX8_partsOf_6 : decode cX8_partsOf 6 = .ok (.istore 5, 2) := by decide +kernel
theorem dX8_partsOf_8 : decode cX8_partsOf 8 = .ok (.iload 5, 2) := by decide +kernel
theorem dX8_partsOf_10 : decode cX8_partsOf 10 = .ok (.aload_n 0, 1) := by decide +kernel
theorem dX8_partsOf_11 : decode cX8_partsOf 11 = .ok (.getfield 58, 3) := by decide +kernel
theorem dX8_partsOf_14 : decode cX8_partsOf 14 = .ok (.if_icmp .ge 41, 3) := by decide +kernel
theorem dX8_partsOf_17 : decode cX8_partsOf 17 = .ok (.aload_n 0, 1) := by decide +kernel
theorem dX8_partsOf_18 : decode cX8_partsOf 18 = .ok (.getfield 13, 3) := by decide +kernel
theorem dX8_partsOf_21 : decode cX8_partsOf 21 = .ok (.iload_n 1, 1) := by decide +kernel
theorem dX8_partsOf_22 : decode cX8_partsOf 22 = .ok (.iaload, 1) := by decide +kernel
theorem dX8_partsOf_23 : decode cX8_partsOf 23 = .ok (.iload 5, 2) := by decide +kernel
theorem dX8_partsOf_25 : decode cX8_partsOf 25 = .ok (.ishr, 1) := by decide +kernel
theorem dX8_partsOf_26 : decode cX8_partsOf 26 = .ok (.iconst 1, 1) := by decide +kernel
theorem dX8_partsOf_27 : decode cX8_partsOf 27 = .ok (.iand, 1) := by decide +kernel
theorem dX8_partsOf_28 : decode cX8_partsOf 28 = .ok (.ifCond .ne 6, 3) := by decide +kernel
theorem dX8_partsOf_31 : decode cX8_partsOf 31 = .ok (.goto 18, 3) := by decide +kernel
theorem dX8_partsOf_34 : decode cX8_partsOf 34 = .ok (.iload_n 3, 1) := by decide +kernel
theorem dX8_partsOf_35 : decode cX8_partsOf 35 = .ok (.iload_n 2, 1) := by decide +kernel
theorem dX8_partsOf_36 : decode cX8_partsOf 36 = .ok (.iload 5, 2) := by decide +kernel
theorem dX8_partsOf_38 : decode cX8_partsOf 38 = .ok (.ishr, 1) := by decide +kernel
theorem dX8_partsOf_39 : decode cX8_partsOf 39 = .ok (.iconst 1, 1) := by decide +kernel
theorem dX8_partsOf_40 : decode cX8_partsOf 40 = .ok (.iand, 1) := by decide +kernel
theorem dX8_partsOf_41 : decode cX8_partsOf 41 = .ok (.iload 4, 2) := by decide +kernel
theorem dX8_partsOf_43 : decode cX8_partsOf 43 = .ok (.ishl, 1) := by decide +kernel
theorem dX8_partsOf_44 : decode cX8_partsOf 44 = .ok (.ior, 1) := by decide +kernel
theorem dX8_partsOf_45 : decode cX8_partsOf 45 = .ok (.istore_n 3, 1) := by decide +kernel
theorem dX8_partsOf_46 : decode cX8_partsOf 46 = .ok (.iinc 4 1, 3) := by decide +kernel
theorem dX8_partsOf_49 : decode cX8_partsOf 49 = .ok (.iinc 5 1, 3) := by decide +kernel
theorem dX8_partsOf_52 : decode cX8_partsOf 52 = .ok (.goto (-44), 3) := by decide +kernel
theorem dX8_partsOf_55 : decode cX8_partsOf 55 = .ok (.aload_n 0, 1) := by decide +kernel
theorem dX8_partsOf_56 : decode cX8_partsOf 56 = .ok (.getfield 17, 3) := by decide +kernel
theorem dX8_partsOf_59 : decode cX8_partsOf 59 = .ok (.sipush 128, 3) := by decide +kernel
theorem dX8_partsOf_62 : decode cX8_partsOf 62 = .ok (.iload_n 1, 1) := by decide +kernel
theorem dX8_partsOf_63 : decode cX8_partsOf 63 = .ok (.imul, 1) := by decide +kernel
theorem dX8_partsOf_64 : decode cX8_partsOf 64 = .ok (.iload_n 3, 1) := by decide +kernel
theorem dX8_partsOf_65 : decode cX8_partsOf 65 = .ok (.iadd, 1) := by decide +kernel
theorem dX8_partsOf_66 : decode cX8_partsOf 66 = .ok (.iaload, 1) := by decide +kernel
theorem dX8_partsOf_67 : decode cX8_partsOf 67 = .ok (.ireturn, 1) := by decide +kernel
theorem mz_i_wsX8_weightOf_7 : (.code yX8_partsOf cX8_partsOf 6 (some .int) : Cond) ∈ wsX8_weightOf := mz_mt (mz_ml (mz_mt (mz_mt (mz_mt (mz_mt (mz_mt (mz_mt mz_mh)))))))
theorem mz_i_wsX8_weightOf_9 : (.fieldLink RX8 17 "MadeItSoModel" "books" "[I" : Cond) ∈ wsX8_weightOf := mz_mt (mz_ml (mz_mt (mz_mt (mz_mt (mz_mt (mz_mt (mz_mt (mz_mt (mz_mt mz_mh)))))))))
theorem mz_i_wsX8_weightOf_8 : (.fieldLink RX8 13 "MadeItSoModel" "parents" "[I" : Cond) ∈ wsX8_weightOf := mz_mt (mz_ml (mz_mt (mz_mt (mz_mt (mz_mt (mz_mt (mz_mt (mz_mt mz_mh))))))))
theorem mz_i_wsX8_weightOf_1 : (.fieldLink RX8 58 "MadeItSoModel" "many" "I" : Cond) ∈ wsX8_weightOf := mz_mt (mz_ml mz_mh)
theorem mz_f_wsX8_weightOf_wsX80 : ∀ w ∈ wsX80, w ∈ wsX8_weightOf := fun _ h => mz_mt (mz_mr h)
set_option maxRecDepth 20000 in
theorem ggX8_weightOf_X8_partsOf : GoodIn wsX8_weightOf wsX8_partsOf := goodIn_sub (mz_fc mz_i_wsX8_weightOf_7 (mz_fa (mz_fc mz_i_wsX8_weightOf_1 (mz_fc mz_i_wsX8_weightOf_8 (mz_fc mz_i_wsX8_weightOf_9 mz_fn))) (mz_f_wsX8_weightOf_wsX80))) (by decide +kernel)
theorem mz_i_wsX8_weightOf_6 : (.initialized RX8 : Cond) ∈ wsX8_weightOf := mz_mt (mz_ml (mz_mt (mz_mt (mz_mt (mz_mt (mz_mt mz_mh))))))
theorem mz_i_wsX8_weightOf_5 : (.selects RX8 yX8_partsOf yX8_partsOf : Cond) ∈ wsX8_weightOf := mz_mt (mz_ml (mz_mt (mz_mt (mz_mt (mz_mt mz_mh)))))
theorem mz_i_wsX8_weightOf_4 : (.instanceMethod yX8_partsOf : Cond) ∈ wsX8_weightOf := mz_mt (mz_ml (mz_mt (mz_mt (mz_mt mz_mh))))
theorem mz_i_wsX8_weightOf_3 : (.methodLink RX8 93 yX8_partsOf : Cond) ∈ wsX8_weightOf := mz_mt (mz_ml (mz_mt (mz_mt mz_mh)))
set_option maxRecDepth 20000 in
theorem gX8_weightOf_X8_partsOf : GoodIn wsX8_weightOf (wsV RX8 93 RX8 yX8_partsOf wsX8_partsOf) := goodIn_app (goodIn_sub (mz_fc mz_i_wsX8_weightOf_3 (mz_fc mz_i_wsX8_weightOf_4 (mz_fc mz_i_wsX8_weightOf_5 (mz_fc mz_i_wsX8_weightOf_6 mz_fn)))) (by decide +kernel)) ggX8_weightOf_X8_partsOf
theorem dX8_weightOf_0 : decode cX8_weightOf 0 = .ok (.iload_n 1, 1) := by decide +kernel
theorem dX8_weightOf_1 : decode cX8_weightOf 1 = .ok (.iload_n 2, 1) := by decide +kernel
theorem dX8_weightOf_2 : decode cX8_weightOf 2 = .ok (.bipush 8, 2) := by decide +kernel
theorem dX8_weightOf_4 : decode cX8_weightOf 4 = .ok (.ishr, 1) := by decide +kernel
theorem dX8_weightOf_5 : decode cX8_weightOf 5 = .ok (.ixor, 1) := by decide +kernel
theorem dX8_weightOf_6 : decode cX8_weightOf 6 = .ok (.iload_n 2, 1) := by decide +kernel
theorem dX8_weightOf_7 : decode cX8_weightOf 7 = .ok (.iand, 1) := by decide +kernel
theorem dX8_weightOf_8 : decode cX8_weightOf 8 = .ok (.sipush 255, 3) := by decide +kernel
theorem dX8_weightOf_11 : decode cX8_weightOf 11 = .ok (.iand, 1) := by decide +kernel
theorem dX8_weightOf_12 : decode cX8_weightOf 12 = .ok (.ifCond .eq 5, 3) := by decide +kernel
theorem dX8_weightOf_15 : decode cX8_weightOf 15 = .ok (.lconst 0, 1) := by decide +kernel
theorem dX8_weightOf_16 : decode cX8_weightOf 16 = .ok (.lreturn, 1) := by decide +kernel
theorem dX8_weightOf_17 : decode cX8_weightOf 17 = .ok (.lconst 1, 1) := by decide +kernel
theorem dX8_weightOf_18 : decode cX8_weightOf 18 = .ok (.lstore_n 3, 1) := by decide +kernel
theorem dX8_weightOf_19 : decode cX8_weightOf 19 = .ok (.iconst 0, 1) := by decide +kernel
theorem dX8_weightOf_20 : decode cX8_weightOf 20 = .ok (.istore 5, 2) := by decide +kernel
theorem dX8_weightOf_22 : decode cX8_weightOf 22 = .ok (.iload 5, 2) := by decide +kernel
theorem dX8_weightOf_24 : decode cX8_weightOf 24 = .ok (.aload_n 0, 1) := by decide +kernel
theorem dX8_weightOf_25 : decode cX8_weightOf 25 = .ok (.getfield 58, 3) := by decide +kernel
theorem dX8_weightOf_28 : decode cX8_weightOf 28 = .ok (.if_icmp .ge 59, 3) := by decide +kernel
theorem dX8_weightOf_31 : decode cX8_weightOf 31 = .ok (.aload_n 0, 1) := by decide +kernel
theorem dX8_weightOf_32 : decode cX8_weightOf 32 = .ok (.iload 5, 2) := by decide +kernel
theorem dX8_weightOf_34 : decode cX8_weightOf 34 = .ok (.iload_n 1, 1) := by decide +kernel
theorem dX8_weightOf_35 : decode cX8_weightOf 35 = .ok (.invokevirtual 93, 3) := by decide +kernel
theorem dX8_weightOf_38 : decode cX8_weightOf 38 = .ok (.istore 6, 2) := by decide +kernel
theorem dX8_weightOf_40 : decode cX8_weightOf 40 = .ok (.lload_n 3, 1) := by decide +kernel
theorem dX8_weightOf_41 : decode cX8_weightOf 41 = .ok (.iload_n 2, 1) := by decide +kernel
theorem dX8_weightOf_42 : decode cX8_weightOf 42 = .ok (.iload 5, 2) := by decide +kernel
theorem dX8_weightOf_44 : decode cX8_weightOf 44 = .ok (.ishr, 1) := by decide +kernel
theorem dX8_weightOf_45 : decode cX8_weightOf 45 = .ok (.iconst 1, 1) := by decide +kernel
theorem dX8_weightOf_46 : decode cX8_weightOf 46 = .ok (.iand, 1) := by decide +kernel
theorem dX8_weightOf_47 : decode cX8_weightOf 47 = .ok (.iconst 1, 1) := by decide +kernel
theorem dX8_weightOf_48 : decode cX8_weightOf 48 = .ok (.if_icmp .ne 9, 3) := by decide +kernel
theorem dX8_weightOf_51 : decode cX8_weightOf 51 = .ok (.ldc2_w 96, 3) := by decide +kernel
theorem dX8_weightOf_54 : decode cX8_weightOf 54 = .ok (.goto 25, 3) := by decide +kernel
theorem dX8_weightOf_57 : decode cX8_weightOf 57 = .ok (.iload_n 1, 1) := by decide +kernel
theorem dX8_weightOf_58 : decode cX8_weightOf 58 = .ok (.iload 5, 2) := by decide +kernel
theorem dX8_weightOf_60 : decode cX8_weightOf 60 = .ok (.ishr, 1) := by decide +kernel
theorem dX8_weightOf_61 : decode cX8_weightOf 61 = .ok (.iconst 1, 1) := by decide +kernel
theorem dX8_weightOf_62 : decode cX8_weightOf 62 = .ok (.iand, 1) := by decide +kernel
theorem dX8_weightOf_63 : decode cX8_weightOf 63 = .ok (.iconst 1, 1) := by decide +kernel
theorem dX8_weightOf_64 : decode cX8_weightOf 64 = .ok (.if_icmp .ne 9, 3) := by decide +kernel
theorem dX8_weightOf_67 : decode cX8_weightOf 67 = .ok (.iload 6, 2) := by decide +kernel
theorem dX8_weightOf_69 : decode cX8_weightOf 69 = .ok (.i2l, 1) := by decide +kernel
theorem dX8_weightOf_70 : decode cX8_weightOf 70 = .ok (.goto 9, 3) := by decide +kernel
theorem dX8_weightOf_73 : decode cX8_weightOf 73 = .ok (.bipush 100, 2) := by decide +kernel
theorem dX8_weightOf_75 : decode cX8_weightOf 75 = .ok (.iload 6, 2) := by decide +kernel
theorem dX8_weightOf_77 : decode cX8_weightOf 77 = .ok (.isub, 1) := by decide +kernel
theorem dX8_weightOf_78 : decode cX8_weightOf 78 = .ok (.i2l, 1) := by decide +kernel
theorem dX8_weightOf_79 : decode cX8_weightOf 79 = .ok (.lmul, 1) := by decide +kernel
theorem dX8_weightOf_80 : decode cX8_weightOf 80 = .ok (.lstore_n 3, 1) := by decide +kernel
theorem dX8_weightOf_81 : decode cX8_weightOf 81 = .ok (.iinc 5 1, 3) := by decide +kernel
theorem dX8_weightOf_84 : decode cX8_weightOf 84 = .ok (.goto (-62), 3) := by decide +kernel
theorem dX8_weightOf_87 : decode cX8_weightOf 87 = .ok (.lload_n 3, 1) := by decide +kernel
theorem dX8_weightOf_88 : decode cX8_weightOf 88 = .ok (.lreturn, 1) := by decide +kernel
theorem mz_i_wsX8_sum_6 : (.code yX8_weightOf cX8_weightOf 7 (some .long) : Cond) ∈ wsX8_sum := mz_mt (mz_ml (mz_mt (mz_mt (mz_mt (mz_mt (mz_mt mz_mh))))))
theorem mz_i_wsX8_sum_13 : (.fieldLink RX8 17 "MadeItSoModel" "books" "[I" : Cond) ∈ wsX8_sum := mz_mt (mz_ml (mz_mt (mz_mt (mz_mt (mz_mt (mz_mt (mz_mt (mz_mt (mz_mt (mz_mt (mz_mt (mz_mt (mz_mt mz_mh)))))))))))))
theorem mz_i_wsX8_sum_12 : (.fieldLink RX8 13 "MadeItSoModel" "parents" "[I" : Cond) ∈ wsX8_sum := mz_mt (mz_ml (mz_mt (mz_mt (mz_mt (mz_mt (mz_mt (mz_mt (mz_mt (mz_mt (mz_mt (mz_mt (mz_mt mz_mh))))))))))))
theorem mz_i_wsX8_sum_11 : (.code yX8_partsOf cX8_partsOf 6 (some .int) : Cond) ∈ wsX8_sum := mz_mt (mz_ml (mz_mt (mz_mt (mz_mt (mz_mt (mz_mt (mz_mt (mz_mt (mz_mt (mz_mt (mz_mt mz_mh)))))))))))
theorem mz_i_wsX8_sum_5 : (.initialized RX8 : Cond) ∈ wsX8_sum := mz_mt (mz_ml (mz_mt (mz_mt (mz_mt (mz_mt mz_mh)))))
theorem mz_i_wsX8_sum_10 : (.selects RX8 yX8_partsOf yX8_partsOf : Cond) ∈ wsX8_sum := mz_mt (mz_ml (mz_mt (mz_mt (mz_mt (mz_mt (mz_mt (mz_mt (mz_mt (mz_mt (mz_mt mz_mh))))))))))
theorem mz_i_wsX8_sum_9 : (.instanceMethod yX8_partsOf : Cond) ∈ wsX8_sum := mz_mt (mz_ml (mz_mt (mz_mt (mz_mt (mz_mt (mz_mt (mz_mt (mz_mt (mz_mt mz_mh)))))))))
theorem mz_i_wsX8_sum_8 : (.methodLink RX8 93 yX8_partsOf : Cond) ∈ wsX8_sum := mz_mt (mz_ml (mz_mt (mz_mt (mz_mt (mz_mt (mz_mt (mz_mt (mz_mt mz_mh))))))))
theorem mz_i_wsX8_sum_7 : (.constantLong RX8 96 (100) : Cond) ∈ wsX8_sum := mz_mt (mz_ml (mz_mt (mz_mt (mz_mt (mz_mt (mz_mt (mz_mt mz_mh)))))))
theorem mz_i_wsX8_sum_1 : (.fieldLink RX8 58 "MadeItSoModel" "many" "I" : Cond) ∈ wsX8_sum := mz_mt (mz_ml mz_mh)
theorem mz_f_wsX8_sum_wsX80 : ∀ w ∈ wsX80, w ∈ wsX8_sum := fun _ h => mz_mt (mz_mr h)
set_option maxRecDepth 20000 in
theorem ggX8_sum_X8_weightOf : GoodIn wsX8_sum wsX8_weightOf := goodIn_sub (mz_fc mz_i_wsX8_sum_6 (mz_fa (mz_fc mz_i_wsX8_sum_1 (mz_fc mz_i_wsX8_sum_7 (mz_fc mz_i_wsX8_sum_8 (mz_fc mz_i_wsX8_sum_9 (mz_fc mz_i_wsX8_sum_10 (mz_fc mz_i_wsX8_sum_5 (mz_fc mz_i_wsX8_sum_11 (mz_fc mz_i_wsX8_sum_12 (mz_fc mz_i_wsX8_sum_13 mz_fn))))))))) (mz_f_wsX8_sum_wsX80))) (by decide +kernel)
theorem mz_i_wsX8_sum_4 : (.selects RX8 yX8_weightOf yX8_weightOf : Cond) ∈ wsX8_sum := mz_mt (mz_ml (mz_mt (mz_mt (mz_mt mz_mh))))
theorem mz_i_wsX8_sum_3 : (.instanceMethod yX8_weightOf : Cond) ∈ wsX8_sum := mz_mt (mz_ml (mz_mt (mz_mt mz_mh)))
theorem mz_i_wsX8_sum_2 : (.methodLink RX8 98 yX8_weightOf : Cond) ∈ wsX8_sum := mz_mt (mz_ml (mz_mt mz_mh))
set_option maxRecDepth 20000 in
theorem gX8_sum_X8_weightOf : GoodIn wsX8_sum (wsV RX8 98 RX8 yX8_weightOf wsX8_weightOf) := goodIn_app (goodIn_sub (mz_fc mz_i_wsX8_sum_2 (mz_fc mz_i_wsX8_sum_3 (mz_fc mz_i_wsX8_sum_4 (mz_fc mz_i_wsX8_sum_5 mz_fn)))) (by decide +kernel)) ggX8_sum_X8_weightOf
theorem dX8_sum_0 : decode cX8_sum 0 = .ok (.lconst 0, 1) := by decide +kernel
theorem dX8_sum_1 : decode cX8_sum 1 = .ok (.lstore_n 3, 1) := by decide +kernel
theorem dX8_sum_2 : decode cX8_sum 2 = .ok (.iconst 0, 1) := by decide +kernel
theorem dX8_sum_3 : decode cX8_sum 3 = .ok (.istore 5, 2) := by decide +kernel
theorem dX8_sum_5 : decode cX8_sum 5 = .ok (.iload 5, 2) := by decide +kernel
theorem dX8_sum_7 : decode cX8_sum 7 = .ok (.iconst 1, 1) := by decide +kernel
theorem dX8_sum_8 : decode cX8_sum 8 = .ok (.aload_n 0, 1) := by decide +kernel
theorem dX8_sum_9 : decode cX8_sum 9 = .ok (.getfield 58, 3) := by decide +kernel
theorem dX8_sum_12 : decode cX8_sum 12 = .ok (.ishl, 1) := by decide +kernel
theorem dX8_sum_13 : decode cX8_sum 13 = .ok (.if_icmp .ge 35, 3) := by decide +kernel
theorem dX8_sum_16 : decode cX8_sum 16 = .ok (.iload 5, 2) := by decide +kernel
theorem dX8_sum_18 : decode cX8_sum 18 = .ok (.iload_n 1, 1) := by decide +kernel
theorem dX8_sum_19 : decode cX8_sum 19 = .ok (.bipush 8, 2) := by decide +kernel
theorem dX8_sum_21 : decode cX8_sum 21 = .ok (.ishr, 1) := by decide +kernel
theorem dX8_sum_22 : decode cX8_sum 22 = .ok (.ixor, 1) := by decide +kernel
theorem dX8_sum_23 : decode cX8_sum 23 = .ok (.iload_n 1, 1) := by decide +kernel
theorem dX8_sum_24 : decode cX8_sum 24 = .ok (.iand, 1) := by decide +kernel
theorem dX8_sum_25 : decode cX8_sum 25 = .ok (.sipush 255, 3) := by decide +kernel
theorem dX8_sum_28 : decode cX8_sum 28 = .ok (.iand, 1) := by decide +kernel
theorem dX8_sum_29 : decode cX8_sum 29 = .ok (.ifCond .ne 13, 3) := by decide +kernel
theorem dX8_sum_32 : decode cX8_sum 32 = .ok (.lload_n 3, 1) := by decide +kernel
theorem dX8_sum_33 : decode cX8_sum 33 = .ok (.aload_n 0, 1) := by decide +kernel
theorem dX8_sum_34 : decode cX8_sum 34 = .ok (.iload 5, 2) := by decide +kernel
theorem dX8_sum_36 : decode cX8_sum 36 = .ok (.iload_n 2, 1) := by decide +kernel
theorem dX8_sum_37 : decode cX8_sum 37 = .ok (.invokevirtual 98, 3) := by decide +kernel
theorem dX8_sum_40 : decode cX8_sum 40 = .ok (.ladd, 1) := by decide +kernel
theorem dX8_sum_41 : decode cX8_sum 41 = .ok (.lstore_n 3, 1) := by decide +kernel
theorem dX8_sum_42 : decode cX8_sum 42 = .ok (.iinc 5 1, 3) := by decide +kernel
theorem dX8_sum_45 : decode cX8_sum 45 = .ok (.goto (-40), 3) := by decide +kernel
theorem dX8_sum_48 : decode cX8_sum 48 = .ok (.lload_n 3, 1) := by decide +kernel
theorem dX8_sum_49 : decode cX8_sum 49 = .ok (.lreturn, 1) := by decide +kernel
theorem dX8_shared_0 : decode cX8_shared 0 = .ok (.lload_n 0, 1) := by decide +kernel
theorem dX8_shared_1 : decode cX8_shared 1 = .ok (.lstore 4, 2) := by decide +kernel
theorem dX8_shared_3 : decode cX8_shared 3 = .ok (.lload_n 2, 1) := by decide +kernel
theorem dX8_shared_4 : decode cX8_shared 4 = .ok (.lstore 6, 2) := by decide +kernel
theorem dX8_shared_6 : decode cX8_shared 6 = .ok (.lload 6, 2) := by decide +kernel
theorem dX8_shared_8 : decode cX8_shared 8 = .ok (.lconst 0, 1) := by decide +kernel
theorem dX8_shared_9 : decode cX8_shared 9 = .ok (.lcmp, 1) := by decide +kernel
theorem dX8_shared_10 : decode cX8_shared 10 = .ok (.ifCond .eq 21, 3) := by decide +kernel
theorem dX8_shared_13 : decode cX8_shared 13 = .ok (.lload 4, 2) := by decide +kernel
theorem dX8_shared_15 : decode cX8_shared 15 = .ok (.lload 6, 2) := by decide +kernel
theorem dX8_shared_17 : decode cX8_shared 17 = .ok (.lrem, 1) := by decide +kernel
theorem dX8_shared_18 : decode cX8_shared 18 = .ok (.lstore 8, 2) := by decide +kernel
theorem dX8_shared_20 : decode cX8_shared 20 = .ok (.lload 6, 2) := by decide +kernel
theorem dX8_shared_22 : decode cX8_shared 22 = .ok (.lstore 4, 2) := by decide +kernel
theorem dX8_shared_24 : decode cX8_shared 24 = .ok (.lload 8, 2) := by decide +kernel
theorem dX8_shared_26 : decode cX8_shared 26 = .ok (.lstore 6, 2) := by decide +kernel
theorem dX8_shared_28 : decode cX8_shared 28 = .ok (.goto (-22), 3) := by decide +kernel
theorem dX8_shared_31 : decode cX8_shared 31 = .ok (.lload 4, 2) := by decide +kernel
theorem dX8_shared_33 : decode cX8_shared 33 = .ok (.lreturn, 1) := by decide +kernel
theorem mz_i_wsX8_isArrow_5 : (.code yX8_parentsWithout cX8_parentsWithout 4 (some .int) : Cond) ∈ wsX8_isArrow := mz_mt (mz_ml (mz_mt (mz_mt (mz_mt (mz_mt mz_mh)))))
theorem mz_i_wsX8_isArrow_6 : (.fieldLink RX8 13 "MadeItSoModel" "parents" "[I" : Cond) ∈ wsX8_isArrow := mz_mt (mz_ml (mz_mt (mz_mt (mz_mt (mz_mt (mz_mt mz_mh))))))
theorem mz_f_wsX8_isArrow_wsX80 : ∀ w ∈ wsX80, w ∈ wsX8_isArrow := fun _ h => mz_mt (mz_mr h)
set_option maxRecDepth 20000 in
theorem ggX8_isArrow_X8_parentsWithout : GoodIn wsX8_isArrow wsX8_parentsWithout := goodIn_sub (mz_fc mz_i_wsX8_isArrow_5 (mz_fa (mz_fc mz_i_wsX8_isArrow_6 mz_fn) (mz_f_wsX8_isArrow_wsX80))) (by decide +kernel)
theorem mz_i_wsX8_isArrow_4 : (.initialized RX8 : Cond) ∈ wsX8_isArrow := mz_mt (mz_ml (mz_mt (mz_mt (mz_mt mz_mh))))
theorem mz_i_wsX8_isArrow_3 : (.selects RX8 yX8_parentsWithout yX8_parentsWithout : Cond) ∈ wsX8_isArrow := mz_mt (mz_ml (mz_mt (mz_mt mz_mh)))
theorem mz_i_wsX8_isArrow_2 : (.instanceMethod yX8_parentsWithout : Cond) ∈ wsX8_isArrow := mz_mt (mz_ml (mz_mt mz_mh))
theorem mz_i_wsX8_isArrow_1 : (.methodLink RX8 74 yX8_parentsWithout : Cond) ∈ wsX8_isArrow := mz_mt (mz_ml mz_mh)
set_option maxRecDepth 20000 in
theorem gX8_isArrow_X8_parentsWithout : GoodIn wsX8_isArrow (wsV RX8 74 RX8 yX8_parentsWithout wsX8_parentsWithout) := goodIn_app (goodIn_sub (mz_fc mz_i_wsX8_isArrow_1 (mz_fc mz_i_wsX8_isArrow_2 (mz_fc mz_i_wsX8_isArrow_3 (mz_fc mz_i_wsX8_isArrow_4 mz_fn)))) (by decide +kernel)) ggX8_isArrow_X8_parentsWithout
theorem dX8_isArrow_0 : decode cX8_isArrow 0 = .ok (.aload_n 0, 1) := by decide +kernel
theorem dX8_isArrow_1 : decode cX8_isArrow 1 = .ok (.iload_n 2, 1) := by decide +kernel
theorem dX8_isArrow_2 : decode cX8_isArrow 2 = .ok (.iload_n 3, 1) := by decide +kernel
theorem dX8_isArrow_3 : decode cX8_isArrow 3 = .ok (.iload 4, 2) := by decide +kernel
theorem dX8_isArrow_5 : decode cX8_isArrow 5 = .ok (.invokevirtual 74, 3) := by decide +kernel
theorem dX8_isArrow_8 : decode cX8_isArrow 8 = .ok (.iload_n 1, 1) := by decide +kernel
theorem dX8_isArrow_9 : decode cX8_isArrow 9 = .ok (.ishr, 1) := by decide +kernel
theorem dX8_isArrow_10 : decode cX8_isArrow 10 = .ok (.iconst 1, 1) := by decide +kernel
theorem dX8_isArrow_11 : decode cX8_isArrow 11 = .ok (.iand, 1) := by decide +kernel
theorem dX8_isArrow_12 : decode cX8_isArrow 12 = .ok (.iconst 1, 1) := by decide +kernel
theorem dX8_isArrow_13 : decode cX8_isArrow 13 = .ok (.if_icmp .ne 7, 3) := by decide +kernel
theorem dX8_isArrow_16 : decode cX8_isArrow 16 = .ok (.iconst 1, 1) := by decide +kernel
theorem dX8_isArrow_17 : decode cX8_isArrow 17 = .ok (.goto 4, 3) := by decide +kernel
theorem dX8_isArrow_20 : decode cX8_isArrow 20 = .ok (.iconst 0, 1) := by decide +kernel
theorem dX8_isArrow_21 : decode cX8_isArrow 21 = .ok (.ireturn, 1) := by decide +kernel
theorem mz_i_wsX8_belowWithout_6 : (.code yX8_parentsWithout cX8_parentsWithout 4 (some .int) : Cond) ∈ wsX8_belowWithout := mz_mt (mz_ml (mz_mt (mz_mt (mz_mt (mz_mt (mz_mt mz_mh))))))
theorem mz_i_wsX8_belowWithout_7 : (.fieldLink RX8 13 "MadeItSoModel" "parents" "[I" : Cond) ∈ wsX8_belowWithout := mz_mt (mz_ml (mz_mt (mz_mt (mz_mt (mz_mt (mz_mt (mz_mt mz_mh)))))))
theorem mz_f_wsX8_belowWithout_wsX80 : ∀ w ∈ wsX80, w ∈ wsX8_belowWithout := fun _ h => mz_mt (mz_mr h)
set_option maxRecDepth 20000 in
theorem ggX8_belowWithout_X8_parentsWithout : GoodIn wsX8_belowWithout wsX8_parentsWithout := goodIn_sub (mz_fc mz_i_wsX8_belowWithout_6 (mz_fa (mz_fc mz_i_wsX8_belowWithout_7 mz_fn) (mz_f_wsX8_belowWithout_wsX80))) (by decide +kernel)
theorem mz_i_wsX8_belowWithout_5 : (.initialized RX8 : Cond) ∈ wsX8_belowWithout := mz_mt (mz_ml (mz_mt (mz_mt (mz_mt (mz_mt mz_mh)))))
theorem mz_i_wsX8_belowWithout_4 : (.selects RX8 yX8_parentsWithout yX8_parentsWithout : Cond) ∈ wsX8_belowWithout := mz_mt (mz_ml (mz_mt (mz_mt (mz_mt mz_mh))))
theorem mz_i_wsX8_belowWithout_3 : (.instanceMethod yX8_parentsWithout : Cond) ∈ wsX8_belowWithout := mz_mt (mz_ml (mz_mt (mz_mt mz_mh)))
theorem mz_i_wsX8_belowWithout_2 : (.methodLink RX8 74 yX8_parentsWithout : Cond) ∈ wsX8_belowWithout := mz_mt (mz_ml (mz_mt mz_mh))
set_option maxRecDepth 20000 in
theorem gX8_belowWithout_X8_parentsWithout : GoodIn wsX8_belowWithout (wsV RX8 74 RX8 yX8_parentsWithout wsX8_parentsWithout) := goodIn_app (goodIn_sub (mz_fc mz_i_wsX8_belowWithout_2 (mz_fc mz_i_wsX8_belowWithout_3 (mz_fc mz_i_wsX8_belowWithout_4 (mz_fc mz_i_wsX8_belowWithout_5 mz_fn)))) (by decide +kernel)) ggX8_belowWithout_X8_parentsWithout
theorem dX8_belowWithout_0 : decode cX8_belowWithout 0 = .ok (.iconst 0, 1) := by decide +kernel
theorem dX8_belowWithout_1 : decode cX8_belowWithout 1 = .ok (.istore 4, 2) := by decide +kernel
theorem dX8_belowWithout_3 : decode cX8_belowWithout 3 = .ok (.iconst 1, 1) := by decide +kernel
theorem dX8_belowWithout_4 : decode cX8_belowWithout 4 = .ok (.istore 5, 2) := by decide +kernel
theorem dX8_belowWithout_6 : decode cX8_belowWithout 6 = .ok (.iload 5, 2) := by decide +kernel
theorem dX8_belowWithout_8 : decode cX8_belowWithout 8 = .ok (.ifCond .eq 80, 3) := by decide +kernel
theorem dX8_belowWithout_11 : decode cX8_belowWithout 11 = .ok (.iconst 0, 1) := by decide +kernel
theorem dX8_belowWithout_12 : decode cX8_belowWithout 12 = .ok (.istore 5, 2) := by decide +kernel
theorem dX8_belowWithout_14 : decode cX8_belowWithout 14 = .ok (.iconst 0, 1) := by decide +kernel
theorem dX8_belowWithout_15 : decode cX8_belowWithout 15 = .ok (.istore 6, 2) := by decide +kernel
theorem dX8_belowWithout_17 : decode cX8_belowWithout 17 = .ok (.iload 6, 2) := by decide +kernel
theorem dX8_belowWithout_19 : decode cX8_belowWithout 19 = .ok (.aload_n 0, 1) := by decide +kernel
theorem dX8_belowWithout_20 : decode cX8_belowWithout 20 = .ok (.getfield 58, 3) := by decide +kernel
theorem dX8_belowWithout_23 : decode cX8_belowWithout 23 = .ok (.if_icmp .ge 62, 3) := by decide +kernel
theorem dX8_belowWithout_26 : decode cX8_belowWithout 26 = .ok (.aload_n 0, 1) := by decide +kernel
theorem dX8_belowWithout_27 : decode cX8_belowWithout 27 = .ok (.iload 6, 2) := by decide +kernel
theorem dX8_belowWithout_29 : decode cX8_belowWithout 29 = .ok (.iload_n 2, 1) := by decide +kernel
theorem dX8_belowWithout_30 : decode cX8_belowWithout 30 = .ok (.iload_n 3, 1) := by decide +kernel
theorem dX8_belowWithout_31 : decode cX8_belowWithout 31 = .ok (.invokevirtual 74, 3) := by decide +kernel
theorem dX8_belowWithout_34 : decode cX8_belowWithout 34 = .ok (.istore 7, 2) := by decide +kernel
theorem dX8_belowWithout_36 : decode cX8_belowWithout 36 = .ok (.iload 4, 2) := by decide +kernel
theorem dX8_belowWithout_38 : decode cX8_belowWithout 38 = .ok (.iload 6, 2) := by decide +kernel
theorem dX8_belowWithout_40 : decode cX8_belowWithout 40 = .ok (.ishr, 1) := by decide +kernel
theorem dX8_belowWithout_41 : decode cX8_belowWithout 41 = .ok (.iconst 1, 1) := by decide +kernel
theorem dX8_belowWithout_42 : decode cX8_belowWithout 42 = .ok (.iand, 1) := by decide +kernel
theorem dX8_belowWithout_43 : decode cX8_belowWithout 43 = .ok (.iconst 1, 1) := by decide +kernel
theorem dX8_belowWithout_44 : decode cX8_belowWithout 44 = .ok (.if_icmp .eq 35, 3) := by decide +kernel
theorem dX8_belowWithout_47 : decode cX8_belowWithout 47 = .ok (.iload 7, 2) := by decide +kernel
theorem dX8_belowWithout_49 : decode cX8_belowWithout 49 = .ok (.iload_n 1, 1) := by decide +kernel
theorem dX8_belowWithout_50 : decode cX8_belowWithout 50 = .ok (.ishr, 1) := by decide +kernel
theorem dX8_belowWithout_51 : decode cX8_belowWithout 51 = .ok (.iconst 1, 1) := by decide +kernel
theorem dX8_belowWithout_52 : decode cX8_belowWithout 52 = .ok (.iand, 1) := by decide +kernel
theorem dX8_belowWithout_53 : decode cX8_belowWithout 53 = .ok (.ifCond .ne 14, 3) := by decide +kernel
theorem dX8_belowWithout_56 : decode cX8_belowWithout 56 = .ok (.iload 7, 2) := by decide +kernel
theorem dX8_belowWithout_58 : decode cX8_belowWithout 58 = .ok (.iload 4, 2) := by decide +kernel
theorem dX8_belowWithout_60 : decode cX8_belowWithout 60 = .ok (.iand, 1) := by decide +kernel
theorem dX8_belowWithout_61 : decode cX8_belowWithout 61 = .ok (.ifCond .ne 6, 3) := by decide +kernel
theorem dX8_belowWithout_64 : decode cX8_belowWithout 64 = .ok (.goto 15, 3) := by decide +kernel
theorem dX8_belowWithout_67 : decode cX8_belowWithout 67 = .ok (.iload 4, 2) := by decide +kernel
theorem dX8_belowWithout_69 : decode cX8_belowWithout 69 = .ok (.iconst 1, 1) := by decide +kernel
theorem dX8_belowWithout_70 : decode cX8_belowWithout 70 = .ok (.iload 6, 2) := by decide +kernel
theorem dX8_belowWithout_72 : decode cX8_belowWithout 72 = .ok (.ishl, 1) := by decide +kernel
theorem dX8_belowWithout_73 : decode cX8_belowWithout 73 = .ok (.ior, 1) := by decide +kernel
theorem dX8_belowWithout_74 : decode cX8_belowWithout 74 = .ok (.istore 4, 2) := by decide +kernel
theorem dX8_belowWithout_76 : decode cX8_belowWithout 76 = .ok (.iconst 1, 1) := by decide +kernel
theorem dX8_belowWithout_77 : decode cX8_belowWithout 77 = .ok (.istore 5, 2) := by decide +kernel
theorem dX8_belowWithout_79 : decode cX8_belowWithout 79 = .ok (.iinc 6 1, 3) := by decide +kernel
theorem dX8_belowWithout_82 : decode cX8_belowWithout 82 = .ok (.goto (-65), 3) := by decide +kernel
theorem dX8_belowWithout_85 : decode cX8_belowWithout 85 = .ok (.goto (-79), 3) := by decide +kernel
theorem dX8_belowWithout_88 : decode cX8_belowWithout 88 = .ok (.iload 4, 2) := by decide +kernel
theorem dX8_belowWithout_90 : decode cX8_belowWithout 90 = .ok (.ireturn, 1) := by decide +kernel
theorem dX8_seen_0 : decode cX8_seen 0 = .ok (.iconst 0, 1) := by decide +kernel
theorem dX8_seen_1 : decode cX8_seen 1 = .ok (.istore_n 1, 1) := by decide +kernel
theorem dX8_seen_2 : decode cX8_seen 2 = .ok (.iconst 0, 1) := by decide +kernel
theorem dX8_seen_3 : decode cX8_seen 3 = .ok (.istore_n 2, 1) := by decide +kernel
theorem dX8_seen_4 : decode cX8_seen 4 = .ok (.iload_n 2, 1) := by decide +kernel
theorem dX8_seen_5 : decode cX8_seen 5 = .ok (.aload_n 0, 1) := by decide +kernel
theorem dX8_seen_6 : decode cX8_seen 6 = .ok (.getfield 58, 3) := by decide +kernel
theorem dX8_seen_9 : decode cX8_seen 9 = .ok (.if_icmp .ge 28, 3) := by decide +kernel
theorem dX8_seen_12 : decode cX8_seen 12 = .ok (.iload_n 1, 1) := by decide +kernel
theorem dX8_seen_13 : decode cX8_seen 13 = .ok (.aload_n 0, 1) := by decide +kernel
theorem dX8_seen_14 : decode cX8_seen 14 = .ok (.getfield 9, 3) := by decide +kernel
theorem dX8_seen_17 : decode cX8_seen 17 = .ok (.iload_n 2, 1) := by decide +kernel
theorem dX8_seen_18 : decode cX8_seen 18 = .ok (.baload, 1) := by decide +kernel
theorem dX8_seen_19 : decode cX8_seen 19 = .ok (.ifCond .eq 9, 3) := by decide +kernel
theorem dX8_seen_22 : decode cX8_seen 22 = .ok (.iconst 1, 1) := by decide +kernel
theorem dX8_seen_23 : decode cX8_seen 23 = .ok (.iload_n 2, 1) := by decide +kernel
theorem dX8_seen_24 : decode cX8_seen 24 = .ok (.ishl, 1) := by decide +kernel
theorem dX8_seen_25 : decode cX8_seen 25 = .ok (.goto 4, 3) := by decide +kernel
theorem dX8_seen_28 : decode cX8_seen 28 = .ok (.iconst 0, 1) := by decide +kernel
theorem dX8_seen_29 : decode cX8_seen 29 = .ok (.ior, 1) := by decide +kernel
theorem dX8_seen_30 : decode cX8_seen 30 = .ok (.istore_n 1, 1) := by decide +kernel
theorem dX8_seen_31 : decode cX8_seen 31 = .ok (.iinc 2 1, 3) := by decide +kernel
theorem dX8_seen_34 : decode cX8_seen 34 = .ok (.goto (-30), 3) := by decide +kernel
theorem dX8_seen_37 : decode cX8_seen 37 = .ok (.iload_n 1, 1) := by decide +kernel
theorem dX8_seen_38 : decode cX8_seen 38 = .ok (.ireturn, 1) := by decide +kernel
theorem dX8_isLeast_0 : decode cX8_isLeast 0 = .ok (.aload_n 0, 1) := by decide +kernel
theorem dX8_isLeast_1 : decode cX8_isLeast 1 = .ok (.getfield 30, 3) := by decide +kernel
theorem dX8_isLeast_4 : decode cX8_isLeast 4 = .ok (.iload_n 1, 1) := by decide +kernel
theorem dX8_isLeast_5 : decode cX8_isLeast 5 = .ok (.baload, 1) := by decide +kernel
theorem dX8_isLeast_6 : decode cX8_isLeast 6 = .ok (.ifCond .ne 5, 3) := by decide +kernel
theorem dX8_isLeast_9 : decode cX8_isLeast 9 = .ok (.iconst 0, 1) := by decide +kernel
theorem dX8_isLeast_10 : decode cX8_isLeast 10 = .ok (.ireturn, 1) := by decide +kernel
theorem dX8_isLeast_11 : decode cX8_isLeast 11 = .ok (.iconst 0, 1) := by decide +kernel
theorem dX8_isLeast_12 : decode cX8_isLeast 12 = .ok (.istore_n 2, 1) := by decide +kernel
theorem dX8_isLeast_13 : decode cX8_isLeast 13 = .ok (.iload_n 2, 1) := by decide +kernel
theorem dX8_isLeast_14 : decode cX8_isLeast 14 = .ok (.iload_n 1, 1) := by decide +kernel
theorem dX8_isLeast_15 : decode cX8_isLeast 15 = .ok (.if_icmp .ge 27, 3) := by decide +kernel
theorem dX8_isLeast_18 : decode cX8_isLeast 18 = .ok (.iload_n 2, 1) := by decide +kernel
theorem dX8_isLeast_19 : decode cX8_isLeast 19 = .ok (.iload_n 1, 1) := by decide +kernel
theorem dX8_isLeast_20 : decode cX8_isLeast 20 = .ok (.iand, 1) := by decide +kernel
theorem dX8_isLeast_21 : decode cX8_isLeast 21 = .ok (.iload_n 2, 1) := by decide +kernel
theorem dX8_isLeast_22 : decode cX8_isLeast 22 = .ok (.if_icmp .ne 14, 3) := by decide +kernel
theorem dX8_isLeast_25 : decode cX8_isLeast 25 = .ok (.aload_n 0, 1) := by decide +kernel
theorem dX8_isLeast_26 : decode cX8_isLeast 26 = .ok (.getfield 30, 3) := by decide +kernel
theorem dX8_isLeast_29 : decode cX8_isLeast 29 = .ok (.iload_n 2, 1) := by decide +kernel
theorem dX8_isLeast_30 : decode cX8_isLeast 30 = .ok (.baload, 1) := by decide +kernel
theorem dX8_isLeast_31 : decode cX8_isLeast 31 = .ok (.ifCond .eq 5, 3) := by decide +kernel
theorem dX8_isLeast_34 : decode cX8_isLeast 34 = .ok (.iconst 0, 1) := by decide +kernel
theorem dX8_isLeast_35 : decode cX8_isLeast 35 = .ok (.ireturn, 1) := by decide +kernel
theorem dX8_isLeast_36 : decode cX8_isLeast 36 = .ok (.iinc 2 1, 3) := by decide +kernel
theorem dX8_isLeast_39 : decode cX8_isLeast 39 = .ok (.goto (-26), 3) := by decide +kernel
theorem dX8_isLeast_42 : decode cX8_isLeast 42 = .ok (.iconst 1, 1) := by decide +kernel
theorem dX8_isLeast_43 : decode cX8_isLeast 43 = .ok (.ireturn, 1) := by decide +kernel
theorem dX8_times_0 : decode cX8_times 0 = .ok (.iconst 0, 1) := by decide +kernel
theorem dX8_times_1 : decode cX8_times 1 = .ok (.istore 4, 2) := by decide +kernel
theorem dX8_times_3 : decode cX8_times 3 = .ok (.iload 4, 2) := by decide +kernel
theorem dX8_times_5 : decode cX8_times 5 = .ok (.sipush 200, 3) := by decide +kernel
theorem dX8_times_8 : decode cX8_times 8 = .ok (.if_icmp .ge 17, 3) := by decide +kernel
theorem dX8_times_11 : decode cX8_times 11 = .ok (.aload_n 0, 1) := by decide +kernel
theorem dX8_times_12 : decode cX8_times 12 = .ok (.getfield 40, 3) := by decide +kernel
theorem dX8_times_15 : decode cX8_times 15 = .ok (.iload 4, 2) := by decide +kernel
theorem dX8_times_17 : decode cX8_times 17 = .ok (.lconst 0, 1) := by decide +kernel
theorem dX8_times_18 : decode cX8_times 18 = .ok (.lastore, 1) := by decide +kernel
theorem dX8_times_19 : decode cX8_times 19 = .ok (.iinc 4 1, 3) := by decide +kernel
theorem dX8_times_22 : decode cX8_times 22 = .ok (.goto (-19), 3) := by decide +kernel
theorem dX8_times_25 : decode cX8_times 25 = .ok (.iconst 0, 1) := by decide +kernel
theorem dX8_times_26 : decode cX8_times 26 = .ok (.istore 4, 2) := by decide +kernel
theorem dX8_times_28 : decode cX8_times 28 = .ok (.iload 4, 2) := by decide +kernel
theorem dX8_times_30 : decode cX8_times 30 = .ok (.iconst 3, 1) := by decide +kernel
theorem dX8_times_31 : decode cX8_times 31 = .ok (.if_icmp .ge 91, 3) := by decide +kernel
theorem dX8_times_34 : decode cX8_times 34 = .ok (.lload_n 2, 1) := by decide +kernel
theorem dX8_times_35 : decode cX8_times 35 = .ok (.bipush 24, 2) := by decide +kernel
theorem dX8_times_37 : decode cX8_times 37 = .ok (.iload 4, 2) := by decide +kernel
theorem dX8_times_39 : decode cX8_times 39 = .ok (.imul, 1) := by decide +kernel
theorem dX8_times_40 : decode cX8_times 40 = .ok (.lshr, 1) := by decide +kernel
theorem dX8_times_41 : decode cX8_times 41 = .ok (.ldc2_w 144, 3) := by decide +kernel
theorem dX8_times_44 : decode cX8_times 44 = .ok (.land, 1) := by decide +kernel
theorem dX8_times_45 : decode cX8_times 45 = .ok (.lstore 5, 2) := by decide +kernel
theorem dX8_times_47 : decode cX8_times 47 = .ok (.lconst 0, 1) := by decide +kernel
theorem dX8_times_48 : decode cX8_times 48 = .ok (.lstore 7, 2) := by decide +kernel
theorem dX8_times_50 : decode cX8_times 50 = .ok (.iconst 0, 1) := by decide +kernel
theorem dX8_times_51 : decode cX8_times 51 = .ok (.istore 9, 2) := by decide +kernel
theorem dX8_times_53 : decode cX8_times 53 = .ok (.iload 9, 2) := by decide +kernel
theorem dX8_times_55 : decode cX8_times 55 = .ok (.iload 4, 2) := by decide +kernel
theorem dX8_times_57 : decode cX8_times 57 = .ok (.iadd, 1) := by decide +kernel
theorem dX8_times_58 : decode cX8_times 58 = .ok (.sipush 200, 3) := by decide +kernel
theorem dX8_times_61 : decode cX8_times 61 = .ok (.if_icmp .ge 55, 3) := by decide +kernel
theorem dX8_times_64 : decode cX8_times 64 = .ok (.aload_n 0, 1) := by decide +kernel
theorem dX8_times_65 : decode cX8_times 65 = .ok (.getfield 40, 3) := by decide +kernel
theorem dX8_times_68 : decode cX8_times 68 = .ok (.iload 9, 2) := by decide +kernel
theorem dX8_times_70 : decode cX8_times 70 = .ok (.iload 4, 2) := by decide +kernel
theorem dX8_times_72 : decode cX8_times 72 = .ok (.iadd, 1) := by decide +kernel
theorem dX8_times_73 : decode cX8_times 73 = .ok (.laload, 1) := by decide +kernel
theorem dX8_times_74 : decode cX8_times 74 = .ok (.aload_n 1, 1) := by decide +kernel
theorem dX8_times_75 : decode cX8_times 75 = .ok (.iload 9, 2) := by decide +kernel
theorem dX8_times_77 : decode cX8_times 77 = .ok (.laload, 1) := by decide +kernel
theorem dX8_times_78 : decode cX8_times 78 = .ok (.lload 5, 2) := by decide +kernel
theorem dX8_times_80 : decode cX8_times 80 = .ok (.lmul, 1) := by decide +kernel
theorem dX8_times_81 : decode cX8_times 81 = .ok (.ladd, 1) := by decide +kernel
theorem dX8_times_82 : decode cX8_times 82 = .ok (.lload 7, 2) := by decide +kernel
theorem dX8_times_84 : decode cX8_times 84 = .ok (.ladd, 1) := by decide +kernel
theorem dX8_times_85 : decode cX8_times 85 = .ok (.lstore 10, 2) := by decide +kernel
theorem dX8_times_87 : decode cX8_times 87 = .ok (.aload_n 0, 1) := by decide +kernel
theorem dX8_times_88 : decode cX8_times 88 = .ok (.getfield 40, 3) := by decide +kernel
theorem dX8_times_91 : decode cX8_times 91 = .ok (.iload 9, 2) := by decide +kernel
theorem dX8_times_93 : decode cX8_times 93 = .ok (.iload 4, 2) := by decide +kernel
theorem dX8_times_95 : decode cX8_times 95 = .ok (.iadd, 1) := by decide +kernel
theorem dX8_times_96 : decode cX8_times 96 = .ok (.lload 10, 2) := by decide +kernel
theorem dX8_times_98 : decode cX8_times 98 = .ok (.ldc2_w 144, 3) := by decide +kernel
theorem dX8_times_101 : decode cX8_times 101 = .ok (.land, 1) := by decide +kernel
theorem dX8_times_102 : decode cX8_times 102 = .ok (.lastore, 1) := by decide +kernel
theorem dX8_times_103 : decode cX8_times 103 = .ok (.lload 10, 2) := by decide +kernel
theorem dX8_times_105 : decode cX8_times 105 = .ok (.bipush 24, 2) := by decide +kernel
theorem dX8_times_107 : decode cX8_times 107 = .ok (.lshr, 1) := by decide +kernel
theorem dX8_times_108 : decode cX8_times 108 = .ok (.lstore 7, 2) := by decide +kernel
theorem dX8_times_110 : decode cX8_times 110 = .ok (.iinc 9 1, 3) := by decide +kernel
theorem dX8_times_113 : decode cX8_times 113 = .ok (.goto (-60), 3) := by decide +kernel
theorem dX8_times_116 : decode cX8_times 116 = .ok (.iinc 4 1, 3) := by decide +kernel
theorem dX8_times_119 : decode cX8_times 119 = .ok (.goto (-91), 3) := by decide +kernel
theorem dX8_times_122 : decode cX8_times 122 = .ok (.return_, 1) := by decide +kernel
theorem mz_i_wsX8_adds_9 : (.code yX8_times cX8_times 12 none : Cond) ∈ wsX8_adds := mz_mt (mz_ml (mz_mt (mz_mt (mz_mt (mz_mt (mz_mt (mz_mt (mz_mt (mz_mt mz_mh)))))))))
theorem mz_i_wsX8_adds_4 : (.constantLong RX8 144 (16777215) : Cond) ∈ wsX8_adds := mz_mt (mz_ml (mz_mt (mz_mt (mz_mt mz_mh))))
theorem mz_i_wsX8_adds_2 : (.fieldLink RX8 40 "MadeItSoModel" "helper" "[J" : Cond) ∈ wsX8_adds := mz_mt (mz_ml (mz_mt mz_mh))
theorem mz_f_wsX8_adds_wsX80 : ∀ w ∈ wsX80, w ∈ wsX8_adds := fun _ h => mz_mt (mz_mr h)
set_option maxRecDepth 20000 in
theorem ggX8_adds_X8_times : GoodIn wsX8_adds wsX8_times := goodIn_sub (mz_fc mz_i_wsX8_adds_9 (mz_fa (mz_fc mz_i_wsX8_adds_2 (mz_fc mz_i_wsX8_adds_4 mz_fn)) (mz_f_wsX8_adds_wsX80))) (by decide +kernel)
theorem mz_i_wsX8_adds_8 : (.initialized RX8 : Cond) ∈ wsX8_adds := mz_mt (mz_ml (mz_mt (mz_mt (mz_mt (mz_mt (mz_mt (mz_mt (mz_mt mz_mh))))))))
theorem mz_i_wsX8_adds_7 : (.selects RX8 yX8_times yX8_times : Cond) ∈ wsX8_adds := mz_mt (mz_ml (mz_mt (mz_mt (mz_mt (mz_mt (mz_mt (mz_mt mz_mh)))))))
theorem mz_i_wsX8_adds_6 : (.instanceMethod yX8_times : Cond) ∈ wsX8_adds := mz_mt (mz_ml (mz_mt (mz_mt (mz_mt (mz_mt (mz_mt mz_mh))))))
theorem mz_i_wsX8_adds_5 : (.methodLink RX8 146 yX8_times : Cond) ∈ wsX8_adds := mz_mt (mz_ml (mz_mt (mz_mt (mz_mt (mz_mt mz_mh)))))
set_option maxRecDepth 20000 in
theorem gX8_adds_X8_times : GoodIn wsX8_adds (wsV RX8 146 RX8 yX8_times wsX8_times) := goodIn_app (goodIn_sub (mz_fc mz_i_wsX8_adds_5 (mz_fc mz_i_wsX8_adds_6 (mz_fc mz_i_wsX8_adds_7 (mz_fc mz_i_wsX8_adds_8 mz_fn)))) (by decide +kernel)) ggX8_adds_X8_times
theorem dX8_adds_0 : decode cX8_adds 0 = .ok (.aload_n 0, 1) := by decide +kernel
theorem dX8_adds_1 : decode cX8_adds 1 = .ok (.aload_n 0, 1) := by decide +kernel
theorem dX8_adds_2 : decode cX8_adds 2 = .ok (.getfield 33, 3) := by decide +kernel
theorem dX8_adds_5 : decode cX8_adds 5 = .ok (.lload_n 3, 1) := by decide +kernel
theorem dX8_adds_6 : decode cX8_adds 6 = .ok (.invokevirtual 146, 3) := by decide +kernel
theorem dX8_adds_9 : decode cX8_adds 9 = .ok (.iconst 0, 1) := by decide +kernel
theorem dX8_adds_10 : decode cX8_adds 10 = .ok (.istore 5, 2) := by decide +kernel
theorem dX8_adds_12 : decode cX8_adds 12 = .ok (.iload 5, 2) := by decide +kernel
theorem dX8_adds_14 : decode cX8_adds 14 = .ok (.sipush 200, 3) := by decide +kernel
theorem dX8_adds_17 : decode cX8_adds 17 = .ok (.if_icmp .ge 23, 3) := by decide +kernel
theorem dX8_adds_20 : decode cX8_adds 20 = .ok (.aload_n 0, 1) := by decide +kernel
theorem dX8_adds_21 : decode cX8_adds 21 = .ok (.getfield 33, 3) := by decide +kernel
theorem dX8_adds_24 : decode cX8_adds 24 = .ok (.iload 5, 2) := by decide +kernel
theorem dX8_adds_26 : decode cX8_adds 26 = .ok (.aload_n 0, 1) := by decide +kernel
theorem dX8_adds_27 : decode cX8_adds 27 = .ok (.getfield 40, 3) := by decide +kernel
theorem dX8_adds_30 : decode cX8_adds 30 = .ok (.iload 5, 2) := by decide +kernel
theorem dX8_adds_32 : decode cX8_adds 32 = .ok (.laload, 1) := by decide +kernel
theorem dX8_adds_33 : decode cX8_adds 33 = .ok (.lastore, 1) := by decide +kernel
theorem dX8_adds_34 : decode cX8_adds 34 = .ok (.iinc 5 1, 3) := by decide +kernel
theorem dX8_adds_37 : decode cX8_adds 37 = .ok (.goto (-25), 3) := by decide +kernel
theorem dX8_adds_40 : decode cX8_adds 40 = .ok (.aload_n 0, 1) := by decide +kernel
theorem dX8_adds_41 : decode cX8_adds 41 = .ok (.aload_n 0, 1) := by decide +kernel
theorem dX8_adds_42 : decode cX8_adds 42 = .ok (.getfield 37, 3) := by decide +kernel
theorem dX8_adds_45 : decode cX8_adds 45 = .ok (.lload_n 1, 1) := by decide +kernel
theorem dX8_adds_46 : decode cX8_adds 46 = .ok (.invokevirtual 146, 3) := by decide +kernel
theorem dX8_adds_49 : decode cX8_adds 49 = .ok (.lconst 0, 1) := by decide +kernel
theorem dX8_adds_50 : decode cX8_adds 50 = .ok (.lstore 5, 2) := by decide +kernel
theorem dX8_adds_52 : decode cX8_adds 52 = .ok (.iconst 0, 1) := by decide +kernel
theorem dX8_adds_53 : decode cX8_adds 53 = .ok (.istore 7, 2) := by decide +kernel
theorem dX8_adds_55 : decode cX8_adds 55 = .ok (.iload 7, 2) := by decide +kernel
theorem dX8_adds_57 : decode cX8_adds 57 = .ok (.sipush 200, 3) := by decide +kernel
theorem dX8_adds_60 : decode cX8_adds 60 = .ok (.if_icmp .ge 49, 3) := by decide +kernel
theorem dX8_adds_63 : decode cX8_adds 63 = .ok (.aload_n 0, 1) := by decide +kernel
theorem dX8_adds_64 : decode cX8_adds 64 = .ok (.getfield 33, 3) := by decide +kernel
theorem dX8_adds_67 : decode cX8_adds 67 = .ok (.iload 7, 2) := by decide +kernel
theorem dX8_adds_69 : decode cX8_adds 69 = .ok (.laload, 1) := by decide +kernel
theorem dX8_adds_70 : decode cX8_adds 70 = .ok (.aload_n 0, 1) := by decide +kernel
theorem dX8_adds_71 : decode cX8_adds 71 = .ok (.getfield 40, 3) := by decide +kernel
theorem dX8_adds_74 : decode cX8_adds 74 = .ok (.iload 7, 2) := by decide +kernel
theorem dX8_adds_76 : decode cX8_adds 76 = .ok (.laload, 1) := by decide +kernel
theorem dX8_adds_77 : decode cX8_adds 77 = .ok (.ladd, 1) := by decide +kernel
theorem dX8_adds_78 : decode cX8_adds 78 = .ok (.lload 5, 2) := by decide +kernel
theorem dX8_adds_80 : decode cX8_adds 80 = .ok (.ladd, 1) := by decide +kernel
theorem dX8_adds_81 : decode cX8_adds 81 = .ok (.lstore 8, 2) := by decide +kernel
theorem dX8_adds_83 : decode cX8_adds 83 = .ok (.aload_n 0, 1) := by decide +kernel
theorem dX8_adds_84 : decode cX8_adds 84 = .ok (.getfield 33, 3) := by decide +kernel
theorem dX8_adds_87 : decode cX8_adds 87 = .ok (.iload 7, 2) := by decide +kernel
theorem dX8_adds_89 : decode cX8_adds 89 = .ok (.lload 8, 2) := by decide +kernel
theorem dX8_adds_91 : decode cX8_adds 91 = .ok (.ldc2_w 144, 3) := by decide +kernel
theorem dX8_adds_94 : decode cX8_adds 94 = .ok (.land, 1) := by decide +kernel
theorem dX8_adds_95 : decode cX8_adds 95 = .ok (.lastore, 1) := by decide +kernel
theorem dX8_adds_96 : decode cX8_adds 96 = .ok (.lload 8, 2) := by decide +kernel
theorem dX8_adds_98 : decode cX8_adds 98 = .ok (.bipush 24, 2) := by decide +kernel
theorem dX8_adds_100 : decode cX8_adds 100 = .ok (.lshr, 1) := by decide +kernel
theorem dX8_adds_101 : decode cX8_adds 101 = .ok (.lstore 5, 2) := by decide +kernel
theorem dX8_adds_103 : decode cX8_adds 103 = .ok (.iinc 7 1, 3) := by decide +kernel
theorem dX8_adds_106 : decode cX8_adds 106 = .ok (.goto (-51), 3) := by decide +kernel
theorem dX8_adds_109 : decode cX8_adds 109 = .ok (.aload_n 0, 1) := by decide +kernel
theorem dX8_adds_110 : decode cX8_adds 110 = .ok (.aload_n 0, 1) := by decide +kernel
theorem dX8_adds_111 : decode cX8_adds 111 = .ok (.getfield 37, 3) := by decide +kernel
theorem dX8_adds_114 : decode cX8_adds 114 = .ok (.lload_n 3, 1) := by decide +kernel
theorem dX8_adds_115 : decode cX8_adds 115 = .ok (.invokevirtual 146, 3) := by decide +kernel
theorem dX8_adds_118 : decode cX8_adds 118 = .ok (.iconst 0, 1) := by decide +kernel
theorem dX8_adds_119 : decode cX8_adds 119 = .ok (.istore 7, 2) := by decide +kernel
theorem dX8_adds_121 : decode cX8_adds 121 = .ok (.iload 7, 2) := by decide +kernel
theorem dX8_adds_123 : decode cX8_adds 123 = .ok (.sipush 200, 3) := by decide +kernel
theorem dX8_adds_126 : decode cX8_adds 126 = .ok (.if_icmp .ge 23, 3) := by decide +kernel
theorem dX8_adds_129 : decode cX8_adds 129 = .ok (.aload_n 0, 1) := by decide +kernel
theorem dX8_adds_130 : decode cX8_adds 130 = .ok (.getfield 37, 3) := by decide +kernel
theorem dX8_adds_133 : decode cX8_adds 133 = .ok (.iload 7, 2) := by decide +kernel
theorem dX8_adds_135 : decode cX8_adds 135 = .ok (.aload_n 0, 1) := by decide +kernel
theorem dX8_adds_136 : decode cX8_adds 136 = .ok (.getfield 40, 3) := by decide +kernel
theorem dX8_adds_139 : decode cX8_adds 139 = .ok (.iload 7, 2) := by decide +kernel
theorem dX8_adds_141 : decode cX8_adds 141 = .ok (.laload, 1) := by decide +kernel
theorem dX8_adds_142 : decode cX8_adds 142 = .ok (.lastore, 1) := by decide +kernel
theorem dX8_adds_143 : decode cX8_adds 143 = .ok (.iinc 7 1, 3) := by decide +kernel
theorem dX8_adds_146 : decode cX8_adds 146 = .ok (.goto (-25), 3) := by decide +kernel
theorem dX8_adds_149 : decode cX8_adds 149 = .ok (.return_, 1) := by decide +kernel
theorem dX8_withOne_0 : decode cX8_withOne 0 = .ok (.iload_n 0, 1) := by decide +kernel
theorem dX8_withOne_1 : decode cX8_withOne 1 = .ok (.iconst 1, 1) := by decide +kernel
theorem dX8_withOne_2 : decode cX8_withOne 2 = .ok (.iload_n 1, 1) := by decide +kernel
theorem dX8_withOne_3 : decode cX8_withOne 3 = .ok (.ishl, 1) := by decide +kernel
theorem dX8_withOne_4 : decode cX8_withOne 4 = .ok (.ior, 1) := by decide +kernel
theorem dX8_withOne_5 : decode cX8_withOne 5 = .ok (.iload_n 2, 1) := by decide +kernel
theorem dX8_withOne_6 : decode cX8_withOne 6 = .ok (.bipush 8, 2) := by decide +kernel
theorem dX8_withOne_8 : decode cX8_withOne 8 = .ok (.iload_n 1, 1) := by decide +kernel
theorem dX8_withOne_9 : decode cX8_withOne 9 = .ok (.iadd, 1) := by decide +kernel
theorem dX8_withOne_10 : decode cX8_withOne 10 = .ok (.ishl, 1) := by decide +kernel
theorem dX8_withOne_11 : decode cX8_withOne 11 = .ok (.ior, 1) := by decide +kernel
theorem dX8_withOne_12 : decode cX8_withOne 12 = .ok (.ireturn, 1) := by decide +kernel
theorem dX8_meetsLike_0 : decode cX8_meetsLike 0 = .ok (.iconst 0, 1) := by decide +kernel
theorem dX8_meetsLike_1 : decode cX8_meetsLike 1 = .ok (.istore_n 3, 1) := by decide +kernel
theorem dX8_meetsLike_2 : decode cX8_meetsLike 2 = .ok (.iload_n 3, 1) := by decide +kernel
theorem dX8_meetsLike_3 : decode cX8_meetsLike 3 = .ok (.aload_n 0, 1) := by decide +kernel
theorem dX8_meetsLike_4 : decode cX8_meetsLike 4 = .ok (.getfield 58, 3) := by decide +kernel
theorem dX8_meetsLike_7 : decode cX8_meetsLike 7 = .ok (.if_icmp .ge 113, 3) := by decide +kernel
theorem dX8_meetsLike_10 : decode cX8_meetsLike 10 = .ok (.iconst 0, 1) := by decide +kernel
theorem dX8_meetsLike_11 : decode cX8_meetsLike 11 = .ok (.istore 4, 2) := by decide +kernel
theorem dX8_meetsLike_13 : decode cX8_meetsLike 13 = .ok (.iload 4, 2) := by decide +kernel
theorem dX8_meetsLike_15 : decode cX8_meetsLike 15 = .ok (.iload_n 3, 1) := by decide +kernel
theorem dX8_meetsLike_16 : decode cX8_meetsLike 16 = .ok (.if_icmp .ge 98, 3) := by decide +kernel
theorem dX8_meetsLike_19 : decode cX8_meetsLike 19 = .ok (.aload_n 0, 1) := by decide +kernel
theorem dX8_meetsLike_20 : decode cX8_meetsLike 20 = .ok (.getfield 55, 3) := by decide +kernel
theorem dX8_meetsLike_23 : decode cX8_meetsLike 23 = .ok (.iload_n 3, 1) := by decide +kernel
theorem dX8_meetsLike_24 : decode cX8_meetsLike 24 = .ok (.iaload, 1) := by decide +kernel
theorem dX8_meetsLike_25 : decode cX8_meetsLike 25 = .ok (.iload 4, 2) := by decide +kernel
theorem dX8_meetsLike_27 : decode cX8_meetsLike 27 = .ok (.ishr, 1) := by decide +kernel
theorem dX8_meetsLike_28 : decode cX8_meetsLike 28 = .ok (.iconst 1, 1) := by decide +kernel
theorem dX8_meetsLike_29 : decode cX8_meetsLike 29 = .ok (.iand, 1) := by decide +kernel
theorem dX8_meetsLike_30 : decode cX8_meetsLike 30 = .ok (.iconst 1, 1) := by decide +kernel
theorem dX8_meetsLike_31 : decode cX8_meetsLike 31 = .ok (.if_icmp .ne 6, 3) := by decide +kernel
theorem dX8_meetsLike_34 : decode cX8_meetsLike 34 = .ok (.goto 74, 3) := by decide +kernel
theorem dX8_meetsLike_37 : decode cX8_meetsLike 37 = .ok (.iload_n 2, 1) := by decide +kernel
theorem dX8_meetsLike_38 : decode cX8_meetsLike 38 = .ok (.iload_n 3, 1) := by decide +kernel
theorem dX8_meetsLike_39 : decode cX8_meetsLike 39 = .ok (.ishr, 1) := by decide +kernel
theorem dX8_meetsLike_40 : decode cX8_meetsLike 40 = .ok (.iconst 1, 1) := by decide +kernel
theorem dX8_meetsLike_41 : decode cX8_meetsLike 41 = .ok (.iand, 1) := by decide +kernel
theorem dX8_meetsLike_42 : decode cX8_meetsLike 42 = .ok (.iconst 1, 1) := by decide +kernel
theorem dX8_meetsLike_43 : decode cX8_meetsLike 43 = .ok (.if_icmp .ne 17, 3) := by decide +kernel
theorem dX8_meetsLike_46 : decode cX8_meetsLike 46 = .ok (.iload_n 2, 1) := by decide +kernel
theorem dX8_meetsLike_47 : decode cX8_meetsLike 47 = .ok (.iload 4, 2) := by decide +kernel
theorem dX8_meetsLike_49 : decode cX8_meetsLike 49 = .ok (.ishr, 1) := by decide +kernel
theorem dX8_meetsLike_50 : decode cX8_meetsLike 50 = .ok (.iconst 1, 1) := by decide +kernel
theorem dX8_meetsLike_51 : decode cX8_meetsLike 51 = .ok (.iand, 1) := by decide +kernel
theorem dX8_meetsLike_52 : decode cX8_meetsLike 52 = .ok (.iconst 1, 1) := by decide +kernel
theorem dX8_meetsLike_53 : decode cX8_meetsLike 53 = .ok (.if_icmp .ne 7, 3) := by decide +kernel
theorem dX8_meetsLike_56 : decode cX8_meetsLike 56 = .ok (.iconst 1, 1) := by decide +kernel
theorem dX8_meetsLike_57 : decode cX8_meetsLike 57 = .ok (.goto 4, 3) := by decide +kernel
theorem dX8_meetsLike_60 : decode cX8_meetsLike 60 = .ok (.iconst 0, 1) := by decide +kernel
theorem dX8_meetsLike_61 : decode cX8_meetsLike 61 = .ok (.istore 5, 2) := by decide +kernel
theorem dX8_meetsLike_63 : decode cX8_meetsLike 63 = .ok (.aload_n 0, 1) := by decide +kernel
theorem dX8_meetsLike_64 : decode cX8_meetsLike 64 = .ok (.getfield 13, 3) := by decide +kernel
theorem dX8_meetsLike_67 : decode cX8_meetsLike 67 = .ok (.iload_n 1, 1) := by decide +kernel
theorem dX8_meetsLike_68 : decode cX8_meetsLike 68 = .ok (.iaload, 1) := by decide +kernel
theorem dX8_meetsLike_69 : decode cX8_meetsLike 69 = .ok (.iload_n 3, 1) := by decide +kernel
theorem dX8_meetsLike_70 : decode cX8_meetsLike 70 = .ok (.ishr, 1) := by decide +kernel
theorem dX8_meetsLike_71 : decode cX8_meetsLike 71 = .ok (.iconst 1, 1) := by decide +kernel
theorem dX8_meetsLike_72 : decode cX8_meetsLike 72 = .ok (.iand, 1) := by decide +kernel
theorem dX8_meetsLike_73 : decode cX8_meetsLike 73 = .ok (.iconst 1, 1) := by decide +kernel
theorem dX8_meetsLike_74 : decode cX8_meetsLike 74 = .ok (.if_icmp .ne 22, 3) := by decide +kernel
theorem dX8_meetsLike_77 : decode cX8_meetsLike 77 = .ok (.aload_n 0, 1) := by decide +kernel
theorem dX8_meetsLike_78 : decode cX8_meetsLike 78 = .ok (.getfield 13, 3) := by decide +kernel
theorem dX8_meetsLike_81 : decode cX8_meetsLike 81 = .ok (.iload_n 1, 1) := by decide +kernel
theorem dX8_meetsLike_82 : decode cX8_meetsLike 82 = .ok (.iaload, 1) := by decide +kernel
theorem dX8_meetsLike_83 : decode cX8_meetsLike 83 = .ok (.iload 4, 2) := by decide +kernel
theorem dX8_meetsLike_85 : decode cX8_meetsLike 85 = .ok (.ishr, 1) := by decide +kernel
theorem dX8_meetsLike_86 : decode cX8_meetsLike 86 = .ok (.iconst 1, 1) := by decide +kernel
theorem dX8_meetsLike_87 : decode cX8_meetsLike 87 = .ok (.iand, 1) := by decide +kernel
theorem dX8_meetsLike_88 : decode cX8_meetsLike 88 = .ok (.iconst 1, 1) := by decide +kernel
theorem dX8_meetsLike_89 : decode cX8_meetsLike 89 = .ok (.if_icmp .ne 7, 3) := by decide +kernel
theorem dX8_meetsLike_92 : decode cX8_meetsLike 92 = .ok (.iconst 1, 1) := by decide +kernel
theorem dX8_meetsLike_93 : decode cX8_meetsLike 93 = .ok (.goto 4, 3) := by decide +kernel
theorem dX8_meetsLike_96 : decode cX8_meetsLike 96 = .ok (.iconst 0, 1) := by decide +kernel
theorem dX8_meetsLike_97 : decode cX8_meetsLike 97 = .ok (.istore 6, 2) := by decide +kernel
theorem dX8_meetsLike_99 : decode cX8_meetsLike 99 = .ok (.iload 5, 2) := by decide +kernel
theorem dX8_meetsLike_101 : decode cX8_meetsLike 101 = .ok (.iload 6, 2) := by decide +kernel
theorem dX8_meetsLike_103 : decode cX8_meetsLike 103 = .ok (.if_icmp .eq 5, 3) := by decide +kernel
theorem dX8_meetsLike_106 : decode cX8_meetsLike 106 = .ok (.iconst 0, 1) := by decide +kernel
theorem dX8_meetsLike_107 : decode cX8_meetsLike 107 = .ok (.ireturn, 1) := by decide +kernel
theorem dX8_meetsLike_108 : decode cX8_meetsLike 108 = .ok (.iinc 4 1, 3) := by decide +kernel
theorem dX8_meetsLike_111 : decode cX8_meetsLike 111 = .ok (.goto (-98), 3) := by decide +kernel
theorem dX8_meetsLike_114 : decode cX8_meetsLike 114 = .ok (.iinc 3 1, 3) := by decide +kernel
theorem dX8_meetsLike_117 : decode cX8_meetsLike 117 = .ok (.goto (-115), 3) := by decide +kernel
theorem dX8_meetsLike_120 : decode cX8_meetsLike 120 = .ok (.iconst 1, 1) := by decide +kernel
theorem dX8_meetsLike_121 : decode cX8_meetsLike 121 = .ok (.ireturn, 1) := by decide +kernel
theorem dX8_isLeastOrder_0 : decode cX8_isLeastOrder 0 = .ok (.iload_n 2, 1) := by decide +kernel
theorem dX8_isLeastOrder_1 : decode cX8_isLeastOrder 1 = .ok (.iconst 1, 1) := by decide +kernel
theorem dX8_isLeastOrder_2 : decode cX8_isLeastOrder 2 = .ok (.isub, 1) := by decide +kernel
theorem dX8_isLeastOrder_3 : decode cX8_isLeastOrder 3 = .ok (.istore_n 3, 1) := by decide +kernel
theorem dX8_isLeastOrder_4 : decode cX8_isLeastOrder 4 = .ok (.iload_n 3, 1) := by decide +kernel
theorem dX8_isLeastOrder_5 : decode cX8_isLeastOrder 5 = .ok (.ifCond .lt 39, 3) := by decide +kernel
theorem dX8_isLeastOrder_8 : decode cX8_isLeastOrder 8 = .ok (.aload_n 0, 1) := by decide +kernel
theorem dX8_isLeastOrder_9 : decode cX8_isLeastOrder 9 = .ok (.getfield 55, 3) := by decide +kernel
theorem dX8_isLeastOrder_12 : decode cX8_isLeastOrder 12 = .ok (.iload_n 1, 1) := by decide +kernel
theorem dX8_isLeastOrder_13 : decode cX8_isLeastOrder 13 = .ok (.iaload, 1) := by decide +kernel
theorem dX8_isLeastOrder_14 : decode cX8_isLeastOrder 14 = .ok (.aload_n 0, 1) := by decide +kernel
theorem dX8_isLeastOrder_15 : decode cX8_isLeastOrder 15 = .ok (.getfield 43, 3) := by decide +kernel
theorem dX8_isLeastOrder_18 : decode cX8_isLeastOrder 18 = .ok (.iload_n 3, 1) := by decide +kernel
theorem dX8_isLeastOrder_19 : decode cX8_isLeastOrder 19 = .ok (.iaload, 1) := by decide +kernel
theorem dX8_isLeastOrder_20 : decode cX8_isLeastOrder 20 = .ok (.ishr, 1) := by decide +kernel
theorem dX8_isLeastOrder_21 : decode cX8_isLeastOrder 21 = .ok (.iconst 1, 1) := by decide +kernel
theorem dX8_isLeastOrder_22 : decode cX8_isLeastOrder 22 = .ok (.iand, 1) := by decide +kernel
theorem dX8_isLeastOrder_23 : decode cX8_isLeastOrder 23 = .ok (.ifCond .ne 21, 3) := by decide +kernel
theorem dX8_isLeastOrder_26 : decode cX8_isLeastOrder 26 = .ok (.aload_n 0, 1) := by decide +kernel
theorem dX8_isLeastOrder_27 : decode cX8_isLeastOrder 27 = .ok (.getfield 43, 3) := by decide +kernel
theorem dX8_isLeastOrder_30 : decode cX8_isLeastOrder 30 = .ok (.iload_n 3, 1) := by decide +kernel
theorem dX8_isLeastOrder_31 : decode cX8_isLeastOrder 31 = .ok (.iaload, 1) := by decide +kernel
theorem dX8_isLeastOrder_32 : decode cX8_isLeastOrder 32 = .ok (.iload_n 1, 1) := by decide +kernel
theorem dX8_isLeastOrder_33 : decode cX8_isLeastOrder 33 = .ok (.if_icmp .le 5, 3) := by decide +kernel
theorem dX8_isLeastOrder_36 : decode cX8_isLeastOrder 36 = .ok (.iconst 0, 1) := by decide +kernel
theorem dX8_isLeastOrder_37 : decode cX8_isLeastOrder 37 = .ok (.ireturn, 1) := by decide +kernel
theorem dX8_isLeastOrder_38 : decode cX8_isLeastOrder 38 = .ok (.iinc 3 (-1), 3) := by decide +kernel
theorem dX8_isLeastOrder_41 : decode cX8_isLeastOrder 41 = .ok (.goto (-37), 3) := by decide +kernel
theorem dX8_isLeastOrder_44 : decode cX8_isLeastOrder 44 = .ok (.iconst 1, 1) := by decide +kernel
theorem dX8_isLeastOrder_45 : decode cX8_isLeastOrder 45 = .ok (.ireturn, 1) := by decide +kernel
theorem dX8_most_0 : decode cX8_most 0 = .ok (.lload_n 0, 1) := by decide +kernel
theorem dX8_most_1 : decode cX8_most 1 = .ok (.lload_n 2, 1) := by decide +kernel
theorem dX8_most_2 : decode cX8_most 2 = .ok (.lcmp, 1) := by decide +kernel
theorem dX8_most_3 : decode cX8_most 3 = .ok (.ifCond .le 7, 3) := by decide +kernel
theorem dX8_most_6 : decode cX8_most 6 = .ok (.lload_n 0, 1) := by decide +kernel
theorem dX8_most_7 : decode cX8_most 7 = .ok (.goto 4, 3) := by decide +kernel
theorem dX8_most_10 : decode cX8_most 10 = .ok (.lload_n 2, 1) := by decide +kernel
theorem dX8_most_11 : decode cX8_most 11 = .ok (.lreturn, 1) := by decide +kernel
theorem dX8_lesser_0 : decode cX8_lesser 0 = .ok (.lload_n 0, 1) := by decide +kernel
theorem dX8_lesser_1 : decode cX8_lesser 1 = .ok (.lload_n 2, 1) := by decide +kernel
theorem dX8_lesser_2 : decode cX8_lesser 2 = .ok (.lcmp, 1) := by decide +kernel
theorem dX8_lesser_3 : decode cX8_lesser 3 = .ok (.ifCond .ge 7, 3) := by decide +kernel
theorem dX8_lesser_6 : decode cX8_lesser 6 = .ok (.lload_n 0, 1) := by decide +kernel
theorem dX8_lesser_7 : decode cX8_lesser 7 = .ok (.goto 4, 3) := by decide +kernel
theorem dX8_lesser_10 : decode cX8_lesser 10 = .ok (.lload_n 2, 1) := by decide +kernel
theorem dX8_lesser_11 : decode cX8_lesser 11 = .ok (.lreturn, 1) := by decide +kernel
