/-! printed rows of NAMES that the contracts use -/
theorem mz_i_wsX8_book_6 : (.code yX8_isRow cX8_isRow 3 (some .boolean) : Cond) ∈ wsX8_book := mz_mt (mz_ml (mz_mt (mz_mt (mz_mt (mz_mt (mz_mt mz_mh))))))
theorem mz_i_wsX8_book_15 : (.code yX8_bits cX8_bits 3 (some .int) : Cond) ∈ wsX8_book := mz_mt (mz_ml (mz_mt (mz_mt (mz_mt (mz_mt (mz_mt (mz_mt (mz_mt (mz_mt (mz_mt (mz_mt (mz_mt (mz_mt (mz_mt (mz_mt mz_mh)))))))))))))))
theorem mz_i_wsX8_book_14 : (.static yX8_bits : Cond) ∈ wsX8_book := mz_mt (mz_ml (mz_mt (mz_mt (mz_mt (mz_mt (mz_mt (mz_mt (mz_mt (mz_mt (mz_mt (mz_mt (mz_mt (mz_mt (mz_mt mz_mh))))))))))))))
theorem mz_i_wsX8_book_13 : (.methodLink RX8 86 yX8_bits : Cond) ∈ wsX8_book := mz_mt (mz_ml (mz_mt (mz_mt (mz_mt (mz_mt (mz_mt (mz_mt (mz_mt (mz_mt (mz_mt (mz_mt (mz_mt (mz_mt mz_mh)))))))))))))
theorem mz_i_wsX8_book_12 : (.fieldLink RX8 58 "MadeItSoModel" "many" "I" : Cond) ∈ wsX8_book := mz_mt (mz_ml (mz_mt (mz_mt (mz_mt (mz_mt (mz_mt (mz_mt (mz_mt (mz_mt (mz_mt (mz_mt (mz_mt mz_mh))))))))))))
theorem mz_i_wsX8_book_11 : (.code yX8_isThing cX8_isThing 2 (some .boolean) : Cond) ∈ wsX8_book := mz_mt (mz_ml (mz_mt (mz_mt (mz_mt (mz_mt (mz_mt (mz_mt (mz_mt (mz_mt (mz_mt (mz_mt mz_mh)))))))))))
theorem mz_i_wsX8_book_5 : (.initialized RX8 : Cond) ∈ wsX8_book := mz_mt (mz_ml (mz_mt (mz_mt (mz_mt (mz_mt mz_mh)))))
theorem mz_i_wsX8_book_10 : (.selects RX8 yX8_isThing yX8_isThing : Cond) ∈ wsX8_book := mz_mt (mz_ml (mz_mt (mz_mt (mz_mt (mz_mt (mz_mt (mz_mt (mz_mt (mz_mt (mz_mt mz_mh))))))))))
theorem mz_i_wsX8_book_9 : (.instanceMethod yX8_isThing : Cond) ∈ wsX8_book := mz_mt (mz_ml (mz_mt (mz_mt (mz_mt (mz_mt (mz_mt (mz_mt (mz_mt (mz_mt mz_mh)))))))))
theorem mz_i_wsX8_book_8 : (.methodLink RX8 71 yX8_isThing : Cond) ∈ wsX8_book := mz_mt (mz_ml (mz_mt (mz_mt (mz_mt (mz_mt (mz_mt (mz_mt (mz_mt mz_mh))))))))
theorem mz_i_wsX8_book_7 : (.fieldLink RX8 13 "MadeItSoModel" "parents" "[I" : Cond) ∈ wsX8_book := mz_mt (mz_ml (mz_mt (mz_mt (mz_mt (mz_mt (mz_mt (mz_mt mz_mh)))))))
theorem mz_f_wsX8_book_wsX80 : ∀ w ∈ wsX80, w ∈ wsX8_book := fun _ h => mz_mt (mz_mr h)
set_option maxRecDepth 20000 in
theorem ggX8_book_X8_isRow : GoodIn wsX8_book wsX8_isRow := goodIn_sub (mz_fc mz_i_wsX8_book_6 (mz_fa (mz_fc mz_i_wsX8_book_7 (mz_fc mz_i_wsX8_book_8 (mz_fc mz_i_wsX8_book_9 (mz_fc mz_i_wsX8_book_10 (mz_fc mz_i_wsX8_book_5 (mz_fc mz_i_wsX8_book_11 (mz_fc mz_i_wsX8_book_12 (mz_fc mz_i_wsX8_book_13 (mz_fc mz_i_wsX8_book_14 (mz_fc mz_i_wsX8_book_15 mz_fn)))))))))) (mz_f_wsX8_book_wsX80))) (by decide +kernel)
theorem mz_i_wsX8_book_4 : (.selects RX8 yX8_isRow yX8_isRow : Cond) ∈ wsX8_book := mz_mt (mz_ml (mz_mt (mz_mt (mz_mt mz_mh))))
theorem mz_i_wsX8_book_3 : (.instanceMethod yX8_isRow : Cond) ∈ wsX8_book := mz_mt (mz_ml (mz_mt (mz_mt mz_mh)))
theorem mz_i_wsX8_book_2 : (.methodLink RX8 90 yX8_isRow : Cond) ∈ wsX8_book := mz_mt (mz_ml (mz_mt mz_mh))
set_option maxRecDepth 20000 in
theorem gX8_book_X8_isRow : GoodIn wsX8_book (wsV RX8 90 RX8 yX8_isRow wsX8_isRow) := goodIn_app (goodIn_sub (mz_fc mz_i_wsX8_book_2 (mz_fc mz_i_wsX8_book_3 (mz_fc mz_i_wsX8_book_4 (mz_fc mz_i_wsX8_book_5 mz_fn)))) (by decide +kernel)) ggX8_book_X8_isRow
theorem dX8_book_0 : decode cX8_book 0 = .ok (.aload_n 0, 1) := by decide +kernel
theorem dX8_book_1 : decode cX8_book 1 = .ok (.iload_n 1, 1) := by decide +kernel
theorem dX8_book_2 : decode cX8_book 2 = .ok (.iload_n 2, 1) := by decide +kernel
theorem dX8_book_3 : decode cX8_book 3 = .ok (.invokevirtual 90, 3) := by decide +kernel
theorem dX8_book_6 : decode cX8_book 6 = .ok (.ifCond .eq 13, 3) := by decide +kernel
theorem dX8_book_9 : decode cX8_book 9 = .ok (.iload_n 3, 1) := by decide +kernel
theorem dX8_book_10 : decode cX8_book 10 = .ok (.ifCond .lt 9, 3) := by decide +kernel
theorem dX8_book_13 : decode cX8_book 13 = .ok (.iload_n 3, 1) := by decide +kernel
theorem dX8_book_14 : decode cX8_book 14 = .ok (.bipush 100, 2) := by decide +kernel
theorem dX8_book_16 : decode cX8_book 16 = .ok (.if_icmp .le 5, 3) := by decide +kernel
theorem dX8_book_19 : decode cX8_book 19 = .ok (.iconst 0, 1) := by decide +kernel
theorem dX8_book_20 : decode cX8_book 20 = .ok (.ireturn, 1) := by decide +kernel
theorem dX8_book_21 : decode cX8_book 21 = .ok (.aload_n 0, 1) := by decide +kernel
theorem dX8_book_22 : decode cX8_book 22 = .ok (.getfield 17, 3) := by decide +kernel
theorem dX8_book_25 : decode cX8_book 25 = .ok (.sipush 128, 3) := by decide +kernel
theorem dX8_book_28 : decode cX8_book 28 = .ok (.iload_n 1, 1) := by decide +kernel
theorem dX8_book_29 : decode cX8_book 29 = .ok (.imul, 1) := by decide +kernel
theorem dX8_book_30 : decode cX8_book 30 = .ok (.iload_n 2, 1) := by decide +kernel
theorem dX8_book_31 : decode cX8_book 31 = .ok (.iadd, 1) := by decide +kernel
theorem dX8_book_32 : decode cX8_book 32 = .ok (.iload_n 3, 1) := by decide +kernel
theorem dX8_book_33 : decode cX8_book 33 = .ok (.iastore, 1) := by decide +kernel
theorem dX8_book_34 : decode cX8_book 34 = .ok (.iconst 1, 1) := by decide +kernel
theorem dX8_book_35 : decode cX8_book 35 = .ok (.ireturn, 1) := by decide +kernel
theorem mz_i_wsX8_booked_6 : (.code yX8_isRow cX8_isRow 3 (some .boolean) : Cond) ∈ wsX8_booked := mz_mt (mz_ml (mz_mt (mz_mt (mz_mt (mz_mt (mz_mt mz_mh))))))
theorem mz_i_wsX8_booked_15 : (.code yX8_bits cX8_bits 3 (some .int) : Cond) ∈ wsX8_booked := mz_mt (mz_ml (mz_mt (mz_mt (mz_mt (mz_mt (mz_mt (mz_mt (mz_mt (mz_mt (mz_mt (mz_mt (mz_mt (mz_mt (mz_mt (mz_mt mz_mh)))))))))))))))
theorem mz_i_wsX8_booked_14 : (.static yX8_bits : Cond) ∈ wsX8_booked := mz_mt (mz_ml (mz_mt (mz_mt (mz_mt (mz_mt (mz_mt (mz_mt (mz_mt (mz_mt (mz_mt (mz_mt (mz_mt (mz_mt (mz_mt mz_mh))))))))))))))
theorem mz_i_wsX8_booked_13 : (.methodLink RX8 86 yX8_bits : Cond) ∈ wsX8_booked := mz_mt (mz_ml (mz_mt (mz_mt (mz_mt (mz_mt (mz_mt (mz_mt (mz_mt (mz_mt (mz_mt (mz_mt (mz_mt (mz_mt mz_mh)))))))))))))
theorem mz_i_wsX8_booked_12 : (.fieldLink RX8 58 "MadeItSoModel" "many" "I" : Cond) ∈ wsX8_booked := mz_mt (mz_ml (mz_mt (mz_mt (mz_mt (mz_mt (mz_mt (mz_mt (mz_mt (mz_mt (mz_mt (mz_mt (mz_mt mz_mh))))))))))))
theorem mz_i_wsX8_booked_11 : (.code yX8_isThing cX8_isThing 2 (some .boolean) : Cond) ∈ wsX8_booked := mz_mt (mz_ml (mz_mt (mz_mt (mz_mt (mz_mt (mz_mt (mz_mt (mz_mt (mz_mt (mz_mt (mz_mt mz_mh)))))))))))
theorem mz_i_wsX8_booked_5 : (.initialized RX8 : Cond) ∈ wsX8_booked := mz_mt (mz_ml (mz_mt (mz_mt (mz_mt (mz_mt mz_mh)))))
theorem mz_i_wsX8_booked_10 : (.selects RX8 yX8_isThing yX8_isThing : Cond) ∈ wsX8_booked := mz_mt (mz_ml (mz_mt (mz_mt (mz_mt (mz_mt (mz_mt (mz_mt (mz_mt (mz_mt (mz_mt mz_mh))))))))))
theorem mz_i_wsX8_booked_9 : (.instanceMethod yX8_isThing : Cond) ∈ wsX8_booked := mz_mt (mz_ml (mz_mt (mz_mt (mz_mt (mz_mt (mz_mt (mz_mt (mz_mt (mz_mt mz_mh)))))))))
theorem mz_i_wsX8_booked_8 : (.methodLink RX8 71 yX8_isThing : Cond) ∈ wsX8_booked := mz_mt (mz_ml (mz_mt (mz_mt (mz_mt (mz_mt (mz_mt (mz_mt (mz_mt mz_mh))))))))
theorem mz_i_wsX8_booked_7 : (.fieldLink RX8 13 "MadeItSoModel" "parents" "[I" : Cond) ∈ wsX8_booked := mz_mt (mz_ml (mz_mt (mz_mt (mz_mt (mz_mt (mz_mt (mz_mt mz_mh)))))))
theorem mz_f_wsX8_booked_wsX80 : ∀ w ∈ wsX80, w ∈ wsX8_booked := fun _ h => mz_mt (mz_mr h)
set_option maxRecDepth 20000 in
theorem ggX8_booked_X8_isRow : GoodIn wsX8_booked wsX8_isRow := goodIn_sub (mz_fc mz_i_wsX8_booked_6 (mz_fa (mz_fc mz_i_wsX8_booked_7 (mz_fc mz_i_wsX8_booked_8 (mz_fc mz_i_wsX8_booked_9 (mz_fc mz_i_wsX8_booked_10 (mz_fc mz_i_wsX8_booked_5 (mz_fc mz_i_wsX8_booked_11 (mz_fc mz_i_wsX8_booked_12 (mz_fc mz_i_wsX8_booked_13 (mz_fc mz_i_wsX8_booked_14 (mz_fc mz_i_wsX8_booked_15 mz_fn)))))))))) (mz_f_wsX8_booked_wsX80))) (by decide +kernel)
theorem mz_i_wsX8_booked_4 : (.selects RX8 yX8_isRow yX8_isRow : Cond) ∈ wsX8_booked := mz_mt (mz_ml (mz_mt (mz_mt (mz_mt mz_mh))))
theorem mz_i_wsX8_booked_3 : (.instanceMethod yX8_isRow : Cond) ∈ wsX8_booked := mz_mt (mz_ml (mz_mt (mz_mt mz_mh)))
theorem mz_i_wsX8_booked_2 : (.methodLink RX8 90 yX8_isRow : Cond) ∈ wsX8_booked := mz_mt (mz_ml (mz_mt mz_mh))
set_option maxRecDepth 20000 in
theorem gX8_booked_X8_isRow : GoodIn wsX8_booked (wsV RX8 90 RX8 yX8_isRow wsX8_isRow) := goodIn_app (goodIn_sub (mz_fc mz_i_wsX8_booked_2 (mz_fc mz_i_wsX8_booked_3 (mz_fc mz_i_wsX8_booked_4 (mz_fc mz_i_wsX8_booked_5 mz_fn)))) (by decide +kernel)) ggX8_booked_X8_isRow
theorem dX8_booked_0 : decode cX8_booked 0 = .ok (.aload_n 0, 1) := by decide +kernel
theorem dX8_booked_1 : decode cX8_booked 1 = .ok (.iload_n 1, 1) := by decide +kernel
theorem dX8_booked_2 : decode cX8_booked 2 = .ok (.iload_n 2, 1) := by decide +kernel
theorem dX8_booked_3 : decode cX8_booked 3 = .ok (.invokevirtual 90, 3) := by decide +kernel
theorem dX8_booked_6 : decode cX8_booked 6 = .ok (.ifCond .eq 18, 3) := by decide +kernel
theorem dX8_booked_9 : decode cX8_booked 9 = .ok (.aload_n 0, 1) := by decide +kernel
theorem dX8_booked_10 : decode cX8_booked 10 = .ok (.getfield 17, 3) := by decide +kernel
theorem dX8_booked_13 : decode cX8_booked 13 = .ok (.sipush 128, 3) := by decide +kernel
theorem dX8_booked_16 : decode cX8_booked 16 = .ok (.iload_n 1, 1) := by decide +kernel
theorem dX8_booked_17 : decode cX8_booked 17 = .ok (.imul, 1) := by decide +kernel
theorem dX8_booked_18 : decode cX8_booked 18 = .ok (.iload_n 2, 1) := by decide +kernel
theorem dX8_booked_19 : decode cX8_booked 19 = .ok (.iadd, 1) := by decide +kernel
theorem dX8_booked_20 : decode cX8_booked 20 = .ok (.iaload, 1) := by decide +kernel
theorem dX8_booked_21 : decode cX8_booked 21 = .ok (.goto 4, 3) := by decide +kernel
theorem dX8_booked_24 : decode cX8_booked 24 = .ok (.iconst (-1), 1) := by decide +kernel
theorem dX8_booked_25 : decode cX8_booked 25 = .ok (.ireturn, 1) := by decide +kernel
theorem mz_i_wsX8_told_8 : (.code yX8_isThing cX8_isThing 2 (some .boolean) : Cond) ∈ wsX8_told := mz_mt (mz_ml (mz_mt (mz_mt (mz_mt (mz_mt (mz_mt (mz_mt (mz_mt mz_mh))))))))
theorem mz_i_wsX8_told_3 : (.fieldLink RX8 58 "MadeItSoModel" "many" "I" : Cond) ∈ wsX8_told := mz_mt (mz_ml (mz_mt (mz_mt mz_mh)))
theorem mz_f_wsX8_told_wsX80 : ∀ w ∈ wsX80, w ∈ wsX8_told := fun _ h => mz_mt (mz_mr h)
set_option maxRecDepth 20000 in
theorem ggX8_told_X8_isThing : GoodIn wsX8_told wsX8_isThing := goodIn_sub (mz_fc mz_i_wsX8_told_8 (mz_fa (mz_fc mz_i_wsX8_told_3 mz_fn) (mz_f_wsX8_told_wsX80))) (by decide +kernel)
theorem mz_i_wsX8_told_7 : (.initialized RX8 : Cond) ∈ wsX8_told := mz_mt (mz_ml (mz_mt (mz_mt (mz_mt (mz_mt (mz_mt (mz_mt mz_mh)))))))
theorem mz_i_wsX8_told_6 : (.selects RX8 yX8_isThing yX8_isThing : Cond) ∈ wsX8_told := mz_mt (mz_ml (mz_mt (mz_mt (mz_mt (mz_mt (mz_mt mz_mh))))))
theorem mz_i_wsX8_told_5 : (.instanceMethod yX8_isThing : Cond) ∈ wsX8_told := mz_mt (mz_ml (mz_mt (mz_mt (mz_mt (mz_mt mz_mh)))))
theorem mz_i_wsX8_told_4 : (.methodLink RX8 71 yX8_isThing : Cond) ∈ wsX8_told := mz_mt (mz_ml (mz_mt (mz_mt (mz_mt mz_mh))))
set_option maxRecDepth 20000 in
theorem gX8_told_X8_isThing : GoodIn wsX8_told (wsV RX8 71 RX8 yX8_isThing wsX8_isThing) := goodIn_app (goodIn_sub (mz_fc mz_i_wsX8_told_4 (mz_fc mz_i_wsX8_told_5 (mz_fc mz_i_wsX8_told_6 (mz_fc mz_i_wsX8_told_7 mz_fn)))) (by decide +kernel)) ggX8_told_X8_isThing
theorem mz_i_wsX8_told_12 : (.code yX8_has cX8_has 3 (some .boolean) : Cond) ∈ wsX8_told := mz_mt (mz_ml (mz_mt (mz_mt (mz_mt (mz_mt (mz_mt (mz_mt (mz_mt (mz_mt (mz_mt (mz_mt (mz_mt mz_mh))))))))))))
theorem mz_i_wsX8_told_2 : (.fieldLink RX8 13 "MadeItSoModel" "parents" "[I" : Cond) ∈ wsX8_told := mz_mt (mz_ml (mz_mt mz_mh))
set_option maxRecDepth 20000 in
theorem ggX8_told_X8_has : GoodIn wsX8_told wsX8_has := goodIn_sub (mz_fc mz_i_wsX8_told_12 (mz_fa (mz_fc mz_i_wsX8_told_2 (mz_fc mz_i_wsX8_told_4 (mz_fc mz_i_wsX8_told_5 (mz_fc mz_i_wsX8_told_6 (mz_fc mz_i_wsX8_told_7 (mz_fc mz_i_wsX8_told_8 (mz_fc mz_i_wsX8_told_3 mz_fn))))))) (mz_f_wsX8_told_wsX80))) (by decide +kernel)
theorem mz_i_wsX8_told_11 : (.selects RX8 yX8_has yX8_has : Cond) ∈ wsX8_told := mz_mt (mz_ml (mz_mt (mz_mt (mz_mt (mz_mt (mz_mt (mz_mt (mz_mt (mz_mt (mz_mt (mz_mt mz_mh)))))))))))
theorem mz_i_wsX8_told_10 : (.instanceMethod yX8_has : Cond) ∈ wsX8_told := mz_mt (mz_ml (mz_mt (mz_mt (mz_mt (mz_mt (mz_mt (mz_mt (mz_mt (mz_mt (mz_mt mz_mh))))))))))
theorem mz_i_wsX8_told_9 : (.methodLink RX8 78 yX8_has : Cond) ∈ wsX8_told := mz_mt (mz_ml (mz_mt (mz_mt (mz_mt (mz_mt (mz_mt (mz_mt (mz_mt (mz_mt mz_mh)))))))))
set_option maxRecDepth 20000 in
theorem gX8_told_X8_has : GoodIn wsX8_told (wsV RX8 78 RX8 yX8_has wsX8_has) := goodIn_app (goodIn_sub (mz_fc mz_i_wsX8_told_9 (mz_fc mz_i_wsX8_told_10 (mz_fc mz_i_wsX8_told_11 (mz_fc mz_i_wsX8_told_7 mz_fn)))) (by decide +kernel)) ggX8_told_X8_has
theorem mz_i_wsX8_told_16 : (.code yX8_belowOf cX8_belowOf 8 (some .int) : Cond) ∈ wsX8_told := mz_mt (mz_ml (mz_mt (mz_mt (mz_mt (mz_mt (mz_mt (mz_mt (mz_mt (mz_mt (mz_mt (mz_mt (mz_mt (mz_mt (mz_mt (mz_mt (mz_mt mz_mh))))))))))))))))
theorem mz_i_wsX8_told_20 : (.code yX8_parentsWithout cX8_parentsWithout 4 (some .int) : Cond) ∈ wsX8_told := mz_mt (mz_ml (mz_mt (mz_mt (mz_mt (mz_mt (mz_mt (mz_mt (mz_mt (mz_mt (mz_mt (mz_mt (mz_mt (mz_mt (mz_mt (mz_mt (mz_mt (mz_mt (mz_mt (mz_mt (mz_mt mz_mh))))))))))))))))))))
theorem mz_i_wsX8_told_19 : (.selects RX8 yX8_parentsWithout yX8_parentsWithout : Cond) ∈ wsX8_told := mz_mt (mz_ml (mz_mt (mz_mt (mz_mt (mz_mt (mz_mt (mz_mt (mz_mt (mz_mt (mz_mt (mz_mt (mz_mt (mz_mt (mz_mt (mz_mt (mz_mt (mz_mt (mz_mt (mz_mt mz_mh)))))))))))))))))))
theorem mz_i_wsX8_told_18 : (.instanceMethod yX8_parentsWithout : Cond) ∈ wsX8_told := mz_mt (mz_ml (mz_mt (mz_mt (mz_mt (mz_mt (mz_mt (mz_mt (mz_mt (mz_mt (mz_mt (mz_mt (mz_mt (mz_mt (mz_mt (mz_mt (mz_mt (mz_mt (mz_mt mz_mh))))))))))))))))))
theorem mz_i_wsX8_told_17 : (.methodLink RX8 74 yX8_parentsWithout : Cond) ∈ wsX8_told := mz_mt (mz_ml (mz_mt (mz_mt (mz_mt (mz_mt (mz_mt (mz_mt (mz_mt (mz_mt (mz_mt (mz_mt (mz_mt (mz_mt (mz_mt (mz_mt (mz_mt (mz_mt mz_mh)))))))))))))))))
set_option maxRecDepth 20000 in
theorem ggX8_told_X8_belowOf : GoodIn wsX8_told wsX8_belowOf := goodIn_sub (mz_fc mz_i_wsX8_told_16 (mz_fa (mz_fc mz_i_wsX8_told_3 (mz_fc mz_i_wsX8_told_17 (mz_fc mz_i_wsX8_told_18 (mz_fc mz_i_wsX8_told_19 (mz_fc mz_i_wsX8_told_7 (mz_fc mz_i_wsX8_told_20 (mz_fc mz_i_wsX8_told_2 mz_fn))))))) (mz_f_wsX8_told_wsX80))) (by decide +kernel)
theorem mz_i_wsX8_told_15 : (.selects RX8 yX8_belowOf yX8_belowOf : Cond) ∈ wsX8_told := mz_mt (mz_ml (mz_mt (mz_mt (mz_mt (mz_mt (mz_mt (mz_mt (mz_mt (mz_mt (mz_mt (mz_mt (mz_mt (mz_mt (mz_mt (mz_mt mz_mh)))))))))))))))
theorem mz_i_wsX8_told_14 : (.instanceMethod yX8_belowOf : Cond) ∈ wsX8_told := mz_mt (mz_ml (mz_mt (mz_mt (mz_mt (mz_mt (mz_mt (mz_mt (mz_mt (mz_mt (mz_mt (mz_mt (mz_mt (mz_mt (mz_mt mz_mh))))))))))))))
theorem mz_i_wsX8_told_13 : (.methodLink RX8 82 yX8_belowOf : Cond) ∈ wsX8_told := mz_mt (mz_ml (mz_mt (mz_mt (mz_mt (mz_mt (mz_mt (mz_mt (mz_mt (mz_mt (mz_mt (mz_mt (mz_mt (mz_mt mz_mh)))))))))))))
set_option maxRecDepth 20000 in
theorem gX8_told_X8_belowOf : GoodIn wsX8_told (wsV RX8 82 RX8 yX8_belowOf wsX8_belowOf) := goodIn_app (goodIn_sub (mz_fc mz_i_wsX8_told_13 (mz_fc mz_i_wsX8_told_14 (mz_fc mz_i_wsX8_told_15 (mz_fc mz_i_wsX8_told_7 mz_fn)))) (by decide +kernel)) ggX8_told_X8_belowOf
theorem dX8_told_0 : decode cX8_told 0 = .ok (.aload_n 0, 1) := by decide +kernel
theorem dX8_told_1 : decode cX8_told 1 = .ok (.iload_n 1, 1) := by decide +kernel
theorem dX8_told_2 : decode cX8_told 2 = .ok (.invokevirtual 71, 3) := by decide +kernel
theorem dX8_told_5 : decode cX8_told 5 = .ok (.ifCond .ne 5, 3) := by decide +kernel
theorem dX8_told_8 : decode cX8_told 8 = .ok (.iconst (-1), 1) := by decide +kernel
theorem dX8_told_9 : decode cX8_told 9 = .ok (.ireturn, 1) := by decide +kernel
theorem dX8_told_10 : decode cX8_told 10 = .ok (.iconst 0, 1) := by decide +kernel
theorem dX8_told_11 : decode cX8_told 11 = .ok (.istore_n 3, 1) := by decide +kernel
theorem dX8_told_12 : decode cX8_told 12 = .ok (.iload_n 2, 1) := by decide +kernel
theorem dX8_told_13 : decode cX8_told 13 = .ok (.tableswitch 101 0 3 #[31, 46, 53, 94], 31) := by decide +kernel
theorem dX8_told_44 : decode cX8_told 44 = .ok (.aload_n 0, 1) := by decide +kernel
theorem dX8_told_45 : decode cX8_told 45 = .ok (.getfield 9, 3) := by decide +kernel
theorem dX8_told_48 : decode cX8_told 48 = .ok (.iload_n 1, 1) := by decide +kernel
theorem dX8_told_49 : decode cX8_told 49 = .ok (.baload, 1) := by decide +kernel
theorem dX8_told_50 : decode cX8_told 50 = .ok (.ifCond .eq 7, 3) := by decide +kernel
theorem dX8_told_53 : decode cX8_told 53 = .ok (.iconst 1, 1) := by decide +kernel
theorem dX8_told_54 : decode cX8_told 54 = .ok (.goto 4, 3) := by decide +kernel
theorem dX8_told_57 : decode cX8_told 57 = .ok (.iconst 0, 1) := by decide +kernel
theorem dX8_told_58 : decode cX8_told 58 = .ok (.ireturn, 1) := by decide +kernel
theorem dX8_told_59 : decode cX8_told 59 = .ok (.aload_n 0, 1) := by decide +kernel
theorem dX8_told_60 : decode cX8_told 60 = .ok (.getfield 13, 3) := by decide +kernel
theorem dX8_told_63 : decode cX8_told 63 = .ok (.iload_n 1, 1) := by decide +kernel
theorem dX8_told_64 : decode cX8_told 64 = .ok (.iaload, 1) := by decide +kernel
theorem dX8_told_65 : decode cX8_told 65 = .ok (.ireturn, 1) := by decide +kernel
theorem dX8_told_66 : decode cX8_told 66 = .ok (.iconst 0, 1) := by decide +kernel
theorem dX8_told_67 : decode cX8_told 67 = .ok (.istore 4, 2) := by decide +kernel
theorem dX8_told_69 : decode cX8_told 69 = .ok (.iload 4, 2) := by decide +kernel
theorem dX8_told_71 : decode cX8_told 71 = .ok (.aload_n 0, 1) := by decide +kernel
theorem dX8_told_72 : decode cX8_told 72 = .ok (.getfield 58, 3) := by decide +kernel
theorem dX8_told_75 : decode cX8_told 75 = .ok (.if_icmp .ge 30, 3) := by decide +kernel
theorem dX8_told_78 : decode cX8_told 78 = .ok (.iload_n 3, 1) := by decide +kernel
theorem dX8_told_79 : decode cX8_told 79 = .ok (.aload_n 0, 1) := by decide +kernel
theorem dX8_told_80 : decode cX8_told 80 = .ok (.iload_n 1, 1) := by decide +kernel
theorem dX8_told_81 : decode cX8_told 81 = .ok (.iload 4, 2) := by decide +kernel
theorem dX8_told_83 : decode cX8_told 83 = .ok (.invokevirtual 78, 3) := by decide +kernel
theorem dX8_told_86 : decode cX8_told 86 = .ok (.ifCond .eq 10, 3) := by decide +kernel
theorem dX8_told_89 : decode cX8_told 89 = .ok (.iconst 1, 1) := by decide +kernel
theorem dX8_told_90 : decode cX8_told 90 = .ok (.iload 4, 2) := by decide +kernel
theorem dX8_told_92 : decode cX8_told 92 = .ok (.ishl, 1) := by decide +kernel
theorem dX8_told_93 : decode cX8_told 93 = .ok (.goto 4, 3) := by decide +kernel
theorem dX8_told_96 : decode cX8_told 96 = .ok (.iconst 0, 1) := by decide +kernel
theorem dX8_told_97 : decode cX8_told 97 = .ok (.ior, 1) := by decide +kernel
theorem dX8_told_98 : decode cX8_told 98 = .ok (.istore_n 3, 1) := by decide +kernel
theorem dX8_told_99 : decode cX8_told 99 = .ok (.iinc 4 1, 3) := by decide +kernel
theorem dX8_told_102 : decode cX8_told 102 = .ok (.goto (-33), 3) := by decide +kernel
theorem dX8_told_105 : decode cX8_told 105 = .ok (.iload_n 3, 1) := by decide +kernel
theorem dX8_told_106 : decode cX8_told 106 = .ok (.ireturn, 1) := by decide +kernel
theorem dX8_told_107 : decode cX8_told 107 = .ok (.aload_n 0, 1) := by decide +kernel
theorem dX8_told_108 : decode cX8_told 108 = .ok (.iload_n 1, 1) := by decide +kernel
theorem dX8_told_109 : decode cX8_told 109 = .ok (.iconst 0, 1) := by decide +kernel
theorem dX8_told_110 : decode cX8_told 110 = .ok (.invokevirtual 82, 3) := by decide +kernel
theorem dX8_told_113 : decode cX8_told 113 = .ok (.ireturn, 1) := by decide +kernel
theorem dX8_told_114 : decode cX8_told 114 = .ok (.iconst (-1), 1) := by decide +kernel
theorem dX8_told_115 : decode cX8_told 115 = .ok (.ireturn, 1) := by decide +kernel
theorem mz_i_wsX8_weight_6 : (.code yX8_isSetting cX8_isSetting 2 (some .boolean) : Cond) ∈ wsX8_weight := mz_mt (mz_ml (mz_ml (mz_mt (mz_mt (mz_mt (mz_mt (mz_mt mz_mh)))))))
theorem mz_i_wsX8_weight_12 : (.fieldLink RX8 58 "MadeItSoModel" "many" "I" : Cond) ∈ wsX8_weight := mz_mt (mz_ml (mz_ml (mz_mt (mz_mt (mz_mt (mz_mt (mz_mt (mz_mt (mz_mt (mz_mt (mz_mt (mz_mt (mz_mt mz_mh)))))))))))))
theorem mz_i_wsX8_weight_11 : (.code yX8_isHeap cX8_isHeap 2 (some .boolean) : Cond) ∈ wsX8_weight := mz_mt (mz_ml (mz_ml (mz_mt (mz_mt (mz_mt (mz_mt (mz_mt (mz_mt (mz_mt (mz_mt (mz_mt (mz_mt mz_mh))))))))))))
theorem mz_i_wsX8_weight_5 : (.initialized RX8 : Cond) ∈ wsX8_weight := mz_mt (mz_ml (mz_ml (mz_mt (mz_mt (mz_mt (mz_mt mz_mh))))))
theorem mz_i_wsX8_weight_10 : (.selects RX8 yX8_isHeap yX8_isHeap : Cond) ∈ wsX8_weight := mz_mt (mz_ml (mz_ml (mz_mt (mz_mt (mz_mt (mz_mt (mz_mt (mz_mt (mz_mt (mz_mt (mz_mt mz_mh)))))))))))
theorem mz_i_wsX8_weight_9 : (.instanceMethod yX8_isHeap : Cond) ∈ wsX8_weight := mz_mt (mz_ml (mz_ml (mz_mt (mz_mt (mz_mt (mz_mt (mz_mt (mz_mt (mz_mt (mz_mt mz_mh))))))))))
theorem mz_i_wsX8_weight_8 : (.methodLink RX8 63 yX8_isHeap : Cond) ∈ wsX8_weight := mz_mt (mz_ml (mz_ml (mz_mt (mz_mt (mz_mt (mz_mt (mz_mt (mz_mt (mz_mt mz_mh)))))))))
theorem mz_i_wsX8_weight_7 : (.constant RX8 62 (65536) : Cond) ∈ wsX8_weight := mz_mt (mz_ml (mz_ml (mz_mt (mz_mt (mz_mt (mz_mt (mz_mt (mz_mt mz_mh))))))))
theorem mz_f_wsX8_weight_wsX80 : ∀ w ∈ wsX80, w ∈ wsX8_weight := fun _ h => mz_mt (mz_mr h)
set_option maxRecDepth 20000 in
theorem ggX8_weight_X8_isSetting : GoodIn wsX8_weight wsX8_isSetting := goodIn_sub (mz_fc mz_i_wsX8_weight_6 (mz_fa (mz_fc mz_i_wsX8_weight_7 (mz_fc mz_i_wsX8_weight_8 (mz_fc mz_i_wsX8_weight_9 (mz_fc mz_i_wsX8_weight_10 (mz_fc mz_i_wsX8_weight_5 (mz_fc mz_i_wsX8_weight_11 (mz_fc mz_i_wsX8_weight_12 mz_fn))))))) (mz_f_wsX8_weight_wsX80))) (by decide +kernel)
theorem mz_i_wsX8_weight_4 : (.selects RX8 yX8_isSetting yX8_isSetting : Cond) ∈ wsX8_weight := mz_mt (mz_ml (mz_ml (mz_mt (mz_mt (mz_mt mz_mh)))))
theorem mz_i_wsX8_weight_3 : (.instanceMethod yX8_isSetting : Cond) ∈ wsX8_weight := mz_mt (mz_ml (mz_ml (mz_mt (mz_mt mz_mh))))
theorem mz_i_wsX8_weight_2 : (.methodLink RX8 102 yX8_isSetting : Cond) ∈ wsX8_weight := mz_mt (mz_ml (mz_ml (mz_mt mz_mh)))
set_option maxRecDepth 20000 in
theorem gX8_weight_X8_isSetting : GoodIn wsX8_weight (wsV RX8 102 RX8 yX8_isSetting wsX8_isSetting) := goodIn_app (goodIn_sub (mz_fc mz_i_wsX8_weight_2 (mz_fc mz_i_wsX8_weight_3 (mz_fc mz_i_wsX8_weight_4 (mz_fc mz_i_wsX8_weight_5 mz_fn)))) (by decide +kernel)) ggX8_weight_X8_isSetting
theorem mz_i_wsX8_weight_16 : (.code yX8_sum cX8_sum 6 (some .long) : Cond) ∈ wsX8_weight := mz_mt (mz_ml (mz_ml (mz_mt (mz_mt (mz_mt (mz_mt (mz_mt (mz_mt (mz_mt (mz_mt (mz_mt (mz_mt (mz_mt (mz_mt (mz_mt (mz_mt (mz_mt mz_mh)))))))))))))))))
theorem mz_i_wsX8_weight_27 : (.fieldLink RX8 17 "MadeItSoModel" "books" "[I" : Cond) ∈ wsX8_weight := mz_mt (mz_ml (mz_mr (mz_mt (mz_mt mz_mh))))
theorem mz_i_wsX8_weight_26 : (.fieldLink RX8 13 "MadeItSoModel" "parents" "[I" : Cond) ∈ wsX8_weight := mz_mt (mz_ml (mz_mr (mz_mt mz_mh)))
theorem mz_i_wsX8_weight_25 : (.code yX8_partsOf cX8_partsOf 6 (some .int) : Cond) ∈ wsX8_weight := mz_mt (mz_ml (mz_mr mz_mh))
theorem mz_i_wsX8_weight_24 : (.selects RX8 yX8_partsOf yX8_partsOf : Cond) ∈ wsX8_weight := mz_mt (mz_ml (mz_ml (mz_mt (mz_mt (mz_mt (mz_mt (mz_mt (mz_mt (mz_mt (mz_mt (mz_mt (mz_mt (mz_mt (mz_mt (mz_mt (mz_mt (mz_mt (mz_mt (mz_mt (mz_mt (mz_mt (mz_mt (mz_mt (mz_mt (mz_mt mz_mh)))))))))))))))))))))))))
theorem mz_i_wsX8_weight_23 : (.instanceMethod yX8_partsOf : Cond) ∈ wsX8_weight := mz_mt (mz_ml (mz_ml (mz_mt (mz_mt (mz_mt (mz_mt (mz_mt (mz_mt (mz_mt (mz_mt (mz_mt (mz_mt (mz_mt (mz_mt (mz_mt (mz_mt (mz_mt (mz_mt (mz_mt (mz_mt (mz_mt (mz_mt (mz_mt (mz_mt mz_mh))))))))))))))))))))))))
theorem mz_i_wsX8_weight_22 : (.methodLink RX8 93 yX8_partsOf : Cond) ∈ wsX8_weight := mz_mt (mz_ml (mz_ml (mz_mt (mz_mt (mz_mt (mz_mt (mz_mt (mz_mt (mz_mt (mz_mt (mz_mt (mz_mt (mz_mt (mz_mt (mz_mt (mz_mt (mz_mt (mz_mt (mz_mt (mz_mt (mz_mt (mz_mt (mz_mt mz_mh)))))))))))))))))))))))
theorem mz_i_wsX8_weight_21 : (.constantLong RX8 96 (100) : Cond) ∈ wsX8_weight := mz_mt (mz_ml (mz_ml (mz_mt (mz_mt (mz_mt (mz_mt (mz_mt (mz_mt (mz_mt (mz_mt (mz_mt (mz_mt (mz_mt (mz_mt (mz_mt (mz_mt (mz_mt (mz_mt (mz_mt (mz_mt (mz_mt (mz_mt mz_mh))))))))))))))))))))))
theorem mz_i_wsX8_weight_20 : (.code yX8_weightOf cX8_weightOf 7 (some .long) : Cond) ∈ wsX8_weight := mz_mt (mz_ml (mz_ml (mz_mt (mz_mt (mz_mt (mz_mt (mz_mt (mz_mt (mz_mt (mz_mt (mz_mt (mz_mt (mz_mt (mz_mt (mz_mt (mz_mt (mz_mt (mz_mt (mz_mt (mz_mt (mz_mt mz_mh)))))))))))))))))))))
theorem mz_i_wsX8_weight_19 : (.selects RX8 yX8_weightOf yX8_weightOf : Cond) ∈ wsX8_weight := mz_mt (mz_ml (mz_ml (mz_mt (mz_mt (mz_mt (mz_mt (mz_mt (mz_mt (mz_mt (mz_mt (mz_mt (mz_mt (mz_mt (mz_mt (mz_mt (mz_mt (mz_mt (mz_mt (mz_mt (mz_mt mz_mh))))))))))))))))))))
theorem mz_i_wsX8_weight_18 : (.instanceMethod yX8_weightOf : Cond) ∈ wsX8_weight := mz_mt (mz_ml (mz_ml (mz_mt (mz_mt (mz_mt (mz_mt (mz_mt (mz_mt (mz_mt (mz_mt (mz_mt (mz_mt (mz_mt (mz_mt (mz_mt (mz_mt (mz_mt (mz_mt (mz_mt mz_mh)))))))))))))))))))
theorem mz_i_wsX8_weight_17 : (.methodLink RX8 98 yX8_weightOf : Cond) ∈ wsX8_weight := mz_mt (mz_ml (mz_ml (mz_mt (mz_mt (mz_mt (mz_mt (mz_mt (mz_mt (mz_mt (mz_mt (mz_mt (mz_mt (mz_mt (mz_mt (mz_mt (mz_mt (mz_mt (mz_mt mz_mh))))))))))))))))))
set_option maxRecDepth 20000 in
theorem ggX8_weight_X8_sum : GoodIn wsX8_weight wsX8_sum := goodIn_sub (mz_fc mz_i_wsX8_weight_16 (mz_fa (mz_fc mz_i_wsX8_weight_12 (mz_fc mz_i_wsX8_weight_17 (mz_fc mz_i_wsX8_weight_18 (mz_fc mz_i_wsX8_weight_19 (mz_fc mz_i_wsX8_weight_5 (mz_fc mz_i_wsX8_weight_20 (mz_fc mz_i_wsX8_weight_21 (mz_fc mz_i_wsX8_weight_22 (mz_fc mz_i_wsX8_weight_23 (mz_fc mz_i_wsX8_weight_24 (mz_fc mz_i_wsX8_weight_25 (mz_fc mz_i_wsX8_weight_26 (mz_fc mz_i_wsX8_weight_27 mz_fn))))))))))))) (mz_f_wsX8_weight_wsX80))) (by decide +kernel)
theorem mz_i_wsX8_weight_15 : (.selects RX8 yX8_sum yX8_sum : Cond) ∈ wsX8_weight := mz_mt (mz_ml (mz_ml (mz_mt (mz_mt (mz_mt (mz_mt (mz_mt (mz_mt (mz_mt (mz_mt (mz_mt (mz_mt (mz_mt (mz_mt (mz_mt (mz_mt mz_mh))))))))))))))))
theorem mz_i_wsX8_weight_14 : (.instanceMethod yX8_sum : Cond) ∈ wsX8_weight := mz_mt (mz_ml (mz_ml (mz_mt (mz_mt (mz_mt (mz_mt (mz_mt (mz_mt (mz_mt (mz_mt (mz_mt (mz_mt (mz_mt (mz_mt (mz_mt mz_mh)))))))))))))))
theorem mz_i_wsX8_weight_13 : (.methodLink RX8 105 yX8_sum : Cond) ∈ wsX8_weight := mz_mt (mz_ml (mz_ml (mz_mt (mz_mt (mz_mt (mz_mt (mz_mt (mz_mt (mz_mt (mz_mt (mz_mt (mz_mt (mz_mt (mz_mt mz_mh))))))))))))))
set_option maxRecDepth 20000 in
theorem gX8_weight_X8_sum : GoodIn wsX8_weight (wsV RX8 105 RX8 yX8_sum wsX8_sum) := goodIn_app (goodIn_sub (mz_fc mz_i_wsX8_weight_13 (mz_fc mz_i_wsX8_weight_14 (mz_fc mz_i_wsX8_weight_15 (mz_fc mz_i_wsX8_weight_5 mz_fn)))) (by decide +kernel)) ggX8_weight_X8_sum
theorem dX8_weight_0 : decode cX8_weight 0 = .ok (.aload_n 0, 1) := by decide +kernel
theorem dX8_weight_1 : decode cX8_weight 1 = .ok (.iload_n 1, 1) := by decide +kernel
theorem dX8_weight_2 : decode cX8_weight 2 = .ok (.invokevirtual 102, 3) := by decide +kernel
theorem dX8_weight_5 : decode cX8_weight 5 = .ok (.ifCond .eq 20, 3) := by decide +kernel
theorem dX8_weight_8 : decode cX8_weight 8 = .ok (.aload_n 0, 1) := by decide +kernel
theorem dX8_weight_9 : decode cX8_weight 9 = .ok (.iload_n 2, 1) := by decide +kernel
theorem dX8_weight_10 : decode cX8_weight 10 = .ok (.invokevirtual 102, 3) := by decide +kernel
theorem dX8_weight_13 : decode cX8_weight 13 = .ok (.ifCond .eq 12, 3) := by decide +kernel
theorem dX8_weight_16 : decode cX8_weight 16 = .ok (.aload_n 0, 1) := by decide +kernel
theorem dX8_weight_17 : decode cX8_weight 17 = .ok (.iload_n 1, 1) := by decide +kernel
theorem dX8_weight_18 : decode cX8_weight 18 = .ok (.iload_n 2, 1) := by decide +kernel
theorem dX8_weight_19 : decode cX8_weight 19 = .ok (.invokevirtual 105, 3) := by decide +kernel
theorem dX8_weight_22 : decode cX8_weight 22 = .ok (.goto 6, 3) := by decide +kernel
theorem dX8_weight_25 : decode cX8_weight 25 = .ok (.ldc2_w 108, 3) := by decide +kernel
theorem dX8_weight_28 : decode cX8_weight 28 = .ok (.lreturn, 1) := by decide +kernel
theorem mz_i_wsX8_chance_8 : (.code yX8_isSetting cX8_isSetting 2 (some .boolean) : Cond) ∈ wsX8_chance := mz_mt (mz_ml (mz_ml (mz_mt (mz_mt (mz_mt (mz_mt (mz_mt (mz_mt (mz_mt mz_mh)))))))))
theorem mz_i_wsX8_chance_3 : (.fieldLink RX8 58 "MadeItSoModel" "many" "I" : Cond) ∈ wsX8_chance := mz_mt (mz_ml (mz_ml (mz_mt (mz_mt mz_mh))))
theorem mz_i_wsX8_chance_13 : (.code yX8_isHeap cX8_isHeap 2 (some .boolean) : Cond) ∈ wsX8_chance := mz_mt (mz_ml (mz_ml (mz_mt (mz_mt (mz_mt (mz_mt (mz_mt (mz_mt (mz_mt (mz_mt (mz_mt (mz_mt (mz_mt (mz_mt mz_mh))))))))))))))
theorem mz_i_wsX8_chance_7 : (.initialized RX8 : Cond) ∈ wsX8_chance := mz_mt (mz_ml (mz_ml (mz_mt (mz_mt (mz_mt (mz_mt (mz_mt (mz_mt mz_mh))))))))
theorem mz_i_wsX8_chance_12 : (.selects RX8 yX8_isHeap yX8_isHeap : Cond) ∈ wsX8_chance := mz_mt (mz_ml (mz_ml (mz_mt (mz_mt (mz_mt (mz_mt (mz_mt (mz_mt (mz_mt (mz_mt (mz_mt (mz_mt (mz_mt mz_mh)))))))))))))
theorem mz_i_wsX8_chance_11 : (.instanceMethod yX8_isHeap : Cond) ∈ wsX8_chance := mz_mt (mz_ml (mz_ml (mz_mt (mz_mt (mz_mt (mz_mt (mz_mt (mz_mt (mz_mt (mz_mt (mz_mt (mz_mt mz_mh))))))))))))
theorem mz_i_wsX8_chance_10 : (.methodLink RX8 63 yX8_isHeap : Cond) ∈ wsX8_chance := mz_mt (mz_ml (mz_ml (mz_mt (mz_mt (mz_mt (mz_mt (mz_mt (mz_mt (mz_mt (mz_mt (mz_mt mz_mh)))))))))))
theorem mz_i_wsX8_chance_9 : (.constant RX8 62 (65536) : Cond) ∈ wsX8_chance := mz_mt (mz_ml (mz_ml (mz_mt (mz_mt (mz_mt (mz_mt (mz_mt (mz_mt (mz_mt (mz_mt mz_mh))))))))))
theorem mz_f_wsX8_chance_wsX80 : ∀ w ∈ wsX80, w ∈ wsX8_chance := fun _ h => mz_mt (mz_mr h)
set_option maxRecDepth 20000 in
theorem ggX8_chance_X8_isSetting : GoodIn wsX8_chance wsX8_isSetting := goodIn_sub (mz_fc mz_i_wsX8_chance_8 (mz_fa (mz_fc mz_i_wsX8_chance_9 (mz_fc mz_i_wsX8_chance_10 (mz_fc mz_i_wsX8_chance_11 (mz_fc mz_i_wsX8_chance_12 (mz_fc mz_i_wsX8_chance_7 (mz_fc mz_i_wsX8_chance_13 (mz_fc mz_i_wsX8_chance_3 mz_fn))))))) (mz_f_wsX8_chance_wsX80))) (by decide +kernel)
theorem mz_i_wsX8_chance_6 : (.selects RX8 yX8_isSetting yX8_isSetting : Cond) ∈ wsX8_chance := mz_mt (mz_ml (mz_ml (mz_mt (mz_mt (mz_mt (mz_mt (mz_mt mz_mh)))))))
theorem mz_i_wsX8_chance_5 : (.instanceMethod yX8_isSetting : Cond) ∈ wsX8_chance := mz_mt (mz_ml (mz_ml (mz_mt (mz_mt (mz_mt (mz_mt mz_mh))))))
theorem mz_i_wsX8_chance_4 : (.methodLink RX8 102 yX8_isSetting : Cond) ∈ wsX8_chance := mz_mt (mz_ml (mz_ml (mz_mt (mz_mt (mz_mt mz_mh)))))
set_option maxRecDepth 20000 in
theorem gX8_chance_X8_isSetting : GoodIn wsX8_chance (wsV RX8 102 RX8 yX8_isSetting wsX8_isSetting) := goodIn_app (goodIn_sub (mz_fc mz_i_wsX8_chance_4 (mz_fc mz_i_wsX8_chance_5 (mz_fc mz_i_wsX8_chance_6 (mz_fc mz_i_wsX8_chance_7 mz_fn)))) (by decide +kernel)) ggX8_chance_X8_isSetting
theorem mz_i_wsX8_chance_17 : (.code yX8_sum cX8_sum 6 (some .long) : Cond) ∈ wsX8_chance := mz_mt (mz_ml (mz_ml (mz_mt (mz_mt (mz_mt (mz_mt (mz_mt (mz_mt (mz_mt (mz_mt (mz_mt (mz_mt (mz_mt (mz_mt (mz_mt (mz_mt (mz_mt (mz_mt mz_mh))))))))))))))))))
theorem mz_i_wsX8_chance_28 : (.fieldLink RX8 17 "MadeItSoModel" "books" "[I" : Cond) ∈ wsX8_chance := mz_mt (mz_ml (mz_mr (mz_mt (mz_mt (mz_mt mz_mh)))))
theorem mz_i_wsX8_chance_27 : (.fieldLink RX8 13 "MadeItSoModel" "parents" "[I" : Cond) ∈ wsX8_chance := mz_mt (mz_ml (mz_mr (mz_mt (mz_mt mz_mh))))
theorem mz_i_wsX8_chance_26 : (.code yX8_partsOf cX8_partsOf 6 (some .int) : Cond) ∈ wsX8_chance := mz_mt (mz_ml (mz_mr (mz_mt mz_mh)))
theorem mz_i_wsX8_chance_25 : (.selects RX8 yX8_partsOf yX8_partsOf : Cond) ∈ wsX8_chance := mz_mt (mz_ml (mz_mr mz_mh))
theorem mz_i_wsX8_chance_24 : (.instanceMethod yX8_partsOf : Cond) ∈ wsX8_chance := mz_mt (mz_ml (mz_ml (mz_mt (mz_mt (mz_mt (mz_mt (mz_mt (mz_mt (mz_mt (mz_mt (mz_mt (mz_mt (mz_mt (mz_mt (mz_mt (mz_mt (mz_mt (mz_mt (mz_mt (mz_mt (mz_mt (mz_mt (mz_mt (mz_mt (mz_mt mz_mh)))))))))))))))))))))))))
theorem mz_i_wsX8_chance_23 : (.methodLink RX8 93 yX8_partsOf : Cond) ∈ wsX8_chance := mz_mt (mz_ml (mz_ml (mz_mt (mz_mt (mz_mt (mz_mt (mz_mt (mz_mt (mz_mt (mz_mt (mz_mt (mz_mt (mz_mt (mz_mt (mz_mt (mz_mt (mz_mt (mz_mt (mz_mt (mz_mt (mz_mt (mz_mt (mz_mt (mz_mt mz_mh))))))))))))))))))))))))
theorem mz_i_wsX8_chance_22 : (.constantLong RX8 96 (100) : Cond) ∈ wsX8_chance := mz_mt (mz_ml (mz_ml (mz_mt (mz_mt (mz_mt (mz_mt (mz_mt (mz_mt (mz_mt (mz_mt (mz_mt (mz_mt (mz_mt (mz_mt (mz_mt (mz_mt (mz_mt (mz_mt (mz_mt (mz_mt (mz_mt (mz_mt (mz_mt mz_mh)))))))))))))))))))))))
theorem mz_i_wsX8_chance_21 : (.code yX8_weightOf cX8_weightOf 7 (some .long) : Cond) ∈ wsX8_chance := mz_mt (mz_ml (mz_ml (mz_mt (mz_mt (mz_mt (mz_mt (mz_mt (mz_mt (mz_mt (mz_mt (mz_mt (mz_mt (mz_mt (mz_mt (mz_mt (mz_mt (mz_mt (mz_mt (mz_mt (mz_mt (mz_mt (mz_mt mz_mh))))))))))))))))))))))
theorem mz_i_wsX8_chance_20 : (.selects RX8 yX8_weightOf yX8_weightOf : Cond) ∈ wsX8_chance := mz_mt (mz_ml (mz_ml (mz_mt (mz_mt (mz_mt (mz_mt (mz_mt (mz_mt (mz_mt (mz_mt (mz_mt (mz_mt (mz_mt (mz_mt (mz_mt (mz_mt (mz_mt (mz_mt (mz_mt (mz_mt (mz_mt mz_mh)))))))))))))))))))))
theorem mz_i_wsX8_chance_19 : (.instanceMethod yX8_weightOf : Cond) ∈ wsX8_chance := mz_mt (mz_ml (mz_ml (mz_mt (mz_mt (mz_mt (mz_mt (mz_mt (mz_mt (mz_mt (mz_mt (mz_mt (mz_mt (mz_mt (mz_mt (mz_mt (mz_mt (mz_mt (mz_mt (mz_mt (mz_mt mz_mh))))))))))))))))))))
theorem mz_i_wsX8_chance_18 : (.methodLink RX8 98 yX8_weightOf : Cond) ∈ wsX8_chance := mz_mt (mz_ml (mz_ml (mz_mt (mz_mt (mz_mt (mz_mt (mz_mt (mz_mt (mz_mt (mz_mt (mz_mt (mz_mt (mz_mt (mz_mt (mz_mt (mz_mt (mz_mt (mz_mt (mz_mt mz_mh)))))))))))))))))))
set_option maxRecDepth 20000 in
theorem ggX8_chance_X8_sum : GoodIn wsX8_chance wsX8_sum := goodIn_sub (mz_fc mz_i_wsX8_chance_17 (mz_fa (mz_fc mz_i_wsX8_chance_3 (mz_fc mz_i_wsX8_chance_18 (mz_fc mz_i_wsX8_chance_19 (mz_fc mz_i_wsX8_chance_20 (mz_fc mz_i_wsX8_chance_7 (mz_fc mz_i_wsX8_chance_21 (mz_fc mz_i_wsX8_chance_22 (mz_fc mz_i_wsX8_chance_23 (mz_fc mz_i_wsX8_chance_24 (mz_fc mz_i_wsX8_chance_25 (mz_fc mz_i_wsX8_chance_26 (mz_fc mz_i_wsX8_chance_27 (mz_fc mz_i_wsX8_chance_28 mz_fn))))))))))))) (mz_f_wsX8_chance_wsX80))) (by decide +kernel)
theorem mz_i_wsX8_chance_16 : (.selects RX8 yX8_sum yX8_sum : Cond) ∈ wsX8_chance := mz_mt (mz_ml (mz_ml (mz_mt (mz_mt (mz_mt (mz_mt (mz_mt (mz_mt (mz_mt (mz_mt (mz_mt (mz_mt (mz_mt (mz_mt (mz_mt (mz_mt (mz_mt mz_mh)))))))))))))))))
theorem mz_i_wsX8_chance_15 : (.instanceMethod yX8_sum : Cond) ∈ wsX8_chance := mz_mt (mz_ml (mz_ml (mz_mt (mz_mt (mz_mt (mz_mt (mz_mt (mz_mt (mz_mt (mz_mt (mz_mt (mz_mt (mz_mt (mz_mt (mz_mt (mz_mt mz_mh))))))))))))))))
theorem mz_i_wsX8_chance_14 : (.methodLink RX8 105 yX8_sum : Cond) ∈ wsX8_chance := mz_mt (mz_ml (mz_ml (mz_mt (mz_mt (mz_mt (mz_mt (mz_mt (mz_mt (mz_mt (mz_mt (mz_mt (mz_mt (mz_mt (mz_mt (mz_mt mz_mh)))))))))))))))
set_option maxRecDepth 20000 in
theorem gX8_chance_X8_sum : GoodIn wsX8_chance (wsV RX8 105 RX8 yX8_sum wsX8_sum) := goodIn_app (goodIn_sub (mz_fc mz_i_wsX8_chance_14 (mz_fc mz_i_wsX8_chance_15 (mz_fc mz_i_wsX8_chance_16 (mz_fc mz_i_wsX8_chance_7 mz_fn)))) (by decide +kernel)) ggX8_chance_X8_sum
set_option maxRecDepth 20000 in
theorem ggX8_chance_X8_weightOf : GoodIn wsX8_chance wsX8_weightOf := goodIn_sub (mz_fc mz_i_wsX8_chance_21 (mz_fa (mz_fc mz_i_wsX8_chance_3 (mz_fc mz_i_wsX8_chance_22 (mz_fc mz_i_wsX8_chance_23 (mz_fc mz_i_wsX8_chance_24 (mz_fc mz_i_wsX8_chance_25 (mz_fc mz_i_wsX8_chance_7 (mz_fc mz_i_wsX8_chance_26 (mz_fc mz_i_wsX8_chance_27 (mz_fc mz_i_wsX8_chance_28 mz_fn))))))))) (mz_f_wsX8_chance_wsX80))) (by decide +kernel)
set_option maxRecDepth 20000 in
theorem gX8_chance_X8_weightOf : GoodIn wsX8_chance (wsV RX8 98 RX8 yX8_weightOf wsX8_weightOf) := goodIn_app (goodIn_sub (mz_fc mz_i_wsX8_chance_18 (mz_fc mz_i_wsX8_chance_19 (mz_fc mz_i_wsX8_chance_20 (mz_fc mz_i_wsX8_chance_7 mz_fn)))) (by decide +kernel)) ggX8_chance_X8_weightOf
theorem mz_i_wsX8_chance_31 : (.code yX8_shared cX8_shared 10 (some .long) : Cond) ∈ wsX8_chance := mz_mt (mz_ml (mz_mr (mz_mt (mz_mt (mz_mt (mz_mt (mz_mt (mz_mt mz_mh))))))))
set_option maxRecDepth 20000 in
theorem ggX8_chance_X8_shared : GoodIn wsX8_chance wsX8_shared := goodIn_sub (mz_fc mz_i_wsX8_chance_31 (mz_fn)) (by decide +kernel)
theorem mz_i_wsX8_chance_30 : (.static yX8_shared : Cond) ∈ wsX8_chance := mz_mt (mz_ml (mz_mr (mz_mt (mz_mt (mz_mt (mz_mt (mz_mt mz_mh)))))))
theorem mz_i_wsX8_chance_29 : (.methodLink RX8 113 yX8_shared : Cond) ∈ wsX8_chance := mz_mt (mz_ml (mz_mr (mz_mt (mz_mt (mz_mt (mz_mt mz_mh))))))
set_option maxRecDepth 20000 in
theorem gX8_chance_X8_shared : GoodIn wsX8_chance (va_wsS RX8 113 yX8_shared wsX8_shared) := goodIn_app (goodIn_sub (mz_fc mz_i_wsX8_chance_29 (mz_fc mz_i_wsX8_chance_30 (mz_fc mz_i_wsX8_chance_7 mz_fn))) (by decide +kernel)) ggX8_chance_X8_shared
theorem dX8_chance_0 : decode cX8_chance 0 = .ok (.aload_n 0, 1) := by decide +kernel
theorem dX8_chance_1 : decode cX8_chance 1 = .ok (.lconst 0, 1) := by decide +kernel
theorem dX8_chance_2 : decode cX8_chance 2 = .ok (.putfield 110, 3) := by decide +kernel
theorem dX8_chance_5 : decode cX8_chance 5 = .ok (.aload_n 0, 1) := by decide +kernel
theorem dX8_chance_6 : decode cX8_chance 6 = .ok (.lconst 1, 1) := by decide +kernel
theorem dX8_chance_7 : decode cX8_chance 7 = .ok (.putfield 20, 3) := by decide +kernel
theorem dX8_chance_10 : decode cX8_chance 10 = .ok (.aload_n 0, 1) := by decide +kernel
theorem dX8_chance_11 : decode cX8_chance 11 = .ok (.iload_n 1, 1) := by decide +kernel
theorem dX8_chance_12 : decode cX8_chance 12 = .ok (.invokevirtual 102, 3) := by decide +kernel
theorem dX8_chance_15 : decode cX8_chance 15 = .ok (.ifCond .eq 19, 3) := by decide +kernel
theorem dX8_chance_18 : decode cX8_chance 18 = .ok (.aload_n 0, 1) := by decide +kernel
theorem dX8_chance_19 : decode cX8_chance 19 = .ok (.iload_n 2, 1) := by decide +kernel
theorem dX8_chance_20 : decode cX8_chance 20 = .ok (.invokevirtual 102, 3) := by decide +kernel
theorem dX8_chance_23 : decode cX8_chance 23 = .ok (.ifCond .eq 11, 3) := by decide +kernel
theorem dX8_chance_26 : decode cX8_chance 26 = .ok (.aload_n 0, 1) := by decide +kernel
theorem dX8_chance_27 : decode cX8_chance 27 = .ok (.iload_n 3, 1) := by decide +kernel
theorem dX8_chance_28 : decode cX8_chance 28 = .ok (.invokevirtual 102, 3) := by decide +kernel
theorem dX8_chance_31 : decode cX8_chance 31 = .ok (.ifCond .ne 5, 3) := by decide +kernel
theorem dX8_chance_34 : decode cX8_chance 34 = .ok (.iconst (-1), 1) := by decide +kernel
theorem dX8_chance_35 : decode cX8_chance 35 = .ok (.ireturn, 1) := by decide +kernel
theorem dX8_chance_36 : decode cX8_chance 36 = .ok (.aload_n 0, 1) := by decide +kernel
theorem dX8_chance_37 : decode cX8_chance 37 = .ok (.iload_n 2, 1) := by decide +kernel
theorem dX8_chance_38 : decode cX8_chance 38 = .ok (.iload_n 3, 1) := by decide +kernel
theorem dX8_chance_39 : decode cX8_chance 39 = .ok (.invokevirtual 105, 3) := by decide +kernel
theorem dX8_chance_42 : decode cX8_chance 42 = .ok (.lstore 4, 2) := by decide +kernel
theorem dX8_chance_44 : decode cX8_chance 44 = .ok (.lload 4, 2) := by decide +kernel
theorem dX8_chance_46 : decode cX8_chance 46 = .ok (.lconst 0, 1) := by decide +kernel
theorem dX8_chance_47 : decode cX8_chance 47 = .ok (.lcmp, 1) := by decide +kernel
theorem dX8_chance_48 : decode cX8_chance 48 = .ok (.ifCond .ne 5, 3) := by decide +kernel
theorem dX8_chance_51 : decode cX8_chance 51 = .ok (.iconst 0, 1) := by decide +kernel
theorem dX8_chance_52 : decode cX8_chance 52 = .ok (.ireturn, 1) := by decide +kernel
theorem dX8_chance_53 : decode cX8_chance 53 = .ok (.lconst 0, 1) := by decide +kernel
theorem dX8_chance_54 : decode cX8_chance 54 = .ok (.lstore 6, 2) := by decide +kernel
theorem dX8_chance_56 : decode cX8_chance 56 = .ok (.iconst 0, 1) := by decide +kernel
theorem dX8_chance_57 : decode cX8_chance 57 = .ok (.istore 8, 2) := by decide +kernel
theorem dX8_chance_59 : decode cX8_chance 59 = .ok (.iload 8, 2) := by decide +kernel
theorem dX8_chance_61 : decode cX8_chance 61 = .ok (.iconst 1, 1) := by decide +kernel
theorem dX8_chance_62 : decode cX8_chance 62 = .ok (.aload_n 0, 1) := by decide +kernel
theorem dX8_chance_63 : decode cX8_chance 63 = .ok (.getfield 58, 3) := by decide +kernel
theorem dX8_chance_66 : decode cX8_chance 66 = .ok (.ishl, 1) := by decide +kernel
theorem dX8_chance_67 : decode cX8_chance 67 = .ok (.if_icmp .ge 65, 3) := by decide +kernel
theorem dX8_chance_70 : decode cX8_chance 70 = .ok (.iload 8, 2) := by decide +kernel
theorem dX8_chance_72 : decode cX8_chance 72 = .ok (.iload_n 1, 1) := by decide +kernel
theorem dX8_chance_73 : decode cX8_chance 73 = .ok (.bipush 8, 2) := by decide +kernel
theorem dX8_chance_75 : decode cX8_chance 75 = .ok (.ishr, 1) := by decide +kernel
theorem dX8_chance_76 : decode cX8_chance 76 = .ok (.ixor, 1) := by decide +kernel
theorem dX8_chance_77 : decode cX8_chance 77 = .ok (.iload_n 1, 1) := by decide +kernel
theorem dX8_chance_78 : decode cX8_chance 78 = .ok (.iand, 1) := by decide +kernel
theorem dX8_chance_79 : decode cX8_chance 79 = .ok (.sipush 255, 3) := by decide +kernel
theorem dX8_chance_82 : decode cX8_chance 82 = .ok (.iand, 1) := by decide +kernel
theorem dX8_chance_83 : decode cX8_chance 83 = .ok (.ifCond .ne 23, 3) := by decide +kernel
theorem dX8_chance_86 : decode cX8_chance 86 = .ok (.iload 8, 2) := by decide +kernel
theorem dX8_chance_88 : decode cX8_chance 88 = .ok (.iload_n 2, 1) := by decide +kernel
theorem dX8_chance_89 : decode cX8_chance 89 = .ok (.bipush 8, 2) := by decide +kernel
theorem dX8_chance_91 : decode cX8_chance 91 = .ok (.ishr, 1) := by decide +kernel
theorem dX8_chance_92 : decode cX8_chance 92 = .ok (.ixor, 1) := by decide +kernel
theorem dX8_chance_93 : decode cX8_chance 93 = .ok (.iload_n 2, 1) := by decide +kernel
theorem dX8_chance_94 : decode cX8_chance 94 = .ok (.iand, 1) := by decide +kernel
theorem dX8_chance_95 : decode cX8_chance 95 = .ok (.sipush 255, 3) := by decide +kernel
theorem dX8_chance_98 : decode cX8_chance 98 = .ok (.iand, 1) := by decide +kernel
theorem dX8_chance_99 : decode cX8_chance 99 = .ok (.ifCond .ne 7, 3) := by decide +kernel
theorem dX8_chance_102 : decode cX8_chance 102 = .ok (.iconst 1, 1) := by decide +kernel
theorem dX8_chance_103 : decode cX8_chance 103 = .ok (.goto 4, 3) := by decide +kernel
theorem dX8_chance_106 : decode cX8_chance 106 = .ok (.iconst 0, 1) := by decide +kernel
theorem dX8_chance_107 : decode cX8_chance 107 = .ok (.istore 9, 2) := by decide +kernel
theorem dX8_chance_109 : decode cX8_chance 109 = .ok (.iload 9, 2) := by decide +kernel
theorem dX8_chance_111 : decode cX8_chance 111 = .ok (.ifCond .eq 15, 3) := by decide +kernel
theorem dX8_chance_114 : decode cX8_chance 114 = .ok (.lload 6, 2) := by decide +kernel
theorem dX8_chance_116 : decode cX8_chance 116 = .ok (.aload_n 0, 1) := by decide +kernel
theorem dX8_chance_117 : decode cX8_chance 117 = .ok (.iload 8, 2) := by decide +kernel
theorem dX8_chance_119 : decode cX8_chance 119 = .ok (.iload_n 3, 1) := by decide +kernel
theorem dX8_chance_120 : decode cX8_chance 120 = .ok (.invokevirtual 98, 3) := by decide +kernel
theorem dX8_chance_123 : decode cX8_chance 123 = .ok (.ladd, 1) := by decide +kernel
theorem dX8_chance_124 : decode cX8_chance 124 = .ok (.lstore 6, 2) := by decide +kernel
theorem dX8_chance_126 : decode cX8_chance 126 = .ok (.iinc 8 1, 3) := by decide +kernel
theorem dX8_chance_129 : decode cX8_chance 129 = .ok (.goto (-70), 3) := by decide +kernel
theorem dX8_chance_132 : decode cX8_chance 132 = .ok (.lload 6, 2) := by decide +kernel
theorem dX8_chance_134 : decode cX8_chance 134 = .ok (.lload 4, 2) := by decide +kernel
theorem dX8_chance_136 : decode cX8_chance 136 = .ok (.invokestatic 113, 3) := by decide +kernel
theorem dX8_chance_139 : decode cX8_chance 139 = .ok (.lstore 8, 2) := by decide +kernel
theorem dX8_chance_141 : decode cX8_chance 141 = .ok (.aload_n 0, 1) := by decide +kernel
theorem dX8_chance_142 : decode cX8_chance 142 = .ok (.lload 6, 2) := by decide +kernel
theorem dX8_chance_144 : decode cX8_chance 144 = .ok (.lload 8, 2) := by decide +kernel
theorem dX8_chance_146 : decode cX8_chance 146 = .ok (.ldiv, 1) := by decide +kernel
theorem dX8_chance_147 : decode cX8_chance 147 = .ok (.putfield 110, 3) := by decide +kernel
theorem dX8_chance_150 : decode cX8_chance 150 = .ok (.aload_n 0, 1) := by decide +kernel
theorem dX8_chance_151 : decode cX8_chance 151 = .ok (.lload 4, 2) := by decide +kernel
theorem dX8_chance_153 : decode cX8_chance 153 = .ok (.lload 8, 2) := by decide +kernel
theorem dX8_chance_155 : decode cX8_chance 155 = .ok (.ldiv, 1) := by decide +kernel
theorem dX8_chance_156 : decode cX8_chance 156 = .ok (.putfield 20, 3) := by decide +kernel
theorem dX8_chance_159 : decode cX8_chance 159 = .ok (.iconst 1, 1) := by decide +kernel
theorem dX8_chance_160 : decode cX8_chance 160 = .ok (.ireturn, 1) := by decide +kernel
theorem dX8_above_0 : decode cX8_above 0 = .ok (.aload_n 0, 1) := by decide +kernel
theorem dX8_above_1 : decode cX8_above 1 = .ok (.getfield 110, 3) := by decide +kernel
theorem dX8_above_4 : decode cX8_above 4 = .ok (.lreturn, 1) := by decide +kernel
theorem dX8_below_0 : decode cX8_below 0 = .ok (.aload_n 0, 1) := by decide +kernel
theorem dX8_below_1 : decode cX8_below 1 = .ok (.getfield 20, 3) := by decide +kernel
theorem dX8_below_4 : decode cX8_below 4 = .ok (.lreturn, 1) := by decide +kernel
theorem mz_i_wsX8_bars_5 : (.code yX8_isHeap cX8_isHeap 2 (some .boolean) : Cond) ∈ wsX8_bars := mz_mt (mz_ml (mz_ml (mz_mt (mz_mt (mz_mt (mz_mt mz_mh))))))
theorem mz_i_wsX8_bars_6 : (.fieldLink RX8 58 "MadeItSoModel" "many" "I" : Cond) ∈ wsX8_bars := mz_mt (mz_ml (mz_ml (mz_mt (mz_mt (mz_mt (mz_mt (mz_mt mz_mh)))))))
theorem mz_f_wsX8_bars_wsX80 : ∀ w ∈ wsX80, w ∈ wsX8_bars := fun _ h => mz_mt (mz_mr h)
set_option maxRecDepth 20000 in
theorem ggX8_bars_X8_isHeap : GoodIn wsX8_bars wsX8_isHeap := goodIn_sub (mz_fc mz_i_wsX8_bars_5 (mz_fa (mz_fc mz_i_wsX8_bars_6 mz_fn) (mz_f_wsX8_bars_wsX80))) (by decide +kernel)
theorem mz_i_wsX8_bars_4 : (.initialized RX8 : Cond) ∈ wsX8_bars := mz_mt (mz_ml (mz_ml (mz_mt (mz_mt (mz_mt mz_mh)))))
theorem mz_i_wsX8_bars_3 : (.selects RX8 yX8_isHeap yX8_isHeap : Cond) ∈ wsX8_bars := mz_mt (mz_ml (mz_ml (mz_mt (mz_mt mz_mh))))
theorem mz_i_wsX8_bars_2 : (.instanceMethod yX8_isHeap : Cond) ∈ wsX8_bars := mz_mt (mz_ml (mz_ml (mz_mt mz_mh)))
theorem mz_i_wsX8_bars_1 : (.methodLink RX8 63 yX8_isHeap : Cond) ∈ wsX8_bars := mz_mt (mz_ml (mz_ml mz_mh))
set_option maxRecDepth 20000 in
theorem gX8_bars_X8_isHeap : GoodIn wsX8_bars (wsV RX8 63 RX8 yX8_isHeap wsX8_isHeap) := goodIn_app (goodIn_sub (mz_fc mz_i_wsX8_bars_1 (mz_fc mz_i_wsX8_bars_2 (mz_fc mz_i_wsX8_bars_3 (mz_fc mz_i_wsX8_bars_4 mz_fn)))) (by decide +kernel)) ggX8_bars_X8_isHeap
theorem mz_i_wsX8_bars_10 : (.code yX8_barred cX8_barred 8 (some .boolean) : Cond) ∈ wsX8_bars := mz_mt (mz_ml (mz_ml (mz_mt (mz_mt (mz_mt (mz_mt (mz_mt (mz_mt (mz_mt (mz_mt (mz_mt mz_mh)))))))))))
theorem mz_i_wsX8_bars_32 : (.selects RX8 yX8_belowWithout yX8_belowWithout : Cond) ∈ wsX8_bars := mz_mt (mz_ml (mz_mr (mz_mt (mz_mt (mz_mt (mz_mt (mz_mt (mz_mt (mz_mt mz_mh)))))))))
theorem mz_i_wsX8_bars_31 : (.instanceMethod yX8_belowWithout : Cond) ∈ wsX8_bars := mz_mt (mz_ml (mz_mr (mz_mt (mz_mt (mz_mt (mz_mt (mz_mt (mz_mt mz_mh))))))))
theorem mz_i_wsX8_bars_30 : (.methodLink RX8 121 yX8_belowWithout : Cond) ∈ wsX8_bars := mz_mt (mz_ml (mz_mr (mz_mt (mz_mt (mz_mt (mz_mt (mz_mt mz_mh)))))))
theorem mz_i_wsX8_bars_29 : (.code yX8_isOpen cX8_isOpen 10 (some .boolean) : Cond) ∈ wsX8_bars := mz_mt (mz_ml (mz_mr (mz_mt (mz_mt (mz_mt (mz_mt mz_mh))))))
theorem mz_i_wsX8_bars_28 : (.selects RX8 yX8_isOpen yX8_isOpen : Cond) ∈ wsX8_bars := mz_mt (mz_ml (mz_mr (mz_mt (mz_mt (mz_mt mz_mh)))))
theorem mz_i_wsX8_bars_27 : (.instanceMethod yX8_isOpen : Cond) ∈ wsX8_bars := mz_mt (mz_ml (mz_mr (mz_mt (mz_mt mz_mh))))
theorem mz_i_wsX8_bars_26 : (.methodLink RX8 124 yX8_isOpen : Cond) ∈ wsX8_bars := mz_mt (mz_ml (mz_mr (mz_mt mz_mh)))
theorem mz_i_wsX8_bars_25 : (.fieldLink RX8 13 "MadeItSoModel" "parents" "[I" : Cond) ∈ wsX8_bars := mz_mt (mz_ml (mz_mr mz_mh))
theorem mz_i_wsX8_bars_24 : (.code yX8_parentsWithout cX8_parentsWithout 4 (some .int) : Cond) ∈ wsX8_bars := mz_mt (mz_ml (mz_ml (mz_mt (mz_mt (mz_mt (mz_mt (mz_mt (mz_mt (mz_mt (mz_mt (mz_mt (mz_mt (mz_mt (mz_mt (mz_mt (mz_mt (mz_mt (mz_mt (mz_mt (mz_mt (mz_mt (mz_mt (mz_mt (mz_mt (mz_mt mz_mh)))))))))))))))))))))))))
theorem mz_i_wsX8_bars_23 : (.selects RX8 yX8_parentsWithout yX8_parentsWithout : Cond) ∈ wsX8_bars := mz_mt (mz_ml (mz_ml (mz_mt (mz_mt (mz_mt (mz_mt (mz_mt (mz_mt (mz_mt (mz_mt (mz_mt (mz_mt (mz_mt (mz_mt (mz_mt (mz_mt (mz_mt (mz_mt (mz_mt (mz_mt (mz_mt (mz_mt (mz_mt (mz_mt mz_mh))))))))))))))))))))))))
theorem mz_i_wsX8_bars_22 : (.instanceMethod yX8_parentsWithout : Cond) ∈ wsX8_bars := mz_mt (mz_ml (mz_ml (mz_mt (mz_mt (mz_mt (mz_mt (mz_mt (mz_mt (mz_mt (mz_mt (mz_mt (mz_mt (mz_mt (mz_mt (mz_mt (mz_mt (mz_mt (mz_mt (mz_mt (mz_mt (mz_mt (mz_mt (mz_mt mz_mh)))))))))))))))))))))))
theorem mz_i_wsX8_bars_21 : (.methodLink RX8 74 yX8_parentsWithout : Cond) ∈ wsX8_bars := mz_mt (mz_ml (mz_ml (mz_mt (mz_mt (mz_mt (mz_mt (mz_mt (mz_mt (mz_mt (mz_mt (mz_mt (mz_mt (mz_mt (mz_mt (mz_mt (mz_mt (mz_mt (mz_mt (mz_mt (mz_mt (mz_mt (mz_mt mz_mh))))))))))))))))))))))
theorem mz_i_wsX8_bars_20 : (.code yX8_isArrow cX8_isArrow 5 (some .boolean) : Cond) ∈ wsX8_bars := mz_mt (mz_ml (mz_ml (mz_mt (mz_mt (mz_mt (mz_mt (mz_mt (mz_mt (mz_mt (mz_mt (mz_mt (mz_mt (mz_mt (mz_mt (mz_mt (mz_mt (mz_mt (mz_mt (mz_mt (mz_mt (mz_mt mz_mh)))))))))))))))))))))
theorem mz_i_wsX8_bars_19 : (.selects RX8 yX8_isArrow yX8_isArrow : Cond) ∈ wsX8_bars := mz_mt (mz_ml (mz_ml (mz_mt (mz_mt (mz_mt (mz_mt (mz_mt (mz_mt (mz_mt (mz_mt (mz_mt (mz_mt (mz_mt (mz_mt (mz_mt (mz_mt (mz_mt (mz_mt (mz_mt (mz_mt mz_mh))))))))))))))))))))
theorem mz_i_wsX8_bars_18 : (.instanceMethod yX8_isArrow : Cond) ∈ wsX8_bars := mz_mt (mz_ml (mz_ml (mz_mt (mz_mt (mz_mt (mz_mt (mz_mt (mz_mt (mz_mt (mz_mt (mz_mt (mz_mt (mz_mt (mz_mt (mz_mt (mz_mt (mz_mt (mz_mt (mz_mt mz_mh)))))))))))))))))))
theorem mz_i_wsX8_bars_17 : (.methodLink RX8 117 yX8_isArrow : Cond) ∈ wsX8_bars := mz_mt (mz_ml (mz_ml (mz_mt (mz_mt (mz_mt (mz_mt (mz_mt (mz_mt (mz_mt (mz_mt (mz_mt (mz_mt (mz_mt (mz_mt (mz_mt (mz_mt (mz_mt (mz_mt mz_mh))))))))))))))))))
theorem mz_i_wsX8_bars_16 : (.fieldLink RX8 27 "MadeItSoModel" "tried" "[I" : Cond) ∈ wsX8_bars := mz_mt (mz_ml (mz_ml (mz_mt (mz_mt (mz_mt (mz_mt (mz_mt (mz_mt (mz_mt (mz_mt (mz_mt (mz_mt (mz_mt (mz_mt (mz_mt (mz_mt (mz_mt mz_mh)))))))))))))))))
theorem mz_i_wsX8_bars_15 : (.fieldLink RX8 24 "MadeItSoModel" "way" "[I" : Cond) ∈ wsX8_bars := mz_mt (mz_ml (mz_ml (mz_mt (mz_mt (mz_mt (mz_mt (mz_mt (mz_mt (mz_mt (mz_mt (mz_mt (mz_mt (mz_mt (mz_mt (mz_mt (mz_mt mz_mh))))))))))))))))
theorem mz_i_wsX8_bars_14 : (.code yX8_joins cX8_joins 11 (some .boolean) : Cond) ∈ wsX8_bars := mz_mt (mz_ml (mz_ml (mz_mt (mz_mt (mz_mt (mz_mt (mz_mt (mz_mt (mz_mt (mz_mt (mz_mt (mz_mt (mz_mt (mz_mt (mz_mt mz_mh)))))))))))))))
theorem mz_i_wsX8_bars_13 : (.selects RX8 yX8_joins yX8_joins : Cond) ∈ wsX8_bars := mz_mt (mz_ml (mz_ml (mz_mt (mz_mt (mz_mt (mz_mt (mz_mt (mz_mt (mz_mt (mz_mt (mz_mt (mz_mt (mz_mt (mz_mt mz_mh))))))))))))))
theorem mz_i_wsX8_bars_12 : (.instanceMethod yX8_joins : Cond) ∈ wsX8_bars := mz_mt (mz_ml (mz_ml (mz_mt (mz_mt (mz_mt (mz_mt (mz_mt (mz_mt (mz_mt (mz_mt (mz_mt (mz_mt (mz_mt mz_mh)))))))))))))
theorem mz_i_wsX8_bars_11 : (.methodLink RX8 127 yX8_joins : Cond) ∈ wsX8_bars := mz_mt (mz_ml (mz_ml (mz_mt (mz_mt (mz_mt (mz_mt (mz_mt (mz_mt (mz_mt (mz_mt (mz_mt (mz_mt mz_mh))))))))))))
theorem mz_i_wsX8_bars_33 : (.code yX8_belowWithout cX8_belowWithout 8 (some .int) : Cond) ∈ wsX8_bars := mz_mt (mz_ml (mz_mr (mz_mt (mz_mt (mz_mt (mz_mt (mz_mt (mz_mt (mz_mt (mz_mt mz_mh))))))))))
set_option maxRecDepth 20000 in
theorem ggX8_bars_X8_barred : GoodIn wsX8_bars wsX8_barred := goodIn_sub (mz_fc mz_i_wsX8_bars_10 (mz_fa (mz_fa (mz_fc mz_i_wsX8_bars_6 (mz_fc mz_i_wsX8_bars_11 (mz_fc mz_i_wsX8_bars_12 (mz_fc mz_i_wsX8_bars_13 (mz_fc mz_i_wsX8_bars_4 (mz_fc mz_i_wsX8_bars_14 (mz_fc mz_i_wsX8_bars_15 (mz_fc mz_i_wsX8_bars_16 (mz_fc mz_i_wsX8_bars_17 (mz_fc mz_i_wsX8_bars_18 (mz_fc mz_i_wsX8_bars_19 (mz_fc mz_i_wsX8_bars_20 (mz_fc mz_i_wsX8_bars_21 (mz_fc mz_i_wsX8_bars_22 (mz_fc mz_i_wsX8_bars_23 (mz_fc mz_i_wsX8_bars_24 (mz_fc mz_i_wsX8_bars_25 (mz_fc mz_i_wsX8_bars_26 (mz_fc mz_i_wsX8_bars_27 (mz_fc mz_i_wsX8_bars_28 (mz_fc mz_i_wsX8_bars_29 (mz_fc mz_i_wsX8_bars_30 (mz_fc mz_i_wsX8_bars_31 (mz_fc mz_i_wsX8_bars_32 mz_fn)))))))))))))))))))))))) (mz_fc mz_i_wsX8_bars_33 mz_fn)) (mz_f_wsX8_bars_wsX80))) (by decide +kernel)
theorem mz_i_wsX8_bars_9 : (.selects RX8 yX8_barred yX8_barred : Cond) ∈ wsX8_bars := mz_mt (mz_ml (mz_ml (mz_mt (mz_mt (mz_mt (mz_mt (mz_mt (mz_mt (mz_mt (mz_mt mz_mh))))))))))
theorem mz_i_wsX8_bars_8 : (.instanceMethod yX8_barred : Cond) ∈ wsX8_bars := mz_mt (mz_ml (mz_ml (mz_mt (mz_mt (mz_mt (mz_mt (mz_mt (mz_mt (mz_mt mz_mh)))))))))
theorem mz_i_wsX8_bars_7 : (.methodLink RX8 131 yX8_barred : Cond) ∈ wsX8_bars := mz_mt (mz_ml (mz_ml (mz_mt (mz_mt (mz_mt (mz_mt (mz_mt (mz_mt mz_mh))))))))
set_option maxRecDepth 20000 in
theorem gX8_bars_X8_barred : GoodIn wsX8_bars (wsV RX8 131 RX8 yX8_barred wsX8_barred) := goodIn_app (goodIn_sub (mz_fc mz_i_wsX8_bars_7 (mz_fc mz_i_wsX8_bars_8 (mz_fc mz_i_wsX8_bars_9 (mz_fc mz_i_wsX8_bars_4 mz_fn)))) (by decide +kernel)) ggX8_bars_X8_barred
theorem dX8_bars_0 : decode cX8_bars 0 = .ok (.aload_n 0, 1) := by decide +kernel
theorem dX8_bars_1 : decode cX8_bars 1 = .ok (.iload_n 1, 1) := by decide +kernel
theorem dX8_bars_2 : decode cX8_bars 2 = .ok (.invokevirtual 63, 3) := by decide +kernel
theorem dX8_bars_5 : decode cX8_bars 5 = .ok (.ifCond .eq 37, 3) := by decide +kernel
theorem dX8_bars_8 : decode cX8_bars 8 = .ok (.aload_n 0, 1) := by decide +kernel
theorem dX8_bars_9 : decode cX8_bars 9 = .ok (.iload_n 2, 1) := by decide +kernel
theorem dX8_bars_10 : decode cX8_bars 10 = .ok (.invokevirtual 63, 3) := by decide +kernel
theorem dX8_bars_13 : decode cX8_bars 13 = .ok (.ifCond .eq 29, 3) := by decide +kernel
theorem dX8_bars_16 : decode cX8_bars 16 = .ok (.aload_n 0, 1) := by decide +kernel
theorem dX8_bars_17 : decode cX8_bars 17 = .ok (.iload_n 3, 1) := by decide +kernel
theorem dX8_bars_18 : decode cX8_bars 18 = .ok (.invokevirtual 63, 3) := by decide +kernel
theorem dX8_bars_21 : decode cX8_bars 21 = .ok (.ifCond .eq 21, 3) := by decide +kernel
theorem dX8_bars_24 : decode cX8_bars 24 = .ok (.iload_n 1, 1) := by decide +kernel
theorem dX8_bars_25 : decode cX8_bars 25 = .ok (.iload_n 2, 1) := by decide +kernel
theorem dX8_bars_26 : decode cX8_bars 26 = .ok (.iand, 1) := by decide +kernel
theorem dX8_bars_27 : decode cX8_bars 27 = .ok (.ifCond .ne 15, 3) := by decide +kernel
theorem dX8_bars_30 : decode cX8_bars 30 = .ok (.iload_n 1, 1) := by decide +kernel
theorem dX8_bars_31 : decode cX8_bars 31 = .ok (.iload_n 3, 1) := by decide +kernel
theorem dX8_bars_32 : decode cX8_bars 32 = .ok (.iand, 1) := by decide +kernel
theorem dX8_bars_33 : decode cX8_bars 33 = .ok (.ifCond .ne 9, 3) := by decide +kernel
theorem dX8_bars_36 : decode cX8_bars 36 = .ok (.iload_n 2, 1) := by decide +kernel
theorem dX8_bars_37 : decode cX8_bars 37 = .ok (.iload_n 3, 1) := by decide +kernel
theorem dX8_bars_38 : decode cX8_bars 38 = .ok (.iand, 1) := by decide +kernel
theorem dX8_bars_39 : decode cX8_bars 39 = .ok (.ifCond .eq 5, 3) := by decide +kernel
theorem dX8_bars_42 : decode cX8_bars 42 = .ok (.iconst 0, 1) := by decide +kernel
theorem dX8_bars_43 : decode cX8_bars 43 = .ok (.ireturn, 1) := by decide +kernel
theorem dX8_bars_44 : decode cX8_bars 44 = .ok (.aload_n 0, 1) := by decide +kernel
theorem dX8_bars_45 : decode cX8_bars 45 = .ok (.iload_n 1, 1) := by decide +kernel
theorem dX8_bars_46 : decode cX8_bars 46 = .ok (.iload_n 2, 1) := by decide +kernel
theorem dX8_bars_47 : decode cX8_bars 47 = .ok (.iload_n 3, 1) := by decide +kernel
theorem dX8_bars_48 : decode cX8_bars 48 = .ok (.iconst 0, 1) := by decide +kernel
theorem dX8_bars_49 : decode cX8_bars 49 = .ok (.iconst 0, 1) := by decide +kernel
theorem dX8_bars_50 : decode cX8_bars 50 = .ok (.invokevirtual 131, 3) := by decide +kernel
theorem dX8_bars_53 : decode cX8_bars 53 = .ok (.ireturn, 1) := by decide +kernel
theorem mz_i_wsX8_works_6 : (.code yX8_isThing cX8_isThing 2 (some .boolean) : Cond) ∈ wsX8_works := mz_mt (mz_ml (mz_ml (mz_mt (mz_mt (mz_mt (mz_mt (mz_mt mz_mh)))))))
theorem mz_i_wsX8_works_7 : (.fieldLink RX8 58 "MadeItSoModel" "many" "I" : Cond) ∈ wsX8_works := mz_mt (mz_ml (mz_ml (mz_mt (mz_mt (mz_mt (mz_mt (mz_mt (mz_mt mz_mh))))))))
theorem mz_f_wsX8_works_wsX80 : ∀ w ∈ wsX80, w ∈ wsX8_works := fun _ h => mz_mt (mz_mr h)
set_option maxRecDepth 20000 in
theorem ggX8_works_X8_isThing : GoodIn wsX8_works wsX8_isThing := goodIn_sub (mz_fc mz_i_wsX8_works_6 (mz_fa (mz_fc mz_i_wsX8_works_7 mz_fn) (mz_f_wsX8_works_wsX80))) (by decide +kernel)
theorem mz_i_wsX8_works_5 : (.initialized RX8 : Cond) ∈ wsX8_works := mz_mt (mz_ml (mz_ml (mz_mt (mz_mt (mz_mt (mz_mt mz_mh))))))
theorem mz_i_wsX8_works_4 : (.selects RX8 yX8_isThing yX8_isThing : Cond) ∈ wsX8_works := mz_mt (mz_ml (mz_ml (mz_mt (mz_mt (mz_mt mz_mh)))))
theorem mz_i_wsX8_works_3 : (.instanceMethod yX8_isThing : Cond) ∈ wsX8_works := mz_mt (mz_ml (mz_ml (mz_mt (mz_mt mz_mh))))
theorem mz_i_wsX8_works_2 : (.methodLink RX8 71 yX8_isThing : Cond) ∈ wsX8_works := mz_mt (mz_ml (mz_ml (mz_mt mz_mh)))
set_option maxRecDepth 20000 in
theorem gX8_works_X8_isThing : GoodIn wsX8_works (wsV RX8 71 RX8 yX8_isThing wsX8_isThing) := goodIn_app (goodIn_sub (mz_fc mz_i_wsX8_works_2 (mz_fc mz_i_wsX8_works_3 (mz_fc mz_i_wsX8_works_4 (mz_fc mz_i_wsX8_works_5 mz_fn)))) (by decide +kernel)) ggX8_works_X8_isThing
theorem mz_i_wsX8_works_11 : (.code yX8_seen cX8_seen 3 (some .int) : Cond) ∈ wsX8_works := mz_mt (mz_ml (mz_ml (mz_mt (mz_mt (mz_mt (mz_mt (mz_mt (mz_mt (mz_mt (mz_mt (mz_mt (mz_mt mz_mh))))))))))))
theorem mz_i_wsX8_works_12 : (.fieldLink RX8 9 "MadeItSoModel" "isSeen" "[Z" : Cond) ∈ wsX8_works := mz_mt (mz_ml (mz_ml (mz_mt (mz_mt (mz_mt (mz_mt (mz_mt (mz_mt (mz_mt (mz_mt (mz_mt (mz_mt (mz_mt mz_mh)))))))))))))
set_option maxRecDepth 20000 in
theorem ggX8_works_X8_seen : GoodIn wsX8_works wsX8_seen := goodIn_sub (mz_fc mz_i_wsX8_works_11 (mz_fa (mz_fc mz_i_wsX8_works_7 (mz_fc mz_i_wsX8_works_12 mz_fn)) (mz_f_wsX8_works_wsX80))) (by decide +kernel)
theorem mz_i_wsX8_works_10 : (.selects RX8 yX8_seen yX8_seen : Cond) ∈ wsX8_works := mz_mt (mz_ml (mz_ml (mz_mt (mz_mt (mz_mt (mz_mt (mz_mt (mz_mt (mz_mt (mz_mt (mz_mt mz_mh)))))))))))
theorem mz_i_wsX8_works_9 : (.instanceMethod yX8_seen : Cond) ∈ wsX8_works := mz_mt (mz_ml (mz_ml (mz_mt (mz_mt (mz_mt (mz_mt (mz_mt (mz_mt (mz_mt (mz_mt mz_mh))))))))))
theorem mz_i_wsX8_works_8 : (.methodLink RX8 134 yX8_seen : Cond) ∈ wsX8_works := mz_mt (mz_ml (mz_ml (mz_mt (mz_mt (mz_mt (mz_mt (mz_mt (mz_mt (mz_mt mz_mh)))))))))
set_option maxRecDepth 20000 in
theorem gX8_works_X8_seen : GoodIn wsX8_works (wsV RX8 134 RX8 yX8_seen wsX8_seen) := goodIn_app (goodIn_sub (mz_fc mz_i_wsX8_works_8 (mz_fc mz_i_wsX8_works_9 (mz_fc mz_i_wsX8_works_10 (mz_fc mz_i_wsX8_works_5 mz_fn)))) (by decide +kernel)) ggX8_works_X8_seen
theorem mz_i_wsX8_works_16 : (.code yX8_barred cX8_barred 8 (some .boolean) : Cond) ∈ wsX8_works := mz_mt (mz_ml (mz_ml (mz_mt (mz_mt (mz_mt (mz_mt (mz_mt (mz_mt (mz_mt (mz_mt (mz_mt (mz_mt (mz_mt (mz_mt (mz_mt (mz_mt (mz_mt mz_mh)))))))))))))))))
theorem mz_i_wsX8_works_38 : (.selects RX8 yX8_belowWithout yX8_belowWithout : Cond) ∈ wsX8_works := mz_mt (mz_ml (mz_mr (mz_mt (mz_mt (mz_mt (mz_mt (mz_mt (mz_mt (mz_mt (mz_mt (mz_mt (mz_mt (mz_mt (mz_mt (mz_mt mz_mh)))))))))))))))
theorem mz_i_wsX8_works_37 : (.instanceMethod yX8_belowWithout : Cond) ∈ wsX8_works := mz_mt (mz_ml (mz_mr (mz_mt (mz_mt (mz_mt (mz_mt (mz_mt (mz_mt (mz_mt (mz_mt (mz_mt (mz_mt (mz_mt (mz_mt mz_mh))))))))))))))
theorem mz_i_wsX8_works_36 : (.methodLink RX8 121 yX8_belowWithout : Cond) ∈ wsX8_works := mz_mt (mz_ml (mz_mr (mz_mt (mz_mt (mz_mt (mz_mt (mz_mt (mz_mt (mz_mt (mz_mt (mz_mt (mz_mt (mz_mt mz_mh)))))))))))))
theorem mz_i_wsX8_works_35 : (.code yX8_isOpen cX8_isOpen 10 (some .boolean) : Cond) ∈ wsX8_works := mz_mt (mz_ml (mz_mr (mz_mt (mz_mt (mz_mt (mz_mt (mz_mt (mz_mt (mz_mt (mz_mt (mz_mt (mz_mt mz_mh))))))))))))
theorem mz_i_wsX8_works_34 : (.selects RX8 yX8_isOpen yX8_isOpen : Cond) ∈ wsX8_works := mz_mt (mz_ml (mz_mr (mz_mt (mz_mt (mz_mt (mz_mt (mz_mt (mz_mt (mz_mt (mz_mt (mz_mt mz_mh)))))))))))
theorem mz_i_wsX8_works_33 : (.instanceMethod yX8_isOpen : Cond) ∈ wsX8_works := mz_mt (mz_ml (mz_mr (mz_mt (mz_mt (mz_mt (mz_mt (mz_mt (mz_mt (mz_mt (mz_mt mz_mh))))))))))
theorem mz_i_wsX8_works_32 : (.methodLink RX8 124 yX8_isOpen : Cond) ∈ wsX8_works := mz_mt (mz_ml (mz_mr (mz_mt (mz_mt (mz_mt (mz_mt (mz_mt (mz_mt (mz_mt mz_mh)))))))))
theorem mz_i_wsX8_works_31 : (.fieldLink RX8 13 "MadeItSoModel" "parents" "[I" : Cond) ∈ wsX8_works := mz_mt (mz_ml (mz_mr (mz_mt (mz_mt (mz_mt (mz_mt (mz_mt (mz_mt mz_mh))))))))
theorem mz_i_wsX8_works_30 : (.code yX8_parentsWithout cX8_parentsWithout 4 (some .int) : Cond) ∈ wsX8_works := mz_mt (mz_ml (mz_mr (mz_mt (mz_mt (mz_mt (mz_mt (mz_mt mz_mh)))))))
theorem mz_i_wsX8_works_29 : (.selects RX8 yX8_parentsWithout yX8_parentsWithout : Cond) ∈ wsX8_works := mz_mt (mz_ml (mz_mr (mz_mt (mz_mt (mz_mt (mz_mt mz_mh))))))
theorem mz_i_wsX8_works_28 : (.instanceMethod yX8_parentsWithout : Cond) ∈ wsX8_works := mz_mt (mz_ml (mz_mr (mz_mt (mz_mt (mz_mt mz_mh)))))
theorem mz_i_wsX8_works_27 : (.methodLink RX8 74 yX8_parentsWithout : Cond) ∈ wsX8_works := mz_mt (mz_ml (mz_mr (mz_mt (mz_mt mz_mh))))
theorem mz_i_wsX8_works_26 : (.code yX8_isArrow cX8_isArrow 5 (some .boolean) : Cond) ∈ wsX8_works := mz_mt (mz_ml (mz_mr (mz_mt mz_mh)))
theorem mz_i_wsX8_works_25 : (.selects RX8 yX8_isArrow yX8_isArrow : Cond) ∈ wsX8_works := mz_mt (mz_ml (mz_mr mz_mh))
theorem mz_i_wsX8_works_24 : (.instanceMethod yX8_isArrow : Cond) ∈ wsX8_works := mz_mt (mz_ml (mz_ml (mz_mt (mz_mt (mz_mt (mz_mt (mz_mt (mz_mt (mz_mt (mz_mt (mz_mt (mz_mt (mz_mt (mz_mt (mz_mt (mz_mt (mz_mt (mz_mt (mz_mt (mz_mt (mz_mt (mz_mt (mz_mt (mz_mt (mz_mt mz_mh)))))))))))))))))))))))))
theorem mz_i_wsX8_works_23 : (.methodLink RX8 117 yX8_isArrow : Cond) ∈ wsX8_works := mz_mt (mz_ml (mz_ml (mz_mt (mz_mt (mz_mt (mz_mt (mz_mt (mz_mt (mz_mt (mz_mt (mz_mt (mz_mt (mz_mt (mz_mt (mz_mt (mz_mt (mz_mt (mz_mt (mz_mt (mz_mt (mz_mt (mz_mt (mz_mt (mz_mt mz_mh))))))))))))))))))))))))
theorem mz_i_wsX8_works_22 : (.fieldLink RX8 27 "MadeItSoModel" "tried" "[I" : Cond) ∈ wsX8_works := mz_mt (mz_ml (mz_ml (mz_mt (mz_mt (mz_mt (mz_mt (mz_mt (mz_mt (mz_mt (mz_mt (mz_mt (mz_mt (mz_mt (mz_mt (mz_mt (mz_mt (mz_mt (mz_mt (mz_mt (mz_mt (mz_mt (mz_mt (mz_mt mz_mh)))))))))))))))))))))))
theorem mz_i_wsX8_works_21 : (.fieldLink RX8 24 "MadeItSoModel" "way" "[I" : Cond) ∈ wsX8_works := mz_mt (mz_ml (mz_ml (mz_mt (mz_mt (mz_mt (mz_mt (mz_mt (mz_mt (mz_mt (mz_mt (mz_mt (mz_mt (mz_mt (mz_mt (mz_mt (mz_mt (mz_mt (mz_mt (mz_mt (mz_mt (mz_mt (mz_mt mz_mh))))))))))))))))))))))
theorem mz_i_wsX8_works_20 : (.code yX8_joins cX8_joins 11 (some .boolean) : Cond) ∈ wsX8_works := mz_mt (mz_ml (mz_ml (mz_mt (mz_mt (mz_mt (mz_mt (mz_mt (mz_mt (mz_mt (mz_mt (mz_mt (mz_mt (mz_mt (mz_mt (mz_mt (mz_mt (mz_mt (mz_mt (mz_mt (mz_mt (mz_mt mz_mh)))))))))))))))))))))
theorem mz_i_wsX8_works_19 : (.selects RX8 yX8_joins yX8_joins : Cond) ∈ wsX8_works := mz_mt (mz_ml (mz_ml (mz_mt (mz_mt (mz_mt (mz_mt (mz_mt (mz_mt (mz_mt (mz_mt (mz_mt (mz_mt (mz_mt (mz_mt (mz_mt (mz_mt (mz_mt (mz_mt (mz_mt (mz_mt mz_mh))))))))))))))))))))
theorem mz_i_wsX8_works_18 : (.instanceMethod yX8_joins : Cond) ∈ wsX8_works := mz_mt (mz_ml (mz_ml (mz_mt (mz_mt (mz_mt (mz_mt (mz_mt (mz_mt (mz_mt (mz_mt (mz_mt (mz_mt (mz_mt (mz_mt (mz_mt (mz_mt (mz_mt (mz_mt (mz_mt mz_mh)))))))))))))))))))
theorem mz_i_wsX8_works_17 : (.methodLink RX8 127 yX8_joins : Cond) ∈ wsX8_works := mz_mt (mz_ml (mz_ml (mz_mt (mz_mt (mz_mt (mz_mt (mz_mt (mz_mt (mz_mt (mz_mt (mz_mt (mz_mt (mz_mt (mz_mt (mz_mt (mz_mt (mz_mt (mz_mt mz_mh))))))))))))))))))
theorem mz_i_wsX8_works_39 : (.code yX8_belowWithout cX8_belowWithout 8 (some .int) : Cond) ∈ wsX8_works := mz_mt (mz_ml (mz_mr (mz_mt (mz_mt (mz_mt (mz_mt (mz_mt (mz_mt (mz_mt (mz_mt (mz_mt (mz_mt (mz_mt (mz_mt (mz_mt (mz_mt mz_mh))))))))))))))))
set_option maxRecDepth 20000 in
theorem ggX8_works_X8_barred : GoodIn wsX8_works wsX8_barred := goodIn_sub (mz_fc mz_i_wsX8_works_16 (mz_fa (mz_fa (mz_fc mz_i_wsX8_works_7 (mz_fc mz_i_wsX8_works_17 (mz_fc mz_i_wsX8_works_18 (mz_fc mz_i_wsX8_works_19 (mz_fc mz_i_wsX8_works_5 (mz_fc mz_i_wsX8_works_20 (mz_fc mz_i_wsX8_works_21 (mz_fc mz_i_wsX8_works_22 (mz_fc mz_i_wsX8_works_23 (mz_fc mz_i_wsX8_works_24 (mz_fc mz_i_wsX8_works_25 (mz_fc mz_i_wsX8_works_26 (mz_fc mz_i_wsX8_works_27 (mz_fc mz_i_wsX8_works_28 (mz_fc mz_i_wsX8_works_29 (mz_fc mz_i_wsX8_works_30 (mz_fc mz_i_wsX8_works_31 (mz_fc mz_i_wsX8_works_32 (mz_fc mz_i_wsX8_works_33 (mz_fc mz_i_wsX8_works_34 (mz_fc mz_i_wsX8_works_35 (mz_fc mz_i_wsX8_works_36 (mz_fc mz_i_wsX8_works_37 (mz_fc mz_i_wsX8_works_38 mz_fn)))))))))))))))))))))))) (mz_fc mz_i_wsX8_works_39 mz_fn)) (mz_f_wsX8_works_wsX80))) (by decide +kernel)
theorem mz_i_wsX8_works_15 : (.selects RX8 yX8_barred yX8_barred : Cond) ∈ wsX8_works := mz_mt (mz_ml (mz_ml (mz_mt (mz_mt (mz_mt (mz_mt (mz_mt (mz_mt (mz_mt (mz_mt (mz_mt (mz_mt (mz_mt (mz_mt (mz_mt (mz_mt mz_mh))))))))))))))))
theorem mz_i_wsX8_works_14 : (.instanceMethod yX8_barred : Cond) ∈ wsX8_works := mz_mt (mz_ml (mz_ml (mz_mt (mz_mt (mz_mt (mz_mt (mz_mt (mz_mt (mz_mt (mz_mt (mz_mt (mz_mt (mz_mt (mz_mt (mz_mt mz_mh)))))))))))))))
theorem mz_i_wsX8_works_13 : (.methodLink RX8 131 yX8_barred : Cond) ∈ wsX8_works := mz_mt (mz_ml (mz_ml (mz_mt (mz_mt (mz_mt (mz_mt (mz_mt (mz_mt (mz_mt (mz_mt (mz_mt (mz_mt (mz_mt (mz_mt mz_mh))))))))))))))
set_option maxRecDepth 20000 in
theorem gX8_works_X8_barred : GoodIn wsX8_works (wsV RX8 131 RX8 yX8_barred wsX8_barred) := goodIn_app (goodIn_sub (mz_fc mz_i_wsX8_works_13 (mz_fc mz_i_wsX8_works_14 (mz_fc mz_i_wsX8_works_15 (mz_fc mz_i_wsX8_works_5 mz_fn)))) (by decide +kernel)) ggX8_works_X8_barred
theorem dX8_works_0 : decode cX8_works 0 = .ok (.aload_n 0, 1) := by decide +kernel
theorem dX8_works_1 : decode cX8_works 1 = .ok (.iload_n 1, 1) := by decide +kernel
theorem dX8_works_2 : decode cX8_works 2 = .ok (.invokevirtual 71, 3) := by decide +kernel
theorem dX8_works_5 : decode cX8_works 5 = .ok (.ifCond .eq 16, 3) := by decide +kernel
theorem dX8_works_8 : decode cX8_works 8 = .ok (.aload_n 0, 1) := by decide +kernel
theorem dX8_works_9 : decode cX8_works 9 = .ok (.iload_n 2, 1) := by decide +kernel
theorem dX8_works_10 : decode cX8_works 10 = .ok (.invokevirtual 71, 3) := by decide +kernel
theorem dX8_works_13 : decode cX8_works 13 = .ok (.ifCond .eq 8, 3) := by decide +kernel
theorem dX8_works_16 : decode cX8_works 16 = .ok (.iload_n 1, 1) := by decide +kernel
theorem dX8_works_17 : decode cX8_works 17 = .ok (.iload_n 2, 1) := by decide +kernel
theorem dX8_works_18 : decode cX8_works 18 = .ok (.if_icmp .ne 5, 3) := by decide +kernel
theorem dX8_works_21 : decode cX8_works 21 = .ok (.iconst 0, 1) := by decide +kernel
theorem dX8_works_22 : decode cX8_works 22 = .ok (.ireturn, 1) := by decide +kernel
theorem dX8_works_23 : decode cX8_works 23 = .ok (.aload_n 0, 1) := by decide +kernel
theorem dX8_works_24 : decode cX8_works 24 = .ok (.invokevirtual 134, 3) := by decide +kernel
theorem dX8_works_27 : decode cX8_works 27 = .ok (.iconst 1, 1) := by decide +kernel
theorem dX8_works_28 : decode cX8_works 28 = .ok (.iload_n 1, 1) := by decide +kernel
theorem dX8_works_29 : decode cX8_works 29 = .ok (.ishl, 1) := by decide +kernel
theorem dX8_works_30 : decode cX8_works 30 = .ok (.iconst (-1), 1) := by decide +kernel
theorem dX8_works_31 : decode cX8_works 31 = .ok (.ixor, 1) := by decide +kernel
theorem dX8_works_32 : decode cX8_works 32 = .ok (.iand, 1) := by decide +kernel
theorem dX8_works_33 : decode cX8_works 33 = .ok (.iconst 1, 1) := by decide +kernel
theorem dX8_works_34 : decode cX8_works 34 = .ok (.iload_n 2, 1) := by decide +kernel
theorem dX8_works_35 : decode cX8_works 35 = .ok (.ishl, 1) := by decide +kernel
theorem dX8_works_36 : decode cX8_works 36 = .ok (.iconst (-1), 1) := by decide +kernel
theorem dX8_works_37 : decode cX8_works 37 = .ok (.ixor, 1) := by decide +kernel
theorem dX8_works_38 : decode cX8_works 38 = .ok (.iand, 1) := by decide +kernel
theorem dX8_works_39 : decode cX8_works 39 = .ok (.istore_n 3, 1) := by decide +kernel
theorem dX8_works_40 : decode cX8_works 40 = .ok (.iconst 0, 1) := by decide +kernel
theorem dX8_works_41 : decode cX8_works 41 = .ok (.istore 4, 2) := by decide +kernel
theorem dX8_works_43 : decode cX8_works 43 = .ok (.iload 4, 2) := by decide +kernel
theorem dX8_works_45 : decode cX8_works 45 = .ok (.sipush 256, 3) := by decide +kernel
theorem dX8_works_48 : decode cX8_works 48 = .ok (.if_icmp .ge 47, 3) := by decide +kernel
theorem dX8_works_51 : decode cX8_works 51 = .ok (.aload_n 0, 1) := by decide +kernel
theorem dX8_works_52 : decode cX8_works 52 = .ok (.getfield 30, 3) := by decide +kernel
theorem dX8_works_55 : decode cX8_works 55 = .ok (.iload 4, 2) := by decide +kernel
theorem dX8_works_57 : decode cX8_works 57 = .ok (.iload 4, 2) := by decide +kernel
theorem dX8_works_59 : decode cX8_works 59 = .ok (.iload_n 3, 1) := by decide +kernel
theorem dX8_works_60 : decode cX8_works 60 = .ok (.iconst (-1), 1) := by decide +kernel
theorem dX8_works_61 : decode cX8_works 61 = .ok (.ixor, 1) := by decide +kernel
theorem dX8_works_62 : decode cX8_works 62 = .ok (.iand, 1) := by decide +kernel
theorem dX8_works_63 : decode cX8_works 63 = .ok (.ifCond .ne 24, 3) := by decide +kernel
theorem dX8_works_66 : decode cX8_works 66 = .ok (.aload_n 0, 1) := by decide +kernel
theorem dX8_works_67 : decode cX8_works 67 = .ok (.iconst 1, 1) := by decide +kernel
theorem dX8_works_68 : decode cX8_works 68 = .ok (.iload_n 1, 1) := by decide +kernel
theorem dX8_works_69 : decode cX8_works 69 = .ok (.ishl, 1) := by decide +kernel
theorem dX8_works_70 : decode cX8_works 70 = .ok (.iconst 1, 1) := by decide +kernel
theorem dX8_works_71 : decode cX8_works 71 = .ok (.iload_n 2, 1) := by decide +kernel
theorem dX8_works_72 : decode cX8_works 72 = .ok (.ishl, 1) := by decide +kernel
theorem dX8_works_73 : decode cX8_works 73 = .ok (.iload 4, 2) := by decide +kernel
theorem dX8_works_75 : decode cX8_works 75 = .ok (.iconst 0, 1) := by decide +kernel
theorem dX8_works_76 : decode cX8_works 76 = .ok (.iconst 0, 1) := by decide +kernel
theorem dX8_works_77 : decode cX8_works 77 = .ok (.invokevirtual 131, 3) := by decide +kernel
theorem dX8_works_80 : decode cX8_works 80 = .ok (.ifCond .eq 7, 3) := by decide +kernel
theorem dX8_works_83 : decode cX8_works 83 = .ok (.iconst 1, 1) := by decide +kernel
theorem dX8_works_84 : decode cX8_works 84 = .ok (.goto 4, 3) := by decide +kernel
theorem dX8_works_87 : decode cX8_works 87 = .ok (.iconst 0, 1) := by decide +kernel
theorem dX8_works_88 : decode cX8_works 88 = .ok (.bastore, 1) := by decide +kernel
theorem dX8_works_89 : decode cX8_works 89 = .ok (.iinc 4 1, 3) := by decide +kernel
theorem dX8_works_92 : decode cX8_works 92 = .ok (.goto (-49), 3) := by decide +kernel
theorem dX8_works_95 : decode cX8_works 95 = .ok (.iconst 1, 1) := by decide +kernel
theorem dX8_works_96 : decode cX8_works 96 = .ok (.ireturn, 1) := by decide +kernel
theorem mz_i_wsX8_least_5 : (.code yX8_works cX8_works 5 (some .boolean) : Cond) ∈ wsX8_least := mz_mt (mz_ml (mz_ml (mz_mt (mz_mt (mz_mt (mz_mt mz_mh))))))
theorem mz_i_wsX8_least_28 : (.instanceMethod yX8_isArrow : Cond) ∈ wsX8_least := mz_mt (mz_ml (mz_mr (mz_mt (mz_mt (mz_mt mz_mh)))))
theorem mz_i_wsX8_least_27 : (.methodLink RX8 117 yX8_isArrow : Cond) ∈ wsX8_least := mz_mt (mz_ml (mz_mr (mz_mt (mz_mt mz_mh))))
theorem mz_i_wsX8_least_26 : (.fieldLink RX8 27 "MadeItSoModel" "tried" "[I" : Cond) ∈ wsX8_least := mz_mt (mz_ml (mz_mr (mz_mt mz_mh)))
theorem mz_i_wsX8_least_25 : (.fieldLink RX8 24 "MadeItSoModel" "way" "[I" : Cond) ∈ wsX8_least := mz_mt (mz_ml (mz_mr mz_mh))
theorem mz_i_wsX8_least_24 : (.code yX8_joins cX8_joins 11 (some .boolean) : Cond) ∈ wsX8_least := mz_mt (mz_ml (mz_ml (mz_mt (mz_mt (mz_mt (mz_mt (mz_mt (mz_mt (mz_mt (mz_mt (mz_mt (mz_mt (mz_mt (mz_mt (mz_mt (mz_mt (mz_mt (mz_mt (mz_mt (mz_mt (mz_mt (mz_mt (mz_mt (mz_mt (mz_mt mz_mh)))))))))))))))))))))))))
theorem mz_i_wsX8_least_23 : (.selects RX8 yX8_joins yX8_joins : Cond) ∈ wsX8_least := mz_mt (mz_ml (mz_ml (mz_mt (mz_mt (mz_mt (mz_mt (mz_mt (mz_mt (mz_mt (mz_mt (mz_mt (mz_mt (mz_mt (mz_mt (mz_mt (mz_mt (mz_mt (mz_mt (mz_mt (mz_mt (mz_mt (mz_mt (mz_mt (mz_mt mz_mh))))))))))))))))))))))))
theorem mz_i_wsX8_least_22 : (.instanceMethod yX8_joins : Cond) ∈ wsX8_least := mz_mt (mz_ml (mz_ml (mz_mt (mz_mt (mz_mt (mz_mt (mz_mt (mz_mt (mz_mt (mz_mt (mz_mt (mz_mt (mz_mt (mz_mt (mz_mt (mz_mt (mz_mt (mz_mt (mz_mt (mz_mt (mz_mt (mz_mt (mz_mt mz_mh)))))))))))))))))))))))
theorem mz_i_wsX8_least_21 : (.methodLink RX8 127 yX8_joins : Cond) ∈ wsX8_least := mz_mt (mz_ml (mz_ml (mz_mt (mz_mt (mz_mt (mz_mt (mz_mt (mz_mt (mz_mt (mz_mt (mz_mt (mz_mt (mz_mt (mz_mt (mz_mt (mz_mt (mz_mt (mz_mt (mz_mt (mz_mt (mz_mt (mz_mt mz_mh))))))))))))))))))))))
theorem mz_i_wsX8_least_20 : (.code yX8_barred cX8_barred 8 (some .boolean) : Cond) ∈ wsX8_least := mz_mt (mz_ml (mz_ml (mz_mt (mz_mt (mz_mt (mz_mt (mz_mt (mz_mt (mz_mt (mz_mt (mz_mt (mz_mt (mz_mt (mz_mt (mz_mt (mz_mt (mz_mt (mz_mt (mz_mt (mz_mt (mz_mt mz_mh)))))))))))))))))))))
theorem mz_i_wsX8_least_19 : (.selects RX8 yX8_barred yX8_barred : Cond) ∈ wsX8_least := mz_mt (mz_ml (mz_ml (mz_mt (mz_mt (mz_mt (mz_mt (mz_mt (mz_mt (mz_mt (mz_mt (mz_mt (mz_mt (mz_mt (mz_mt (mz_mt (mz_mt (mz_mt (mz_mt (mz_mt (mz_mt mz_mh))))))))))))))))))))
theorem mz_i_wsX8_least_18 : (.instanceMethod yX8_barred : Cond) ∈ wsX8_least := mz_mt (mz_ml (mz_ml (mz_mt (mz_mt (mz_mt (mz_mt (mz_mt (mz_mt (mz_mt (mz_mt (mz_mt (mz_mt (mz_mt (mz_mt (mz_mt (mz_mt (mz_mt (mz_mt (mz_mt mz_mh)))))))))))))))))))
theorem mz_i_wsX8_least_17 : (.methodLink RX8 131 yX8_barred : Cond) ∈ wsX8_least := mz_mt (mz_ml (mz_ml (mz_mt (mz_mt (mz_mt (mz_mt (mz_mt (mz_mt (mz_mt (mz_mt (mz_mt (mz_mt (mz_mt (mz_mt (mz_mt (mz_mt (mz_mt (mz_mt mz_mh))))))))))))))))))
theorem mz_i_wsX8_least_16 : (.fieldLink RX8 9 "MadeItSoModel" "isSeen" "[Z" : Cond) ∈ wsX8_least := mz_mt (mz_ml (mz_ml (mz_mt (mz_mt (mz_mt (mz_mt (mz_mt (mz_mt (mz_mt (mz_mt (mz_mt (mz_mt (mz_mt (mz_mt (mz_mt (mz_mt (mz_mt mz_mh)))))))))))))))))
theorem mz_i_wsX8_least_15 : (.code yX8_seen cX8_seen 3 (some .int) : Cond) ∈ wsX8_least := mz_mt (mz_ml (mz_ml (mz_mt (mz_mt (mz_mt (mz_mt (mz_mt (mz_mt (mz_mt (mz_mt (mz_mt (mz_mt (mz_mt (mz_mt (mz_mt (mz_mt mz_mh))))))))))))))))
theorem mz_i_wsX8_least_14 : (.selects RX8 yX8_seen yX8_seen : Cond) ∈ wsX8_least := mz_mt (mz_ml (mz_ml (mz_mt (mz_mt (mz_mt (mz_mt (mz_mt (mz_mt (mz_mt (mz_mt (mz_mt (mz_mt (mz_mt (mz_mt (mz_mt mz_mh)))))))))))))))
theorem mz_i_wsX8_least_13 : (.instanceMethod yX8_seen : Cond) ∈ wsX8_least := mz_mt (mz_ml (mz_ml (mz_mt (mz_mt (mz_mt (mz_mt (mz_mt (mz_mt (mz_mt (mz_mt (mz_mt (mz_mt (mz_mt (mz_mt mz_mh))))))))))))))
theorem mz_i_wsX8_least_12 : (.methodLink RX8 134 yX8_seen : Cond) ∈ wsX8_least := mz_mt (mz_ml (mz_ml (mz_mt (mz_mt (mz_mt (mz_mt (mz_mt (mz_mt (mz_mt (mz_mt (mz_mt (mz_mt (mz_mt mz_mh)))))))))))))
theorem mz_i_wsX8_least_11 : (.fieldLink RX8 58 "MadeItSoModel" "many" "I" : Cond) ∈ wsX8_least := mz_mt (mz_ml (mz_ml (mz_mt (mz_mt (mz_mt (mz_mt (mz_mt (mz_mt (mz_mt (mz_mt (mz_mt (mz_mt mz_mh))))))))))))
theorem mz_i_wsX8_least_10 : (.code yX8_isThing cX8_isThing 2 (some .boolean) : Cond) ∈ wsX8_least := mz_mt (mz_ml (mz_ml (mz_mt (mz_mt (mz_mt (mz_mt (mz_mt (mz_mt (mz_mt (mz_mt (mz_mt mz_mh)))))))))))
theorem mz_i_wsX8_least_4 : (.initialized RX8 : Cond) ∈ wsX8_least := mz_mt (mz_ml (mz_ml (mz_mt (mz_mt (mz_mt mz_mh)))))
theorem mz_i_wsX8_least_9 : (.selects RX8 yX8_isThing yX8_isThing : Cond) ∈ wsX8_least := mz_mt (mz_ml (mz_ml (mz_mt (mz_mt (mz_mt (mz_mt (mz_mt (mz_mt (mz_mt (mz_mt mz_mh))))))))))
theorem mz_i_wsX8_least_8 : (.instanceMethod yX8_isThing : Cond) ∈ wsX8_least := mz_mt (mz_ml (mz_ml (mz_mt (mz_mt (mz_mt (mz_mt (mz_mt (mz_mt (mz_mt mz_mh)))))))))
theorem mz_i_wsX8_least_7 : (.methodLink RX8 71 yX8_isThing : Cond) ∈ wsX8_least := mz_mt (mz_ml (mz_ml (mz_mt (mz_mt (mz_mt (mz_mt (mz_mt (mz_mt mz_mh))))))))
theorem mz_i_wsX8_least_6 : (.fieldLink RX8 30 "MadeItSoModel" "isBarring" "[Z" : Cond) ∈ wsX8_least := mz_mt (mz_ml (mz_ml (mz_mt (mz_mt (mz_mt (mz_mt (mz_mt mz_mh)))))))
theorem mz_i_wsX8_least_43 : (.code yX8_belowWithout cX8_belowWithout 8 (some .int) : Cond) ∈ wsX8_least := mz_mt (mz_ml (mz_mr (mz_mt (mz_mt (mz_mt (mz_mt (mz_mt (mz_mt (mz_mt (mz_mt (mz_mt (mz_mt (mz_mt (mz_mt (mz_mt (mz_mt (mz_mt (mz_mt (mz_mt (mz_mt mz_mh))))))))))))))))))))
theorem mz_i_wsX8_least_42 : (.selects RX8 yX8_belowWithout yX8_belowWithout : Cond) ∈ wsX8_least := mz_mt (mz_ml (mz_mr (mz_mt (mz_mt (mz_mt (mz_mt (mz_mt (mz_mt (mz_mt (mz_mt (mz_mt (mz_mt (mz_mt (mz_mt (mz_mt (mz_mt (mz_mt (mz_mt (mz_mt mz_mh)))))))))))))))))))
theorem mz_i_wsX8_least_41 : (.instanceMethod yX8_belowWithout : Cond) ∈ wsX8_least := mz_mt (mz_ml (mz_mr (mz_mt (mz_mt (mz_mt (mz_mt (mz_mt (mz_mt (mz_mt (mz_mt (mz_mt (mz_mt (mz_mt (mz_mt (mz_mt (mz_mt (mz_mt (mz_mt mz_mh))))))))))))))))))
theorem mz_i_wsX8_least_40 : (.methodLink RX8 121 yX8_belowWithout : Cond) ∈ wsX8_least := mz_mt (mz_ml (mz_mr (mz_mt (mz_mt (mz_mt (mz_mt (mz_mt (mz_mt (mz_mt (mz_mt (mz_mt (mz_mt (mz_mt (mz_mt (mz_mt (mz_mt (mz_mt mz_mh)))))))))))))))))
theorem mz_i_wsX8_least_39 : (.code yX8_isOpen cX8_isOpen 10 (some .boolean) : Cond) ∈ wsX8_least := mz_mt (mz_ml (mz_mr (mz_mt (mz_mt (mz_mt (mz_mt (mz_mt (mz_mt (mz_mt (mz_mt (mz_mt (mz_mt (mz_mt (mz_mt (mz_mt (mz_mt mz_mh))))))))))))))))
theorem mz_i_wsX8_least_38 : (.selects RX8 yX8_isOpen yX8_isOpen : Cond) ∈ wsX8_least := mz_mt (mz_ml (mz_mr (mz_mt (mz_mt (mz_mt (mz_mt (mz_mt (mz_mt (mz_mt (mz_mt (mz_mt (mz_mt (mz_mt (mz_mt (mz_mt mz_mh)))))))))))))))
theorem mz_i_wsX8_least_37 : (.instanceMethod yX8_isOpen : Cond) ∈ wsX8_least := mz_mt (mz_ml (mz_mr (mz_mt (mz_mt (mz_mt (mz_mt (mz_mt (mz_mt (mz_mt (mz_mt (mz_mt (mz_mt (mz_mt (mz_mt mz_mh))))))))))))))
theorem mz_i_wsX8_least_36 : (.methodLink RX8 124 yX8_isOpen : Cond) ∈ wsX8_least := mz_mt (mz_ml (mz_mr (mz_mt (mz_mt (mz_mt (mz_mt (mz_mt (mz_mt (mz_mt (mz_mt (mz_mt (mz_mt (mz_mt mz_mh)))))))))))))
theorem mz_i_wsX8_least_35 : (.fieldLink RX8 13 "MadeItSoModel" "parents" "[I" : Cond) ∈ wsX8_least := mz_mt (mz_ml (mz_mr (mz_mt (mz_mt (mz_mt (mz_mt (mz_mt (mz_mt (mz_mt (mz_mt (mz_mt (mz_mt mz_mh))))))))))))
theorem mz_i_wsX8_least_34 : (.code yX8_parentsWithout cX8_parentsWithout 4 (some .int) : Cond) ∈ wsX8_least := mz_mt (mz_ml (mz_mr (mz_mt (mz_mt (mz_mt (mz_mt (mz_mt (mz_mt (mz_mt (mz_mt (mz_mt mz_mh)))))))))))
theorem mz_i_wsX8_least_33 : (.selects RX8 yX8_parentsWithout yX8_parentsWithout : Cond) ∈ wsX8_least := mz_mt (mz_ml (mz_mr (mz_mt (mz_mt (mz_mt (mz_mt (mz_mt (mz_mt (mz_mt (mz_mt mz_mh))))))))))
theorem mz_i_wsX8_least_32 : (.instanceMethod yX8_parentsWithout : Cond) ∈ wsX8_least := mz_mt (mz_ml (mz_mr (mz_mt (mz_mt (mz_mt (mz_mt (mz_mt (mz_mt (mz_mt mz_mh)))))))))
theorem mz_i_wsX8_least_31 : (.methodLink RX8 74 yX8_parentsWithout : Cond) ∈ wsX8_least := mz_mt (mz_ml (mz_mr (mz_mt (mz_mt (mz_mt (mz_mt (mz_mt (mz_mt mz_mh))))))))
theorem mz_i_wsX8_least_30 : (.code yX8_isArrow cX8_isArrow 5 (some .boolean) : Cond) ∈ wsX8_least := mz_mt (mz_ml (mz_mr (mz_mt (mz_mt (mz_mt (mz_mt (mz_mt mz_mh)))))))
theorem mz_i_wsX8_least_29 : (.selects RX8 yX8_isArrow yX8_isArrow : Cond) ∈ wsX8_least := mz_mt (mz_ml (mz_mr (mz_mt (mz_mt (mz_mt (mz_mt mz_mh))))))
theorem mz_f_wsX8_least_wsX80 : ∀ w ∈ wsX80, w ∈ wsX8_least := fun _ h => mz_mt (mz_mr h)
set_option maxRecDepth 20000 in
theorem ggX8_least_X8_works : GoodIn wsX8_least wsX8_works := goodIn_sub (mz_fc mz_i_wsX8_least_5 (mz_fa (mz_fa (mz_fc mz_i_wsX8_least_6 (mz_fc mz_i_wsX8_least_7 (mz_fc mz_i_wsX8_least_8 (mz_fc mz_i_wsX8_least_9 (mz_fc mz_i_wsX8_least_4 (mz_fc mz_i_wsX8_least_10 (mz_fc mz_i_wsX8_least_11 (mz_fc mz_i_wsX8_least_12 (mz_fc mz_i_wsX8_least_13 (mz_fc mz_i_wsX8_least_14 (mz_fc mz_i_wsX8_least_15 (mz_fc mz_i_wsX8_least_16 (mz_fc mz_i_wsX8_least_17 (mz_fc mz_i_wsX8_least_18 (mz_fc mz_i_wsX8_least_19 (mz_fc mz_i_wsX8_least_20 (mz_fc mz_i_wsX8_least_21 (mz_fc mz_i_wsX8_least_22 (mz_fc mz_i_wsX8_least_23 (mz_fc mz_i_wsX8_least_24 (mz_fc mz_i_wsX8_least_25 (mz_fc mz_i_wsX8_least_26 (mz_fc mz_i_wsX8_least_27 (mz_fc mz_i_wsX8_least_28 mz_fn)))))))))))))))))))))))) (mz_fc mz_i_wsX8_least_29 (mz_fc mz_i_wsX8_least_30 (mz_fc mz_i_wsX8_least_31 (mz_fc mz_i_wsX8_least_32 (mz_fc mz_i_wsX8_least_33 (mz_fc mz_i_wsX8_least_34 (mz_fc mz_i_wsX8_least_35 (mz_fc mz_i_wsX8_least_36 (mz_fc mz_i_wsX8_least_37 (mz_fc mz_i_wsX8_least_38 (mz_fc mz_i_wsX8_least_39 (mz_fc mz_i_wsX8_least_40 (mz_fc mz_i_wsX8_least_41 (mz_fc mz_i_wsX8_least_42 (mz_fc mz_i_wsX8_least_43 mz_fn)))))))))))))))) (mz_f_wsX8_least_wsX80))) (by decide +kernel)
theorem mz_i_wsX8_least_3 : (.selects RX8 yX8_works yX8_works : Cond) ∈ wsX8_least := mz_mt (mz_ml (mz_ml (mz_mt (mz_mt mz_mh))))
theorem mz_i_wsX8_least_2 : (.instanceMethod yX8_works : Cond) ∈ wsX8_least := mz_mt (mz_ml (mz_ml (mz_mt mz_mh)))
theorem mz_i_wsX8_least_1 : (.methodLink RX8 138 yX8_works : Cond) ∈ wsX8_least := mz_mt (mz_ml (mz_ml mz_mh))
set_option maxRecDepth 20000 in
theorem gX8_least_X8_works : GoodIn wsX8_least (wsV RX8 138 RX8 yX8_works wsX8_works) := goodIn_app (goodIn_sub (mz_fc mz_i_wsX8_least_1 (mz_fc mz_i_wsX8_least_2 (mz_fc mz_i_wsX8_least_3 (mz_fc mz_i_wsX8_least_4 mz_fn)))) (by decide +kernel)) ggX8_least_X8_works
theorem mz_i_wsX8_least_47 : (.code yX8_isLeast cX8_isLeast 3 (some .boolean) : Cond) ∈ wsX8_least := mz_mt (mz_ml (mz_mr (mz_mt (mz_mt (mz_mt (mz_mt (mz_mt (mz_mt (mz_mt (mz_mt (mz_mt (mz_mt (mz_mt (mz_mt (mz_mt (mz_mt (mz_mt (mz_mt (mz_mt (mz_mt (mz_mt (mz_mt (mz_mt (mz_mt mz_mh))))))))))))))))))))))))
set_option maxRecDepth 20000 in
theorem ggX8_least_X8_isLeast : GoodIn wsX8_least wsX8_isLeast := goodIn_sub (mz_fc mz_i_wsX8_least_47 (mz_fa (mz_fc mz_i_wsX8_least_6 mz_fn) (mz_f_wsX8_least_wsX80))) (by decide +kernel)
theorem mz_i_wsX8_least_46 : (.selects RX8 yX8_isLeast yX8_isLeast : Cond) ∈ wsX8_least := mz_mt (mz_ml (mz_mr (mz_mt (mz_mt (mz_mt (mz_mt (mz_mt (mz_mt (mz_mt (mz_mt (mz_mt (mz_mt (mz_mt (mz_mt (mz_mt (mz_mt (mz_mt (mz_mt (mz_mt (mz_mt (mz_mt (mz_mt (mz_mt mz_mh)))))))))))))))))))))))
theorem mz_i_wsX8_least_45 : (.instanceMethod yX8_isLeast : Cond) ∈ wsX8_least := mz_mt (mz_ml (mz_mr (mz_mt (mz_mt (mz_mt (mz_mt (mz_mt (mz_mt (mz_mt (mz_mt (mz_mt (mz_mt (mz_mt (mz_mt (mz_mt (mz_mt (mz_mt (mz_mt (mz_mt (mz_mt (mz_mt (mz_mt mz_mh))))))))))))))))))))))
theorem mz_i_wsX8_least_44 : (.methodLink RX8 141 yX8_isLeast : Cond) ∈ wsX8_least := mz_mt (mz_ml (mz_mr (mz_mt (mz_mt (mz_mt (mz_mt (mz_mt (mz_mt (mz_mt (mz_mt (mz_mt (mz_mt (mz_mt (mz_mt (mz_mt (mz_mt (mz_mt (mz_mt (mz_mt (mz_mt (mz_mt mz_mh)))))))))))))))))))))
set_option maxRecDepth 20000 in
theorem gX8_least_X8_isLeast : GoodIn wsX8_least (wsV RX8 141 RX8 yX8_isLeast wsX8_isLeast) := goodIn_app (goodIn_sub (mz_fc mz_i_wsX8_least_44 (mz_fc mz_i_wsX8_least_45 (mz_fc mz_i_wsX8_least_46 (mz_fc mz_i_wsX8_least_4 mz_fn)))) (by decide +kernel)) ggX8_least_X8_isLeast
theorem dX8_least_0 : decode cX8_least 0 = .ok (.aload_n 0, 1) := by decide +kernel
theorem dX8_least_1 : decode cX8_least 1 = .ok (.iload_n 1, 1) := by decide +kernel
theorem dX8_least_2 : decode cX8_least 2 = .ok (.iload_n 2, 1) := by decide +kernel
theorem dX8_least_3 : decode cX8_least 3 = .ok (.invokevirtual 138, 3) := by decide +kernel
theorem dX8_least_6 : decode cX8_least 6 = .ok (.ifCond .ne 5, 3) := by decide +kernel
theorem dX8_least_9 : decode cX8_least 9 = .ok (.iconst (-1), 1) := by decide +kernel
theorem dX8_least_10 : decode cX8_least 10 = .ok (.ireturn, 1) := by decide +kernel
theorem dX8_least_11 : decode cX8_least 11 = .ok (.iconst 0, 1) := by decide +kernel
theorem dX8_least_12 : decode cX8_least 12 = .ok (.istore_n 3, 1) := by decide +kernel
theorem dX8_least_13 : decode cX8_least 13 = .ok (.iconst 0, 1) := by decide +kernel
theorem dX8_least_14 : decode cX8_least 14 = .ok (.istore 4, 2) := by decide +kernel
theorem dX8_least_16 : decode cX8_least 16 = .ok (.iload 4, 2) := by decide +kernel
theorem dX8_least_18 : decode cX8_least 18 = .ok (.sipush 256, 3) := by decide +kernel
theorem dX8_least_21 : decode cX8_least 21 = .ok (.if_icmp .ge 26, 3) := by decide +kernel
theorem dX8_least_24 : decode cX8_least 24 = .ok (.iload_n 3, 1) := by decide +kernel
theorem dX8_least_25 : decode cX8_least 25 = .ok (.aload_n 0, 1) := by decide +kernel
theorem dX8_least_26 : decode cX8_least 26 = .ok (.iload 4, 2) := by decide +kernel
theorem dX8_least_28 : decode cX8_least 28 = .ok (.invokevirtual 141, 3) := by decide +kernel
theorem dX8_least_31 : decode cX8_least 31 = .ok (.ifCond .eq 7, 3) := by decide +kernel
theorem dX8_least_34 : decode cX8_least 34 = .ok (.iconst 1, 1) := by decide +kernel
theorem dX8_least_35 : decode cX8_least 35 = .ok (.goto 4, 3) := by decide +kernel
theorem dX8_least_38 : decode cX8_least 38 = .ok (.iconst 0, 1) := by decide +kernel
theorem dX8_least_39 : decode cX8_least 39 = .ok (.iadd, 1) := by decide +kernel
theorem dX8_least_40 : decode cX8_least 40 = .ok (.istore_n 3, 1) := by decide +kernel
theorem dX8_least_41 : decode cX8_least 41 = .ok (.iinc 4 1, 3) := by decide +kernel
theorem dX8_least_44 : decode cX8_least 44 = .ok (.goto (-28), 3) := by decide +kernel
theorem dX8_least_47 : decode cX8_least 47 = .ok (.iload_n 3, 1) := by decide +kernel
theorem dX8_least_48 : decode cX8_least 48 = .ok (.ireturn, 1) := by decide +kernel
theorem mz_i_wsX8_leastAt_5 : (.code yX8_works cX8_works 5 (some .boolean) : Cond) ∈ wsX8_leastAt := mz_mt (mz_ml (mz_ml (mz_mt (mz_mt (mz_mt (mz_mt mz_mh))))))
theorem mz_i_wsX8_leastAt_28 : (.instanceMethod yX8_isArrow : Cond) ∈ wsX8_leastAt := mz_mt (mz_ml (mz_mr (mz_mt (mz_mt (mz_mt mz_mh)))))
theorem mz_i_wsX8_leastAt_27 : (.methodLink RX8 117 yX8_isArrow : Cond) ∈ wsX8_leastAt := mz_mt (mz_ml (mz_mr (mz_mt (mz_mt mz_mh))))
theorem mz_i_wsX8_leastAt_26 : (.fieldLink RX8 27 "MadeItSoModel" "tried" "[I" : Cond) ∈ wsX8_leastAt := mz_mt (mz_ml (mz_mr (mz_mt mz_mh)))
theorem mz_i_wsX8_leastAt_25 : (.fieldLink RX8 24 "MadeItSoModel" "way" "[I" : Cond) ∈ wsX8_leastAt := mz_mt (mz_ml (mz_mr mz_mh))
theorem mz_i_wsX8_leastAt_24 : (.code yX8_joins cX8_joins 11 (some .boolean) : Cond) ∈ wsX8_leastAt := mz_mt (mz_ml (mz_ml (mz_mt (mz_mt (mz_mt (mz_mt (mz_mt (mz_mt (mz_mt (mz_mt (mz_mt (mz_mt (mz_mt (mz_mt (mz_mt (mz_mt (mz_mt (mz_mt (mz_mt (mz_mt (mz_mt (mz_mt (mz_mt (mz_mt (mz_mt mz_mh)))))))))))))))))))))))))
theorem mz_i_wsX8_leastAt_23 : (.selects RX8 yX8_joins yX8_joins : Cond) ∈ wsX8_leastAt := mz_mt (mz_ml (mz_ml (mz_mt (mz_mt (mz_mt (mz_mt (mz_mt (mz_mt (mz_mt (mz_mt (mz_mt (mz_mt (mz_mt (mz_mt (mz_mt (mz_mt (mz_mt (mz_mt (mz_mt (mz_mt (mz_mt (mz_mt (mz_mt (mz_mt mz_mh))))))))))))))))))))))))
theorem mz_i_wsX8_leastAt_22 : (.instanceMethod yX8_joins : Cond) ∈ wsX8_leastAt := mz_mt (mz_ml (mz_ml (mz_mt (mz_mt (mz_mt (mz_mt (mz_mt (mz_mt (mz_mt (mz_mt (mz_mt (mz_mt (mz_mt (mz_mt (mz_mt (mz_mt (mz_mt (mz_mt (mz_mt (mz_mt (mz_mt (mz_mt (mz_mt mz_mh)))))))))))))))))))))))
theorem mz_i_wsX8_leastAt_21 : (.methodLink RX8 127 yX8_joins : Cond) ∈ wsX8_leastAt := mz_mt (mz_ml (mz_ml (mz_mt (mz_mt (mz_mt (mz_mt (mz_mt (mz_mt (mz_mt (mz_mt (mz_mt (mz_mt (mz_mt (mz_mt (mz_mt (mz_mt (mz_mt (mz_mt (mz_mt (mz_mt (mz_mt (mz_mt mz_mh))))))))))))))))))))))
theorem mz_i_wsX8_leastAt_20 : (.code yX8_barred cX8_barred 8 (some .boolean) : Cond) ∈ wsX8_leastAt := mz_mt (mz_ml (mz_ml (mz_mt (mz_mt (mz_mt (mz_mt (mz_mt (mz_mt (mz_mt (mz_mt (mz_mt (mz_mt (mz_mt (mz_mt (mz_mt (mz_mt (mz_mt (mz_mt (mz_mt (mz_mt (mz_mt mz_mh)))))))))))))))))))))
theorem mz_i_wsX8_leastAt_19 : (.selects RX8 yX8_barred yX8_barred : Cond) ∈ wsX8_leastAt := mz_mt (mz_ml (mz_ml (mz_mt (mz_mt (mz_mt (mz_mt (mz_mt (mz_mt (mz_mt (mz_mt (mz_mt (mz_mt (mz_mt (mz_mt (mz_mt (mz_mt (mz_mt (mz_mt (mz_mt (mz_mt mz_mh))))))))))))))))))))
theorem mz_i_wsX8_leastAt_18 : (.instanceMethod yX8_barred : Cond) ∈ wsX8_leastAt := mz_mt (mz_ml (mz_ml (mz_mt (mz_mt (mz_mt (mz_mt (mz_mt (mz_mt (mz_mt (mz_mt (mz_mt (mz_mt (mz_mt (mz_mt (mz_mt (mz_mt (mz_mt (mz_mt (mz_mt mz_mh)))))))))))))))))))
theorem mz_i_wsX8_leastAt_17 : (.methodLink RX8 131 yX8_barred : Cond) ∈ wsX8_leastAt := mz_mt (mz_ml (mz_ml (mz_mt (mz_mt (mz_mt (mz_mt (mz_mt (mz_mt (mz_mt (mz_mt (mz_mt (mz_mt (mz_mt (mz_mt (mz_mt (mz_mt (mz_mt (mz_mt mz_mh))))))))))))))))))
theorem mz_i_wsX8_leastAt_16 : (.fieldLink RX8 9 "MadeItSoModel" "isSeen" "[Z" : Cond) ∈ wsX8_leastAt := mz_mt (mz_ml (mz_ml (mz_mt (mz_mt (mz_mt (mz_mt (mz_mt (mz_mt (mz_mt (mz_mt (mz_mt (mz_mt (mz_mt (mz_mt (mz_mt (mz_mt (mz_mt mz_mh)))))))))))))))))
theorem mz_i_wsX8_leastAt_15 : (.code yX8_seen cX8_seen 3 (some .int) : Cond) ∈ wsX8_leastAt := mz_mt (mz_ml (mz_ml (mz_mt (mz_mt (mz_mt (mz_mt (mz_mt (mz_mt (mz_mt (mz_mt (mz_mt (mz_mt (mz_mt (mz_mt (mz_mt (mz_mt mz_mh))))))))))))))))
theorem mz_i_wsX8_leastAt_14 : (.selects RX8 yX8_seen yX8_seen : Cond) ∈ wsX8_leastAt := mz_mt (mz_ml (mz_ml (mz_mt (mz_mt (mz_mt (mz_mt (mz_mt (mz_mt (mz_mt (mz_mt (mz_mt (mz_mt (mz_mt (mz_mt (mz_mt mz_mh)))))))))))))))
theorem mz_i_wsX8_leastAt_13 : (.instanceMethod yX8_seen : Cond) ∈ wsX8_leastAt := mz_mt (mz_ml (mz_ml (mz_mt (mz_mt (mz_mt (mz_mt (mz_mt (mz_mt (mz_mt (mz_mt (mz_mt (mz_mt (mz_mt (mz_mt mz_mh))))))))))))))
theorem mz_i_wsX8_leastAt_12 : (.methodLink RX8 134 yX8_seen : Cond) ∈ wsX8_leastAt := mz_mt (mz_ml (mz_ml (mz_mt (mz_mt (mz_mt (mz_mt (mz_mt (mz_mt (mz_mt (mz_mt (mz_mt (mz_mt (mz_mt mz_mh)))))))))))))
theorem mz_i_wsX8_leastAt_11 : (.fieldLink RX8 58 "MadeItSoModel" "many" "I" : Cond) ∈ wsX8_leastAt := mz_mt (mz_ml (mz_ml (mz_mt (mz_mt (mz_mt (mz_mt (mz_mt (mz_mt (mz_mt (mz_mt (mz_mt (mz_mt mz_mh))))))))))))
theorem mz_i_wsX8_leastAt_10 : (.code yX8_isThing cX8_isThing 2 (some .boolean) : Cond) ∈ wsX8_leastAt := mz_mt (mz_ml (mz_ml (mz_mt (mz_mt (mz_mt (mz_mt (mz_mt (mz_mt (mz_mt (mz_mt (mz_mt mz_mh)))))))))))
theorem mz_i_wsX8_leastAt_4 : (.initialized RX8 : Cond) ∈ wsX8_leastAt := mz_mt (mz_ml (mz_ml (mz_mt (mz_mt (mz_mt mz_mh)))))
theorem mz_i_wsX8_leastAt_9 : (.selects RX8 yX8_isThing yX8_isThing : Cond) ∈ wsX8_leastAt := mz_mt (mz_ml (mz_ml (mz_mt (mz_mt (mz_mt (mz_mt (mz_mt (mz_mt (mz_mt (mz_mt mz_mh))))))))))
theorem mz_i_wsX8_leastAt_8 : (.instanceMethod yX8_isThing : Cond) ∈ wsX8_leastAt := mz_mt (mz_ml (mz_ml (mz_mt (mz_mt (mz_mt (mz_mt (mz_mt (mz_mt (mz_mt mz_mh)))))))))
theorem mz_i_wsX8_leastAt_7 : (.methodLink RX8 71 yX8_isThing : Cond) ∈ wsX8_leastAt := mz_mt (mz_ml (mz_ml (mz_mt (mz_mt (mz_mt (mz_mt (mz_mt (mz_mt mz_mh))))))))
theorem mz_i_wsX8_leastAt_6 : (.fieldLink RX8 30 "MadeItSoModel" "isBarring" "[Z" : Cond) ∈ wsX8_leastAt := mz_mt (mz_ml (mz_ml (mz_mt (mz_mt (mz_mt (mz_mt (mz_mt mz_mh)))))))
theorem mz_i_wsX8_leastAt_43 : (.code yX8_belowWithout cX8_belowWithout 8 (some .int) : Cond) ∈ wsX8_leastAt := mz_mt (mz_ml (mz_mr (mz_mt (mz_mt (mz_mt (mz_mt (mz_mt (mz_mt (mz_mt (mz_mt (mz_mt (mz_mt (mz_mt (mz_mt (mz_mt (mz_mt (mz_mt (mz_mt (mz_mt (mz_mt mz_mh))))))))))))))))))))
theorem mz_i_wsX8_leastAt_42 : (.selects RX8 yX8_belowWithout yX8_belowWithout : Cond) ∈ wsX8_leastAt := mz_mt (mz_ml (mz_mr (mz_mt (mz_mt (mz_mt (mz_mt (mz_mt (mz_mt (mz_mt (mz_mt (mz_mt (mz_mt (mz_mt (mz_mt (mz_mt (mz_mt (mz_mt (mz_mt (mz_mt mz_mh)))))))))))))))))))
theorem mz_i_wsX8_leastAt_41 : (.instanceMethod yX8_belowWithout : Cond) ∈ wsX8_leastAt := mz_mt (mz_ml (mz_mr (mz_mt (mz_mt (mz_mt (mz_mt (mz_mt (mz_mt (mz_mt (mz_mt (mz_mt (mz_mt (mz_mt (mz_mt (mz_mt (mz_mt (mz_mt (mz_mt mz_mh))))))))))))))))))
theorem mz_i_wsX8_leastAt_40 : (.methodLink RX8 121 yX8_belowWithout : Cond) ∈ wsX8_leastAt := mz_mt (mz_ml (mz_mr (mz_mt (mz_mt (mz_mt (mz_mt (mz_mt (mz_mt (mz_mt (mz_mt (mz_mt (mz_mt (mz_mt (mz_mt (mz_mt (mz_mt (mz_mt mz_mh)))))))))))))))))
theorem mz_i_wsX8_leastAt_39 : (.code yX8_isOpen cX8_isOpen 10 (some .boolean) : Cond) ∈ wsX8_leastAt := mz_mt (mz_ml (mz_mr (mz_mt (mz_mt (mz_mt (mz_mt (mz_mt (mz_mt (mz_mt (mz_mt (mz_mt (mz_mt (mz_mt (mz_mt (mz_mt (mz_mt mz_mh))))))))))))))))
theorem mz_i_wsX8_leastAt_38 : (.selects RX8 yX8_isOpen yX8_isOpen : Cond) ∈ wsX8_leastAt := mz_mt (mz_ml (mz_mr (mz_mt (mz_mt (mz_mt (mz_mt (mz_mt (mz_mt (mz_mt (mz_mt (mz_mt (mz_mt (mz_mt (mz_mt (mz_mt mz_mh)))))))))))))))
theorem mz_i_wsX8_leastAt_37 : (.instanceMethod yX8_isOpen : Cond) ∈ wsX8_leastAt := mz_mt (mz_ml (mz_mr (mz_mt (mz_mt (mz_mt (mz_mt (mz_mt (mz_mt (mz_mt (mz_mt (mz_mt (mz_mt (mz_mt (mz_mt mz_mh))))))))))))))
theorem mz_i_wsX8_leastAt_36 : (.methodLink RX8 124 yX8_isOpen : Cond) ∈ wsX8_leastAt := mz_mt (mz_ml (mz_mr (mz_mt (mz_mt (mz_mt (mz_mt (mz_mt (mz_mt (mz_mt (mz_mt (mz_mt (mz_mt (mz_mt mz_mh)))))))))))))
theorem mz_i_wsX8_leastAt_35 : (.fieldLink RX8 13 "MadeItSoModel" "parents" "[I" : Cond) ∈ wsX8_leastAt := mz_mt (mz_ml (mz_mr (mz_mt (mz_mt (mz_mt (mz_mt (mz_mt (mz_mt (mz_mt (mz_mt (mz_mt (mz_mt mz_mh))))))))))))
theorem mz_i_wsX8_leastAt_34 : (.code yX8_parentsWithout cX8_parentsWithout 4 (some .int) : Cond) ∈ wsX8_leastAt := mz_mt (mz_ml (mz_mr (mz_mt (mz_mt (mz_mt (mz_mt (mz_mt (mz_mt (mz_mt (mz_mt (mz_mt mz_mh)))))))))))
theorem mz_i_wsX8_leastAt_33 : (.selects RX8 yX8_parentsWithout yX8_parentsWithout : Cond) ∈ wsX8_leastAt := mz_mt (mz_ml (mz_mr (mz_mt (mz_mt (mz_mt (mz_mt (mz_mt (mz_mt (mz_mt (mz_mt mz_mh))))))))))
theorem mz_i_wsX8_leastAt_32 : (.instanceMethod yX8_parentsWithout : Cond) ∈ wsX8_leastAt := mz_mt (mz_ml (mz_mr (mz_mt (mz_mt (mz_mt (mz_mt (mz_mt (mz_mt (mz_mt mz_mh)))))))))
theorem mz_i_wsX8_leastAt_31 : (.methodLink RX8 74 yX8_parentsWithout : Cond) ∈ wsX8_leastAt := mz_mt (mz_ml (mz_mr (mz_mt (mz_mt (mz_mt (mz_mt (mz_mt (mz_mt mz_mh))))))))
theorem mz_i_wsX8_leastAt_30 : (.code yX8_isArrow cX8_isArrow 5 (some .boolean) : Cond) ∈ wsX8_leastAt := mz_mt (mz_ml (mz_mr (mz_mt (mz_mt (mz_mt (mz_mt (mz_mt mz_mh)))))))
theorem mz_i_wsX8_leastAt_29 : (.selects RX8 yX8_isArrow yX8_isArrow : Cond) ∈ wsX8_leastAt := mz_mt (mz_ml (mz_mr (mz_mt (mz_mt (mz_mt (mz_mt mz_mh))))))
theorem mz_f_wsX8_leastAt_wsX80 : ∀ w ∈ wsX80, w ∈ wsX8_leastAt := fun _ h => mz_mt (mz_mr h)
set_option maxRecDepth 20000 in
theorem ggX8_leastAt_X8_works : GoodIn wsX8_leastAt wsX8_works := goodIn_sub (mz_fc mz_i_wsX8_leastAt_5 (mz_fa (mz_fa (mz_fc mz_i_wsX8_leastAt_6 (mz_fc mz_i_wsX8_leastAt_7 (mz_fc mz_i_wsX8_leastAt_8 (mz_fc mz_i_wsX8_leastAt_9 (mz_fc mz_i_wsX8_leastAt_4 (mz_fc mz_i_wsX8_leastAt_10 (mz_fc mz_i_wsX8_leastAt_11 (mz_fc mz_i_wsX8_leastAt_12 (mz_fc mz_i_wsX8_leastAt_13 (mz_fc mz_i_wsX8_leastAt_14 (mz_fc mz_i_wsX8_leastAt_15 (mz_fc mz_i_wsX8_leastAt_16 (mz_fc mz_i_wsX8_leastAt_17 (mz_fc mz_i_wsX8_leastAt_18 (mz_fc mz_i_wsX8_leastAt_19 (mz_fc mz_i_wsX8_leastAt_20 (mz_fc mz_i_wsX8_leastAt_21 (mz_fc mz_i_wsX8_leastAt_22 (mz_fc mz_i_wsX8_leastAt_23 (mz_fc mz_i_wsX8_leastAt_24 (mz_fc mz_i_wsX8_leastAt_25 (mz_fc mz_i_wsX8_leastAt_26 (mz_fc mz_i_wsX8_leastAt_27 (mz_fc mz_i_wsX8_leastAt_28 mz_fn)))))))))))))))))))))))) (mz_fc mz_i_wsX8_leastAt_29 (mz_fc mz_i_wsX8_leastAt_30 (mz_fc mz_i_wsX8_leastAt_31 (mz_fc mz_i_wsX8_leastAt_32 (mz_fc mz_i_wsX8_leastAt_33 (mz_fc mz_i_wsX8_leastAt_34 (mz_fc mz_i_wsX8_leastAt_35 (mz_fc mz_i_wsX8_leastAt_36 (mz_fc mz_i_wsX8_leastAt_37 (mz_fc mz_i_wsX8_leastAt_38 (mz_fc mz_i_wsX8_leastAt_39 (mz_fc mz_i_wsX8_leastAt_40 (mz_fc mz_i_wsX8_leastAt_41 (mz_fc mz_i_wsX8_leastAt_42 (mz_fc mz_i_wsX8_leastAt_43 mz_fn)))))))))))))))) (mz_f_wsX8_leastAt_wsX80))) (by decide +kernel)
theorem mz_i_wsX8_leastAt_3 : (.selects RX8 yX8_works yX8_works : Cond) ∈ wsX8_leastAt := mz_mt (mz_ml (mz_ml (mz_mt (mz_mt mz_mh))))
theorem mz_i_wsX8_leastAt_2 : (.instanceMethod yX8_works : Cond) ∈ wsX8_leastAt := mz_mt (mz_ml (mz_ml (mz_mt mz_mh)))
theorem mz_i_wsX8_leastAt_1 : (.methodLink RX8 138 yX8_works : Cond) ∈ wsX8_leastAt := mz_mt (mz_ml (mz_ml mz_mh))
set_option maxRecDepth 20000 in
theorem gX8_leastAt_X8_works : GoodIn wsX8_leastAt (wsV RX8 138 RX8 yX8_works wsX8_works) := goodIn_app (goodIn_sub (mz_fc mz_i_wsX8_leastAt_1 (mz_fc mz_i_wsX8_leastAt_2 (mz_fc mz_i_wsX8_leastAt_3 (mz_fc mz_i_wsX8_leastAt_4 mz_fn)))) (by decide +kernel)) ggX8_leastAt_X8_works
theorem mz_i_wsX8_leastAt_47 : (.code yX8_isLeast cX8_isLeast 3 (some .boolean) : Cond) ∈ wsX8_leastAt := mz_mt (mz_ml (mz_mr (mz_mt (mz_mt (mz_mt (mz_mt (mz_mt (mz_mt (mz_mt (mz_mt (mz_mt (mz_mt (mz_mt (mz_mt (mz_mt (mz_mt (mz_mt (mz_mt (mz_mt (mz_mt (mz_mt (mz_mt (mz_mt (mz_mt mz_mh))))))))))))))))))))))))
set_option maxRecDepth 20000 in
theorem ggX8_leastAt_X8_isLeast : GoodIn wsX8_leastAt wsX8_isLeast := goodIn_sub (mz_fc mz_i_wsX8_leastAt_47 (mz_fa (mz_fc mz_i_wsX8_leastAt_6 mz_fn) (mz_f_wsX8_leastAt_wsX80))) (by decide +kernel)
theorem mz_i_wsX8_leastAt_46 : (.selects RX8 yX8_isLeast yX8_isLeast : Cond) ∈ wsX8_leastAt := mz_mt (mz_ml (mz_mr (mz_mt (mz_mt (mz_mt (mz_mt (mz_mt (mz_mt (mz_mt (mz_mt (mz_mt (mz_mt (mz_mt (mz_mt (mz_mt (mz_mt (mz_mt (mz_mt (mz_mt (mz_mt (mz_mt (mz_mt (mz_mt mz_mh)))))))))))))))))))))))
theorem mz_i_wsX8_leastAt_45 : (.instanceMethod yX8_isLeast : Cond) ∈ wsX8_leastAt := mz_mt (mz_ml (mz_mr (mz_mt (mz_mt (mz_mt (mz_mt (mz_mt (mz_mt (mz_mt (mz_mt (mz_mt (mz_mt (mz_mt (mz_mt (mz_mt (mz_mt (mz_mt (mz_mt (mz_mt (mz_mt (mz_mt (mz_mt mz_mh))))))))))))))))))))))
theorem mz_i_wsX8_leastAt_44 : (.methodLink RX8 141 yX8_isLeast : Cond) ∈ wsX8_leastAt := mz_mt (mz_ml (mz_mr (mz_mt (mz_mt (mz_mt (mz_mt (mz_mt (mz_mt (mz_mt (mz_mt (mz_mt (mz_mt (mz_mt (mz_mt (mz_mt (mz_mt (mz_mt (mz_mt (mz_mt (mz_mt (mz_mt mz_mh)))))))))))))))))))))
set_option maxRecDepth 20000 in
theorem gX8_leastAt_X8_isLeast : GoodIn wsX8_leastAt (wsV RX8 141 RX8 yX8_isLeast wsX8_isLeast) := goodIn_app (goodIn_sub (mz_fc mz_i_wsX8_leastAt_44 (mz_fc mz_i_wsX8_leastAt_45 (mz_fc mz_i_wsX8_leastAt_46 (mz_fc mz_i_wsX8_leastAt_4 mz_fn)))) (by decide +kernel)) ggX8_leastAt_X8_isLeast
theorem dX8_leastAt_0 : decode cX8_leastAt 0 = .ok (.iload_n 3, 1) := by decide +kernel
theorem dX8_leastAt_1 : decode cX8_leastAt 1 = .ok (.ifCond .lt 12, 3) := by decide +kernel
theorem dX8_leastAt_4 : decode cX8_leastAt 4 = .ok (.aload_n 0, 1) := by decide +kernel
theorem dX8_leastAt_5 : decode cX8_leastAt 5 = .ok (.iload_n 1, 1) := by decide +kernel
theorem dX8_leastAt_6 : decode cX8_leastAt 6 = .ok (.iload_n 2, 1) := by decide +kernel
theorem dX8_leastAt_7 : decode cX8_leastAt 7 = .ok (.invokevirtual 138, 3) := by decide +kernel
theorem dX8_leastAt_10 : decode cX8_leastAt 10 = .ok (.ifCond .ne 5, 3) := by decide +kernel
theorem dX8_leastAt_13 : decode cX8_leastAt 13 = .ok (.iconst (-1), 1) := by decide +kernel
theorem dX8_leastAt_14 : decode cX8_leastAt 14 = .ok (.ireturn, 1) := by decide +kernel
theorem dX8_leastAt_15 : decode cX8_leastAt 15 = .ok (.iload_n 3, 1) := by decide +kernel
theorem dX8_leastAt_16 : decode cX8_leastAt 16 = .ok (.istore 4, 2) := by decide +kernel
theorem dX8_leastAt_18 : decode cX8_leastAt 18 = .ok (.iconst 0, 1) := by decide +kernel
theorem dX8_leastAt_19 : decode cX8_leastAt 19 = .ok (.istore 5, 2) := by decide +kernel
theorem dX8_leastAt_21 : decode cX8_leastAt 21 = .ok (.iload 5, 2) := by decide +kernel
theorem dX8_leastAt_23 : decode cX8_leastAt 23 = .ok (.sipush 256, 3) := by decide +kernel
theorem dX8_leastAt_26 : decode cX8_leastAt 26 = .ok (.if_icmp .ge 32, 3) := by decide +kernel
theorem dX8_leastAt_29 : decode cX8_leastAt 29 = .ok (.aload_n 0, 1) := by decide +kernel
theorem dX8_leastAt_30 : decode cX8_leastAt 30 = .ok (.iload 5, 2) := by decide +kernel
theorem dX8_leastAt_32 : decode cX8_leastAt 32 = .ok (.invokevirtual 141, 3) := by decide +kernel
theorem dX8_leastAt_35 : decode cX8_leastAt 35 = .ok (.ifCond .ne 6, 3) := by decide +kernel
theorem dX8_leastAt_38 : decode cX8_leastAt 38 = .ok (.goto 14, 3) := by decide +kernel
theorem dX8_leastAt_41 : decode cX8_leastAt 41 = .ok (.iload 4, 2) := by decide +kernel
theorem dX8_leastAt_43 : decode cX8_leastAt 43 = .ok (.ifCond .ne 6, 3) := by decide +kernel
theorem dX8_leastAt_46 : decode cX8_leastAt 46 = .ok (.iload 5, 2) := by decide +kernel
theorem dX8_leastAt_48 : decode cX8_leastAt 48 = .ok (.ireturn, 1) := by decide +kernel
theorem dX8_leastAt_49 : decode cX8_leastAt 49 = .ok (.iinc 4 (-1), 3) := by decide +kernel
theorem dX8_leastAt_52 : decode cX8_leastAt 52 = .ok (.iinc 5 1, 3) := by decide +kernel
theorem dX8_leastAt_55 : decode cX8_leastAt 55 = .ok (.goto (-34), 3) := by decide +kernel
theorem dX8_leastAt_58 : decode cX8_leastAt 58 = .ok (.iconst (-1), 1) := by decide +kernel
theorem dX8_leastAt_59 : decode cX8_leastAt 59 = .ok (.ireturn, 1) := by decide +kernel
theorem mz_i_wsX8_fit_6 : (.code yX8_isThing cX8_isThing 2 (some .boolean) : Cond) ∈ wsX8_fit := mz_mt (mz_ml (mz_ml (mz_mt (mz_mt (mz_mt (mz_mt (mz_mt mz_mh)))))))
theorem mz_i_wsX8_fit_1 : (.fieldLink RX8 58 "MadeItSoModel" "many" "I" : Cond) ∈ wsX8_fit := mz_mt (mz_ml (mz_ml mz_mh))
theorem mz_f_wsX8_fit_wsX80 : ∀ w ∈ wsX80, w ∈ wsX8_fit := fun _ h => mz_mt (mz_mr h)
set_option maxRecDepth 20000 in
theorem ggX8_fit_X8_isThing : GoodIn wsX8_fit wsX8_isThing := goodIn_sub (mz_fc mz_i_wsX8_fit_6 (mz_fa (mz_fc mz_i_wsX8_fit_1 mz_fn) (mz_f_wsX8_fit_wsX80))) (by decide +kernel)
theorem mz_i_wsX8_fit_5 : (.initialized RX8 : Cond) ∈ wsX8_fit := mz_mt (mz_ml (mz_ml (mz_mt (mz_mt (mz_mt (mz_mt mz_mh))))))
theorem mz_i_wsX8_fit_4 : (.selects RX8 yX8_isThing yX8_isThing : Cond) ∈ wsX8_fit := mz_mt (mz_ml (mz_ml (mz_mt (mz_mt (mz_mt mz_mh)))))
theorem mz_i_wsX8_fit_3 : (.instanceMethod yX8_isThing : Cond) ∈ wsX8_fit := mz_mt (mz_ml (mz_ml (mz_mt (mz_mt mz_mh))))
theorem mz_i_wsX8_fit_2 : (.methodLink RX8 71 yX8_isThing : Cond) ∈ wsX8_fit := mz_mt (mz_ml (mz_ml (mz_mt mz_mh)))
set_option maxRecDepth 20000 in
theorem gX8_fit_X8_isThing : GoodIn wsX8_fit (wsV RX8 71 RX8 yX8_isThing wsX8_isThing) := goodIn_app (goodIn_sub (mz_fc mz_i_wsX8_fit_2 (mz_fc mz_i_wsX8_fit_3 (mz_fc mz_i_wsX8_fit_4 (mz_fc mz_i_wsX8_fit_5 mz_fn)))) (by decide +kernel)) ggX8_fit_X8_isThing
theorem mz_i_wsX8_fit_10 : (.code yX8_isHeap cX8_isHeap 2 (some .boolean) : Cond) ∈ wsX8_fit := mz_mt (mz_ml (mz_ml (mz_mt (mz_mt (mz_mt (mz_mt (mz_mt (mz_mt (mz_mt (mz_mt (mz_mt mz_mh)))))))))))
set_option maxRecDepth 20000 in
theorem ggX8_fit_X8_isHeap : GoodIn wsX8_fit wsX8_isHeap := goodIn_sub (mz_fc mz_i_wsX8_fit_10 (mz_fa (mz_fc mz_i_wsX8_fit_1 mz_fn) (mz_f_wsX8_fit_wsX80))) (by decide +kernel)
theorem mz_i_wsX8_fit_9 : (.selects RX8 yX8_isHeap yX8_isHeap : Cond) ∈ wsX8_fit := mz_mt (mz_ml (mz_ml (mz_mt (mz_mt (mz_mt (mz_mt (mz_mt (mz_mt (mz_mt (mz_mt mz_mh))))))))))
theorem mz_i_wsX8_fit_8 : (.instanceMethod yX8_isHeap : Cond) ∈ wsX8_fit := mz_mt (mz_ml (mz_ml (mz_mt (mz_mt (mz_mt (mz_mt (mz_mt (mz_mt (mz_mt mz_mh)))))))))
theorem mz_i_wsX8_fit_7 : (.methodLink RX8 63 yX8_isHeap : Cond) ∈ wsX8_fit := mz_mt (mz_ml (mz_ml (mz_mt (mz_mt (mz_mt (mz_mt (mz_mt (mz_mt mz_mh))))))))
set_option maxRecDepth 20000 in
theorem gX8_fit_X8_isHeap : GoodIn wsX8_fit (wsV RX8 63 RX8 yX8_isHeap wsX8_isHeap) := goodIn_app (goodIn_sub (mz_fc mz_i_wsX8_fit_7 (mz_fc mz_i_wsX8_fit_8 (mz_fc mz_i_wsX8_fit_9 (mz_fc mz_i_wsX8_fit_5 mz_fn)))) (by decide +kernel)) ggX8_fit_X8_isHeap
theorem mz_i_wsX8_fit_14 : (.code yX8_seen cX8_seen 3 (some .int) : Cond) ∈ wsX8_fit := mz_mt (mz_ml (mz_ml (mz_mt (mz_mt (mz_mt (mz_mt (mz_mt (mz_mt (mz_mt (mz_mt (mz_mt (mz_mt (mz_mt (mz_mt (mz_mt mz_mh)))))))))))))))
theorem mz_i_wsX8_fit_15 : (.fieldLink RX8 9 "MadeItSoModel" "isSeen" "[Z" : Cond) ∈ wsX8_fit := mz_mt (mz_ml (mz_ml (mz_mt (mz_mt (mz_mt (mz_mt (mz_mt (mz_mt (mz_mt (mz_mt (mz_mt (mz_mt (mz_mt (mz_mt (mz_mt (mz_mt mz_mh))))))))))))))))
set_option maxRecDepth 20000 in
theorem ggX8_fit_X8_seen : GoodIn wsX8_fit wsX8_seen := goodIn_sub (mz_fc mz_i_wsX8_fit_14 (mz_fa (mz_fc mz_i_wsX8_fit_1 (mz_fc mz_i_wsX8_fit_15 mz_fn)) (mz_f_wsX8_fit_wsX80))) (by decide +kernel)
theorem mz_i_wsX8_fit_13 : (.selects RX8 yX8_seen yX8_seen : Cond) ∈ wsX8_fit := mz_mt (mz_ml (mz_ml (mz_mt (mz_mt (mz_mt (mz_mt (mz_mt (mz_mt (mz_mt (mz_mt (mz_mt (mz_mt (mz_mt (mz_mt mz_mh))))))))))))))
theorem mz_i_wsX8_fit_12 : (.instanceMethod yX8_seen : Cond) ∈ wsX8_fit := mz_mt (mz_ml (mz_ml (mz_mt (mz_mt (mz_mt (mz_mt (mz_mt (mz_mt (mz_mt (mz_mt (mz_mt (mz_mt (mz_mt mz_mh)))))))))))))
theorem mz_i_wsX8_fit_11 : (.methodLink RX8 134 yX8_seen : Cond) ∈ wsX8_fit := mz_mt (mz_ml (mz_ml (mz_mt (mz_mt (mz_mt (mz_mt (mz_mt (mz_mt (mz_mt (mz_mt (mz_mt (mz_mt mz_mh))))))))))))
set_option maxRecDepth 20000 in
theorem gX8_fit_X8_seen : GoodIn wsX8_fit (wsV RX8 134 RX8 yX8_seen wsX8_seen) := goodIn_app (goodIn_sub (mz_fc mz_i_wsX8_fit_11 (mz_fc mz_i_wsX8_fit_12 (mz_fc mz_i_wsX8_fit_13 (mz_fc mz_i_wsX8_fit_5 mz_fn)))) (by decide +kernel)) ggX8_fit_X8_seen
theorem mz_i_wsX8_fit_19 : (.code yX8_belowOf cX8_belowOf 8 (some .int) : Cond) ∈ wsX8_fit := mz_mt (mz_ml (mz_ml (mz_mt (mz_mt (mz_mt (mz_mt (mz_mt (mz_mt (mz_mt (mz_mt (mz_mt (mz_mt (mz_mt (mz_mt (mz_mt (mz_mt (mz_mt (mz_mt (mz_mt (mz_mt mz_mh))))))))))))))))))))
theorem mz_i_wsX8_fit_24 : (.fieldLink RX8 13 "MadeItSoModel" "parents" "[I" : Cond) ∈ wsX8_fit := mz_mt (mz_ml (mz_ml (mz_mt (mz_mt (mz_mt (mz_mt (mz_mt (mz_mt (mz_mt (mz_mt (mz_mt (mz_mt (mz_mt (mz_mt (mz_mt (mz_mt (mz_mt (mz_mt (mz_mt (mz_mt (mz_mt (mz_mt (mz_mt (mz_mt (mz_mt mz_mh)))))))))))))))))))))))))
theorem mz_i_wsX8_fit_23 : (.code yX8_parentsWithout cX8_parentsWithout 4 (some .int) : Cond) ∈ wsX8_fit := mz_mt (mz_ml (mz_ml (mz_mt (mz_mt (mz_mt (mz_mt (mz_mt (mz_mt (mz_mt (mz_mt (mz_mt (mz_mt (mz_mt (mz_mt (mz_mt (mz_mt (mz_mt (mz_mt (mz_mt (mz_mt (mz_mt (mz_mt (mz_mt (mz_mt mz_mh))))))))))))))))))))))))
theorem mz_i_wsX8_fit_22 : (.selects RX8 yX8_parentsWithout yX8_parentsWithout : Cond) ∈ wsX8_fit := mz_mt (mz_ml (mz_ml (mz_mt (mz_mt (mz_mt (mz_mt (mz_mt (mz_mt (mz_mt (mz_mt (mz_mt (mz_mt (mz_mt (mz_mt (mz_mt (mz_mt (mz_mt (mz_mt (mz_mt (mz_mt (mz_mt (mz_mt (mz_mt mz_mh)))))))))))))))))))))))
theorem mz_i_wsX8_fit_21 : (.instanceMethod yX8_parentsWithout : Cond) ∈ wsX8_fit := mz_mt (mz_ml (mz_ml (mz_mt (mz_mt (mz_mt (mz_mt (mz_mt (mz_mt (mz_mt (mz_mt (mz_mt (mz_mt (mz_mt (mz_mt (mz_mt (mz_mt (mz_mt (mz_mt (mz_mt (mz_mt (mz_mt (mz_mt mz_mh))))))))))))))))))))))
theorem mz_i_wsX8_fit_20 : (.methodLink RX8 74 yX8_parentsWithout : Cond) ∈ wsX8_fit := mz_mt (mz_ml (mz_ml (mz_mt (mz_mt (mz_mt (mz_mt (mz_mt (mz_mt (mz_mt (mz_mt (mz_mt (mz_mt (mz_mt (mz_mt (mz_mt (mz_mt (mz_mt (mz_mt (mz_mt (mz_mt (mz_mt mz_mh)))))))))))))))))))))
set_option maxRecDepth 20000 in
theorem ggX8_fit_X8_belowOf : GoodIn wsX8_fit wsX8_belowOf := goodIn_sub (mz_fc mz_i_wsX8_fit_19 (mz_fa (mz_fc mz_i_wsX8_fit_1 (mz_fc mz_i_wsX8_fit_20 (mz_fc mz_i_wsX8_fit_21 (mz_fc mz_i_wsX8_fit_22 (mz_fc mz_i_wsX8_fit_5 (mz_fc mz_i_wsX8_fit_23 (mz_fc mz_i_wsX8_fit_24 mz_fn))))))) (mz_f_wsX8_fit_wsX80))) (by decide +kernel)
theorem mz_i_wsX8_fit_18 : (.selects RX8 yX8_belowOf yX8_belowOf : Cond) ∈ wsX8_fit := mz_mt (mz_ml (mz_ml (mz_mt (mz_mt (mz_mt (mz_mt (mz_mt (mz_mt (mz_mt (mz_mt (mz_mt (mz_mt (mz_mt (mz_mt (mz_mt (mz_mt (mz_mt (mz_mt (mz_mt mz_mh)))))))))))))))))))
theorem mz_i_wsX8_fit_17 : (.instanceMethod yX8_belowOf : Cond) ∈ wsX8_fit := mz_mt (mz_ml (mz_ml (mz_mt (mz_mt (mz_mt (mz_mt (mz_mt (mz_mt (mz_mt (mz_mt (mz_mt (mz_mt (mz_mt (mz_mt (mz_mt (mz_mt (mz_mt (mz_mt mz_mh))))))))))))))))))
theorem mz_i_wsX8_fit_16 : (.methodLink RX8 82 yX8_belowOf : Cond) ∈ wsX8_fit := mz_mt (mz_ml (mz_ml (mz_mt (mz_mt (mz_mt (mz_mt (mz_mt (mz_mt (mz_mt (mz_mt (mz_mt (mz_mt (mz_mt (mz_mt (mz_mt (mz_mt (mz_mt mz_mh)))))))))))))))))
set_option maxRecDepth 20000 in
theorem gX8_fit_X8_belowOf : GoodIn wsX8_fit (wsV RX8 82 RX8 yX8_belowOf wsX8_belowOf) := goodIn_app (goodIn_sub (mz_fc mz_i_wsX8_fit_16 (mz_fc mz_i_wsX8_fit_17 (mz_fc mz_i_wsX8_fit_18 (mz_fc mz_i_wsX8_fit_5 mz_fn)))) (by decide +kernel)) ggX8_fit_X8_belowOf
theorem mz_i_wsX8_fit_28 : (.code yX8_barred cX8_barred 8 (some .boolean) : Cond) ∈ wsX8_fit := mz_mt (mz_ml (mz_mr (mz_mt (mz_mt (mz_mt mz_mh)))))
theorem mz_i_wsX8_fit_45 : (.selects RX8 yX8_belowWithout yX8_belowWithout : Cond) ∈ wsX8_fit := mz_mt (mz_ml (mz_mr (mz_mt (mz_mt (mz_mt (mz_mt (mz_mt (mz_mt (mz_mt (mz_mt (mz_mt (mz_mt (mz_mt (mz_mt (mz_mt (mz_mt (mz_mt (mz_mt (mz_mt (mz_mt (mz_mt (mz_mt mz_mh))))))))))))))))))))))
theorem mz_i_wsX8_fit_44 : (.instanceMethod yX8_belowWithout : Cond) ∈ wsX8_fit := mz_mt (mz_ml (mz_mr (mz_mt (mz_mt (mz_mt (mz_mt (mz_mt (mz_mt (mz_mt (mz_mt (mz_mt (mz_mt (mz_mt (mz_mt (mz_mt (mz_mt (mz_mt (mz_mt (mz_mt (mz_mt (mz_mt mz_mh)))))))))))))))))))))
theorem mz_i_wsX8_fit_43 : (.methodLink RX8 121 yX8_belowWithout : Cond) ∈ wsX8_fit := mz_mt (mz_ml (mz_mr (mz_mt (mz_mt (mz_mt (mz_mt (mz_mt (mz_mt (mz_mt (mz_mt (mz_mt (mz_mt (mz_mt (mz_mt (mz_mt (mz_mt (mz_mt (mz_mt (mz_mt (mz_mt mz_mh))))))))))))))))))))
theorem mz_i_wsX8_fit_42 : (.code yX8_isOpen cX8_isOpen 10 (some .boolean) : Cond) ∈ wsX8_fit := mz_mt (mz_ml (mz_mr (mz_mt (mz_mt (mz_mt (mz_mt (mz_mt (mz_mt (mz_mt (mz_mt (mz_mt (mz_mt (mz_mt (mz_mt (mz_mt (mz_mt (mz_mt (mz_mt (mz_mt mz_mh)))))))))))))))))))
theorem mz_i_wsX8_fit_41 : (.selects RX8 yX8_isOpen yX8_isOpen : Cond) ∈ wsX8_fit := mz_mt (mz_ml (mz_mr (mz_mt (mz_mt (mz_mt (mz_mt (mz_mt (mz_mt (mz_mt (mz_mt (mz_mt (mz_mt (mz_mt (mz_mt (mz_mt (mz_mt (mz_mt (mz_mt mz_mh))))))))))))))))))
theorem mz_i_wsX8_fit_40 : (.instanceMethod yX8_isOpen : Cond) ∈ wsX8_fit := mz_mt (mz_ml (mz_mr (mz_mt (mz_mt (mz_mt (mz_mt (mz_mt (mz_mt (mz_mt (mz_mt (mz_mt (mz_mt (mz_mt (mz_mt (mz_mt (mz_mt (mz_mt mz_mh)))))))))))))))))
theorem mz_i_wsX8_fit_39 : (.methodLink RX8 124 yX8_isOpen : Cond) ∈ wsX8_fit := mz_mt (mz_ml (mz_mr (mz_mt (mz_mt (mz_mt (mz_mt (mz_mt (mz_mt (mz_mt (mz_mt (mz_mt (mz_mt (mz_mt (mz_mt (mz_mt (mz_mt mz_mh))))))))))))))))
theorem mz_i_wsX8_fit_38 : (.code yX8_isArrow cX8_isArrow 5 (some .boolean) : Cond) ∈ wsX8_fit := mz_mt (mz_ml (mz_mr (mz_mt (mz_mt (mz_mt (mz_mt (mz_mt (mz_mt (mz_mt (mz_mt (mz_mt (mz_mt (mz_mt (mz_mt (mz_mt mz_mh)))))))))))))))
theorem mz_i_wsX8_fit_37 : (.selects RX8 yX8_isArrow yX8_isArrow : Cond) ∈ wsX8_fit := mz_mt (mz_ml (mz_mr (mz_mt (mz_mt (mz_mt (mz_mt (mz_mt (mz_mt (mz_mt (mz_mt (mz_mt (mz_mt (mz_mt (mz_mt mz_mh))))))))))))))
theorem mz_i_wsX8_fit_36 : (.instanceMethod yX8_isArrow : Cond) ∈ wsX8_fit := mz_mt (mz_ml (mz_mr (mz_mt (mz_mt (mz_mt (mz_mt (mz_mt (mz_mt (mz_mt (mz_mt (mz_mt (mz_mt (mz_mt mz_mh)))))))))))))
theorem mz_i_wsX8_fit_35 : (.methodLink RX8 117 yX8_isArrow : Cond) ∈ wsX8_fit := mz_mt (mz_ml (mz_mr (mz_mt (mz_mt (mz_mt (mz_mt (mz_mt (mz_mt (mz_mt (mz_mt (mz_mt (mz_mt mz_mh))))))))))))
theorem mz_i_wsX8_fit_34 : (.fieldLink RX8 27 "MadeItSoModel" "tried" "[I" : Cond) ∈ wsX8_fit := mz_mt (mz_ml (mz_mr (mz_mt (mz_mt (mz_mt (mz_mt (mz_mt (mz_mt (mz_mt (mz_mt (mz_mt mz_mh)))))))))))
theorem mz_i_wsX8_fit_33 : (.fieldLink RX8 24 "MadeItSoModel" "way" "[I" : Cond) ∈ wsX8_fit := mz_mt (mz_ml (mz_mr (mz_mt (mz_mt (mz_mt (mz_mt (mz_mt (mz_mt (mz_mt (mz_mt mz_mh))))))))))
theorem mz_i_wsX8_fit_32 : (.code yX8_joins cX8_joins 11 (some .boolean) : Cond) ∈ wsX8_fit := mz_mt (mz_ml (mz_mr (mz_mt (mz_mt (mz_mt (mz_mt (mz_mt (mz_mt (mz_mt mz_mh)))))))))
theorem mz_i_wsX8_fit_31 : (.selects RX8 yX8_joins yX8_joins : Cond) ∈ wsX8_fit := mz_mt (mz_ml (mz_mr (mz_mt (mz_mt (mz_mt (mz_mt (mz_mt (mz_mt mz_mh))))))))
theorem mz_i_wsX8_fit_30 : (.instanceMethod yX8_joins : Cond) ∈ wsX8_fit := mz_mt (mz_ml (mz_mr (mz_mt (mz_mt (mz_mt (mz_mt (mz_mt mz_mh)))))))
theorem mz_i_wsX8_fit_29 : (.methodLink RX8 127 yX8_joins : Cond) ∈ wsX8_fit := mz_mt (mz_ml (mz_mr (mz_mt (mz_mt (mz_mt (mz_mt mz_mh))))))
theorem mz_i_wsX8_fit_46 : (.code yX8_belowWithout cX8_belowWithout 8 (some .int) : Cond) ∈ wsX8_fit := mz_mt (mz_ml (mz_mr (mz_mt (mz_mt (mz_mt (mz_mt (mz_mt (mz_mt (mz_mt (mz_mt (mz_mt (mz_mt (mz_mt (mz_mt (mz_mt (mz_mt (mz_mt (mz_mt (mz_mt (mz_mt (mz_mt (mz_mt (mz_mt mz_mh)))))))))))))))))))))))
set_option maxRecDepth 20000 in
theorem ggX8_fit_X8_barred : GoodIn wsX8_fit wsX8_barred := goodIn_sub (mz_fc mz_i_wsX8_fit_28 (mz_fa (mz_fa (mz_fc mz_i_wsX8_fit_1 (mz_fc mz_i_wsX8_fit_29 (mz_fc mz_i_wsX8_fit_30 (mz_fc mz_i_wsX8_fit_31 (mz_fc mz_i_wsX8_fit_5 (mz_fc mz_i_wsX8_fit_32 (mz_fc mz_i_wsX8_fit_33 (mz_fc mz_i_wsX8_fit_34 (mz_fc mz_i_wsX8_fit_35 (mz_fc mz_i_wsX8_fit_36 (mz_fc mz_i_wsX8_fit_37 (mz_fc mz_i_wsX8_fit_38 (mz_fc mz_i_wsX8_fit_20 (mz_fc mz_i_wsX8_fit_21 (mz_fc mz_i_wsX8_fit_22 (mz_fc mz_i_wsX8_fit_23 (mz_fc mz_i_wsX8_fit_24 (mz_fc mz_i_wsX8_fit_39 (mz_fc mz_i_wsX8_fit_40 (mz_fc mz_i_wsX8_fit_41 (mz_fc mz_i_wsX8_fit_42 (mz_fc mz_i_wsX8_fit_43 (mz_fc mz_i_wsX8_fit_44 (mz_fc mz_i_wsX8_fit_45 mz_fn)))))))))))))))))))))))) (mz_fc mz_i_wsX8_fit_46 mz_fn)) (mz_f_wsX8_fit_wsX80))) (by decide +kernel)
theorem mz_i_wsX8_fit_27 : (.selects RX8 yX8_barred yX8_barred : Cond) ∈ wsX8_fit := mz_mt (mz_ml (mz_mr (mz_mt (mz_mt mz_mh))))
theorem mz_i_wsX8_fit_26 : (.instanceMethod yX8_barred : Cond) ∈ wsX8_fit := mz_mt (mz_ml (mz_mr (mz_mt mz_mh)))
theorem mz_i_wsX8_fit_25 : (.methodLink RX8 131 yX8_barred : Cond) ∈ wsX8_fit := mz_mt (mz_ml (mz_mr mz_mh))
set_option maxRecDepth 20000 in
theorem gX8_fit_X8_barred : GoodIn wsX8_fit (wsV RX8 131 RX8 yX8_barred wsX8_barred) := goodIn_app (goodIn_sub (mz_fc mz_i_wsX8_fit_25 (mz_fc mz_i_wsX8_fit_26 (mz_fc mz_i_wsX8_fit_27 (mz_fc mz_i_wsX8_fit_5 mz_fn)))) (by decide +kernel)) ggX8_fit_X8_barred
theorem dX8_fit_0 : decode cX8_fit 0 = .ok (.aload_n 0, 1) := by decide +kernel
theorem dX8_fit_1 : decode cX8_fit 1 = .ok (.iload_n 1, 1) := by decide +kernel
theorem dX8_fit_2 : decode cX8_fit 2 = .ok (.invokevirtual 71, 3) := by decide +kernel
theorem dX8_fit_5 : decode cX8_fit 5 = .ok (.ifCond .eq 53, 3) := by decide +kernel
theorem dX8_fit_8 : decode cX8_fit 8 = .ok (.aload_n 0, 1) := by decide +kernel
theorem dX8_fit_9 : decode cX8_fit 9 = .ok (.iload_n 2, 1) := by decide +kernel
theorem dX8_fit_10 : decode cX8_fit 10 = .ok (.invokevirtual 71, 3) := by decide +kernel
theorem dX8_fit_13 : decode cX8_fit 13 = .ok (.ifCond .eq 45, 3) := by decide +kernel
theorem dX8_fit_16 : decode cX8_fit 16 = .ok (.iload_n 1, 1) := by decide +kernel
theorem dX8_fit_17 : decode cX8_fit 17 = .ok (.iload_n 2, 1) := by decide +kernel
theorem dX8_fit_18 : decode cX8_fit 18 = .ok (.if_icmp .eq 40, 3) := by decide +kernel
theorem dX8_fit_21 : decode cX8_fit 21 = .ok (.aload_n 0, 1) := by decide +kernel
theorem dX8_fit_22 : decode cX8_fit 22 = .ok (.iload_n 3, 1) := by decide +kernel
theorem dX8_fit_23 : decode cX8_fit 23 = .ok (.invokevirtual 63, 3) := by decide +kernel
theorem dX8_fit_26 : decode cX8_fit 26 = .ok (.ifCond .eq 32, 3) := by decide +kernel
theorem dX8_fit_29 : decode cX8_fit 29 = .ok (.iload_n 3, 1) := by decide +kernel
theorem dX8_fit_30 : decode cX8_fit 30 = .ok (.aload_n 0, 1) := by decide +kernel
theorem dX8_fit_31 : decode cX8_fit 31 = .ok (.invokevirtual 134, 3) := by decide +kernel
theorem dX8_fit_34 : decode cX8_fit 34 = .ok (.iconst (-1), 1) := by decide +kernel
theorem dX8_fit_35 : decode cX8_fit 35 = .ok (.ixor, 1) := by decide +kernel
theorem dX8_fit_36 : decode cX8_fit 36 = .ok (.iand, 1) := by decide +kernel
theorem dX8_fit_37 : decode cX8_fit 37 = .ok (.ifCond .ne 21, 3) := by decide +kernel
theorem dX8_fit_40 : decode cX8_fit 40 = .ok (.iload_n 3, 1) := by decide +kernel
theorem dX8_fit_41 : decode cX8_fit 41 = .ok (.iload_n 1, 1) := by decide +kernel
theorem dX8_fit_42 : decode cX8_fit 42 = .ok (.ishr, 1) := by decide +kernel
theorem dX8_fit_43 : decode cX8_fit 43 = .ok (.iconst 1, 1) := by decide +kernel
theorem dX8_fit_44 : decode cX8_fit 44 = .ok (.iand, 1) := by decide +kernel
theorem dX8_fit_45 : decode cX8_fit 45 = .ok (.iconst 1, 1) := by decide +kernel
theorem dX8_fit_46 : decode cX8_fit 46 = .ok (.if_icmp .eq 12, 3) := by decide +kernel
theorem dX8_fit_49 : decode cX8_fit 49 = .ok (.iload_n 3, 1) := by decide +kernel
theorem dX8_fit_50 : decode cX8_fit 50 = .ok (.iload_n 2, 1) := by decide +kernel
theorem dX8_fit_51 : decode cX8_fit 51 = .ok (.ishr, 1) := by decide +kernel
theorem dX8_fit_52 : decode cX8_fit 52 = .ok (.iconst 1, 1) := by decide +kernel
theorem dX8_fit_53 : decode cX8_fit 53 = .ok (.iand, 1) := by decide +kernel
theorem dX8_fit_54 : decode cX8_fit 54 = .ok (.iconst 1, 1) := by decide +kernel
theorem dX8_fit_55 : decode cX8_fit 55 = .ok (.if_icmp .ne 5, 3) := by decide +kernel
theorem dX8_fit_58 : decode cX8_fit 58 = .ok (.iconst 0, 1) := by decide +kernel
theorem dX8_fit_59 : decode cX8_fit 59 = .ok (.ireturn, 1) := by decide +kernel
theorem dX8_fit_60 : decode cX8_fit 60 = .ok (.aload_n 0, 1) := by decide +kernel
theorem dX8_fit_61 : decode cX8_fit 61 = .ok (.iload_n 1, 1) := by decide +kernel
theorem dX8_fit_62 : decode cX8_fit 62 = .ok (.iconst 0, 1) := by decide +kernel
theorem dX8_fit_63 : decode cX8_fit 63 = .ok (.invokevirtual 82, 3) := by decide +kernel
theorem dX8_fit_66 : decode cX8_fit 66 = .ok (.istore 4, 2) := by decide +kernel
theorem dX8_fit_68 : decode cX8_fit 68 = .ok (.iload 4, 2) := by decide +kernel
theorem dX8_fit_70 : decode cX8_fit 70 = .ok (.iload_n 2, 1) := by decide +kernel
theorem dX8_fit_71 : decode cX8_fit 71 = .ok (.ishr, 1) := by decide +kernel
theorem dX8_fit_72 : decode cX8_fit 72 = .ok (.iconst 1, 1) := by decide +kernel
theorem dX8_fit_73 : decode cX8_fit 73 = .ok (.iand, 1) := by decide +kernel
theorem dX8_fit_74 : decode cX8_fit 74 = .ok (.ifCond .ne 17, 3) := by decide +kernel
theorem dX8_fit_77 : decode cX8_fit 77 = .ok (.aload_n 0, 1) := by decide +kernel
theorem dX8_fit_78 : decode cX8_fit 78 = .ok (.iconst 1, 1) := by decide +kernel
theorem dX8_fit_79 : decode cX8_fit 79 = .ok (.iload_n 1, 1) := by decide +kernel
theorem dX8_fit_80 : decode cX8_fit 80 = .ok (.ishl, 1) := by decide +kernel
theorem dX8_fit_81 : decode cX8_fit 81 = .ok (.iconst 1, 1) := by decide +kernel
theorem dX8_fit_82 : decode cX8_fit 82 = .ok (.iload_n 2, 1) := by decide +kernel
theorem dX8_fit_83 : decode cX8_fit 83 = .ok (.ishl, 1) := by decide +kernel
theorem dX8_fit_84 : decode cX8_fit 84 = .ok (.iload_n 3, 1) := by decide +kernel
theorem dX8_fit_85 : decode cX8_fit 85 = .ok (.iconst 0, 1) := by decide +kernel
theorem dX8_fit_86 : decode cX8_fit 86 = .ok (.iconst 0, 1) := by decide +kernel
theorem dX8_fit_87 : decode cX8_fit 87 = .ok (.invokevirtual 131, 3) := by decide +kernel
theorem dX8_fit_90 : decode cX8_fit 90 = .ok (.ireturn, 1) := by decide +kernel
theorem dX8_fit_91 : decode cX8_fit 91 = .ok (.iconst 1, 1) := by decide +kernel
theorem dX8_fit_92 : decode cX8_fit 92 = .ok (.iload_n 2, 1) := by decide +kernel
theorem dX8_fit_93 : decode cX8_fit 93 = .ok (.ishl, 1) := by decide +kernel
theorem dX8_fit_94 : decode cX8_fit 94 = .ok (.istore 5, 2) := by decide +kernel
theorem dX8_fit_96 : decode cX8_fit 96 = .ok (.iconst 0, 1) := by decide +kernel
theorem dX8_fit_97 : decode cX8_fit 97 = .ok (.istore 6, 2) := by decide +kernel
theorem dX8_fit_99 : decode cX8_fit 99 = .ok (.iload 6, 2) := by decide +kernel
theorem dX8_fit_101 : decode cX8_fit 101 = .ok (.aload_n 0, 1) := by decide +kernel
theorem dX8_fit_102 : decode cX8_fit 102 = .ok (.getfield 58, 3) := by decide +kernel
theorem dX8_fit_105 : decode cX8_fit 105 = .ok (.if_icmp .ge 44, 3) := by decide +kernel
theorem dX8_fit_108 : decode cX8_fit 108 = .ok (.iload 4, 2) := by decide +kernel
theorem dX8_fit_110 : decode cX8_fit 110 = .ok (.iload 6, 2) := by decide +kernel
theorem dX8_fit_112 : decode cX8_fit 112 = .ok (.ishr, 1) := by decide +kernel
theorem dX8_fit_113 : decode cX8_fit 113 = .ok (.iconst 1, 1) := by decide +kernel
theorem dX8_fit_114 : decode cX8_fit 114 = .ok (.iand, 1) := by decide +kernel
theorem dX8_fit_115 : decode cX8_fit 115 = .ok (.iconst 1, 1) := by decide +kernel
theorem dX8_fit_116 : decode cX8_fit 116 = .ok (.if_icmp .ne 27, 3) := by decide +kernel
theorem dX8_fit_119 : decode cX8_fit 119 = .ok (.aload_n 0, 1) := by decide +kernel
theorem dX8_fit_120 : decode cX8_fit 120 = .ok (.iload 6, 2) := by decide +kernel
theorem dX8_fit_122 : decode cX8_fit 122 = .ok (.iconst 0, 1) := by decide +kernel
theorem dX8_fit_123 : decode cX8_fit 123 = .ok (.invokevirtual 82, 3) := by decide +kernel
theorem dX8_fit_126 : decode cX8_fit 126 = .ok (.iload_n 2, 1) := by decide +kernel
theorem dX8_fit_127 : decode cX8_fit 127 = .ok (.ishr, 1) := by decide +kernel
theorem dX8_fit_128 : decode cX8_fit 128 = .ok (.iconst 1, 1) := by decide +kernel
theorem dX8_fit_129 : decode cX8_fit 129 = .ok (.iand, 1) := by decide +kernel
theorem dX8_fit_130 : decode cX8_fit 130 = .ok (.iconst 1, 1) := by decide +kernel
theorem dX8_fit_131 : decode cX8_fit 131 = .ok (.if_icmp .ne 12, 3) := by decide +kernel
theorem dX8_fit_134 : decode cX8_fit 134 = .ok (.iload 5, 2) := by decide +kernel
theorem dX8_fit_136 : decode cX8_fit 136 = .ok (.iconst 1, 1) := by decide +kernel
theorem dX8_fit_137 : decode cX8_fit 137 = .ok (.iload 6, 2) := by decide +kernel
theorem dX8_fit_139 : decode cX8_fit 139 = .ok (.ishl, 1) := by decide +kernel
theorem dX8_fit_140 : decode cX8_fit 140 = .ok (.ior, 1) := by decide +kernel
theorem dX8_fit_141 : decode cX8_fit 141 = .ok (.istore 5, 2) := by decide +kernel
theorem dX8_fit_143 : decode cX8_fit 143 = .ok (.iinc 6 1, 3) := by decide +kernel
theorem dX8_fit_146 : decode cX8_fit 146 = .ok (.goto (-47), 3) := by decide +kernel
theorem dX8_fit_149 : decode cX8_fit 149 = .ok (.iconst 0, 1) := by decide +kernel
theorem dX8_fit_150 : decode cX8_fit 150 = .ok (.istore 6, 2) := by decide +kernel
theorem dX8_fit_152 : decode cX8_fit 152 = .ok (.iload 6, 2) := by decide +kernel
theorem dX8_fit_154 : decode cX8_fit 154 = .ok (.aload_n 0, 1) := by decide +kernel
theorem dX8_fit_155 : decode cX8_fit 155 = .ok (.getfield 58, 3) := by decide +kernel
theorem dX8_fit_158 : decode cX8_fit 158 = .ok (.if_icmp .ge 39, 3) := by decide +kernel
theorem dX8_fit_161 : decode cX8_fit 161 = .ok (.iload 5, 2) := by decide +kernel
theorem dX8_fit_163 : decode cX8_fit 163 = .ok (.iload 6, 2) := by decide +kernel
theorem dX8_fit_165 : decode cX8_fit 165 = .ok (.ishr, 1) := by decide +kernel
theorem dX8_fit_166 : decode cX8_fit 166 = .ok (.iconst 1, 1) := by decide +kernel
theorem dX8_fit_167 : decode cX8_fit 167 = .ok (.iand, 1) := by decide +kernel
theorem dX8_fit_168 : decode cX8_fit 168 = .ok (.iconst 1, 1) := by decide +kernel
theorem dX8_fit_169 : decode cX8_fit 169 = .ok (.if_icmp .ne 22, 3) := by decide +kernel
theorem dX8_fit_172 : decode cX8_fit 172 = .ok (.iload_n 3, 1) := by decide +kernel
theorem dX8_fit_173 : decode cX8_fit 173 = .ok (.iconst 1, 1) := by decide +kernel
theorem dX8_fit_174 : decode cX8_fit 174 = .ok (.iload 6, 2) := by decide +kernel
theorem dX8_fit_176 : decode cX8_fit 176 = .ok (.ishl, 1) := by decide +kernel
theorem dX8_fit_177 : decode cX8_fit 177 = .ok (.aload_n 0, 1) := by decide +kernel
theorem dX8_fit_178 : decode cX8_fit 178 = .ok (.iload 6, 2) := by decide +kernel
theorem dX8_fit_180 : decode cX8_fit 180 = .ok (.iconst 0, 1) := by decide +kernel
theorem dX8_fit_181 : decode cX8_fit 181 = .ok (.invokevirtual 82, 3) := by decide +kernel
theorem dX8_fit_184 : decode cX8_fit 184 = .ok (.ior, 1) := by decide +kernel
theorem dX8_fit_185 : decode cX8_fit 185 = .ok (.iand, 1) := by decide +kernel
theorem dX8_fit_186 : decode cX8_fit 186 = .ok (.ifCond .eq 5, 3) := by decide +kernel
theorem dX8_fit_189 : decode cX8_fit 189 = .ok (.iconst 0, 1) := by decide +kernel
theorem dX8_fit_190 : decode cX8_fit 190 = .ok (.ireturn, 1) := by decide +kernel
theorem dX8_fit_191 : decode cX8_fit 191 = .ok (.iinc 6 1, 3) := by decide +kernel
theorem dX8_fit_194 : decode cX8_fit 194 = .ok (.goto (-42), 3) := by decide +kernel
theorem dX8_fit_197 : decode cX8_fit 197 = .ok (.aload_n 0, 1) := by decide +kernel
theorem dX8_fit_198 : decode cX8_fit 198 = .ok (.iconst 1, 1) := by decide +kernel
theorem dX8_fit_199 : decode cX8_fit 199 = .ok (.iload_n 1, 1) := by decide +kernel
theorem dX8_fit_200 : decode cX8_fit 200 = .ok (.ishl, 1) := by decide +kernel
theorem dX8_fit_201 : decode cX8_fit 201 = .ok (.iconst 1, 1) := by decide +kernel
theorem dX8_fit_202 : decode cX8_fit 202 = .ok (.iload_n 2, 1) := by decide +kernel
theorem dX8_fit_203 : decode cX8_fit 203 = .ok (.ishl, 1) := by decide +kernel
theorem dX8_fit_204 : decode cX8_fit 204 = .ok (.iload_n 3, 1) := by decide +kernel
theorem dX8_fit_205 : decode cX8_fit 205 = .ok (.iload_n 1, 1) := by decide +kernel
theorem dX8_fit_206 : decode cX8_fit 206 = .ok (.iload 5, 2) := by decide +kernel
theorem dX8_fit_208 : decode cX8_fit 208 = .ok (.invokevirtual 131, 3) := by decide +kernel
theorem dX8_fit_211 : decode cX8_fit 211 = .ok (.ireturn, 1) := by decide +kernel
theorem mz_i_wsX8_agrees_10 : (.code yX8_isThing cX8_isThing 2 (some .boolean) : Cond) ∈ wsX8_agrees := mz_mt (mz_ml (mz_ml (mz_mt (mz_mt (mz_mt (mz_mt (mz_mt (mz_mt (mz_mt (mz_mt (mz_mt mz_mh)))))))))))
theorem mz_i_wsX8_agrees_11 : (.fieldLink RX8 58 "MadeItSoModel" "many" "I" : Cond) ∈ wsX8_agrees := mz_mt (mz_ml (mz_ml (mz_mt (mz_mt (mz_mt (mz_mt (mz_mt (mz_mt (mz_mt (mz_mt (mz_mt (mz_mt mz_mh))))))))))))
theorem mz_f_wsX8_agrees_wsX80 : ∀ w ∈ wsX80, w ∈ wsX8_agrees := fun _ h => mz_mt (mz_mr h)
set_option maxRecDepth 20000 in
theorem ggX8_agrees_X8_isThing : GoodIn wsX8_agrees wsX8_isThing := goodIn_sub (mz_fc mz_i_wsX8_agrees_10 (mz_fa (mz_fc mz_i_wsX8_agrees_11 mz_fn) (mz_f_wsX8_agrees_wsX80))) (by decide +kernel)
theorem mz_i_wsX8_agrees_9 : (.initialized RX8 : Cond) ∈ wsX8_agrees := mz_mt (mz_ml (mz_ml (mz_mt (mz_mt (mz_mt (mz_mt (mz_mt (mz_mt (mz_mt (mz_mt mz_mh))))))))))
theorem mz_i_wsX8_agrees_8 : (.selects RX8 yX8_isThing yX8_isThing : Cond) ∈ wsX8_agrees := mz_mt (mz_ml (mz_ml (mz_mt (mz_mt (mz_mt (mz_mt (mz_mt (mz_mt (mz_mt mz_mh)))))))))
theorem mz_i_wsX8_agrees_7 : (.instanceMethod yX8_isThing : Cond) ∈ wsX8_agrees := mz_mt (mz_ml (mz_ml (mz_mt (mz_mt (mz_mt (mz_mt (mz_mt (mz_mt mz_mh))))))))
theorem mz_i_wsX8_agrees_6 : (.methodLink RX8 71 yX8_isThing : Cond) ∈ wsX8_agrees := mz_mt (mz_ml (mz_ml (mz_mt (mz_mt (mz_mt (mz_mt (mz_mt mz_mh)))))))
set_option maxRecDepth 20000 in
theorem gX8_agrees_X8_isThing : GoodIn wsX8_agrees (wsV RX8 71 RX8 yX8_isThing wsX8_isThing) := goodIn_app (goodIn_sub (mz_fc mz_i_wsX8_agrees_6 (mz_fc mz_i_wsX8_agrees_7 (mz_fc mz_i_wsX8_agrees_8 (mz_fc mz_i_wsX8_agrees_9 mz_fn)))) (by decide +kernel)) ggX8_agrees_X8_isThing
theorem mz_i_wsX8_agrees_15 : (.code yX8_isHeap cX8_isHeap 2 (some .boolean) : Cond) ∈ wsX8_agrees := mz_mt (mz_ml (mz_ml (mz_mt (mz_mt (mz_mt (mz_mt (mz_mt (mz_mt (mz_mt (mz_mt (mz_mt (mz_mt (mz_mt (mz_mt (mz_mt (mz_mt mz_mh))))))))))))))))
set_option maxRecDepth 20000 in
theorem ggX8_agrees_X8_isHeap : GoodIn wsX8_agrees wsX8_isHeap := goodIn_sub (mz_fc mz_i_wsX8_agrees_15 (mz_fa (mz_fc mz_i_wsX8_agrees_11 mz_fn) (mz_f_wsX8_agrees_wsX80))) (by decide +kernel)
theorem mz_i_wsX8_agrees_14 : (.selects RX8 yX8_isHeap yX8_isHeap : Cond) ∈ wsX8_agrees := mz_mt (mz_ml (mz_ml (mz_mt (mz_mt (mz_mt (mz_mt (mz_mt (mz_mt (mz_mt (mz_mt (mz_mt (mz_mt (mz_mt (mz_mt (mz_mt mz_mh)))))))))))))))
theorem mz_i_wsX8_agrees_13 : (.instanceMethod yX8_isHeap : Cond) ∈ wsX8_agrees := mz_mt (mz_ml (mz_ml (mz_mt (mz_mt (mz_mt (mz_mt (mz_mt (mz_mt (mz_mt (mz_mt (mz_mt (mz_mt (mz_mt (mz_mt mz_mh))))))))))))))
theorem mz_i_wsX8_agrees_12 : (.methodLink RX8 63 yX8_isHeap : Cond) ∈ wsX8_agrees := mz_mt (mz_ml (mz_ml (mz_mt (mz_mt (mz_mt (mz_mt (mz_mt (mz_mt (mz_mt (mz_mt (mz_mt (mz_mt (mz_mt mz_mh)))))))))))))
set_option maxRecDepth 20000 in
theorem gX8_agrees_X8_isHeap : GoodIn wsX8_agrees (wsV RX8 63 RX8 yX8_isHeap wsX8_isHeap) := goodIn_app (goodIn_sub (mz_fc mz_i_wsX8_agrees_12 (mz_fc mz_i_wsX8_agrees_13 (mz_fc mz_i_wsX8_agrees_14 (mz_fc mz_i_wsX8_agrees_9 mz_fn)))) (by decide +kernel)) ggX8_agrees_X8_isHeap
theorem mz_i_wsX8_agrees_18 : (.code yX8_withOne cX8_withOne 3 (some .int) : Cond) ∈ wsX8_agrees := mz_mt (mz_ml (mz_ml (mz_mt (mz_mt (mz_mt (mz_mt (mz_mt (mz_mt (mz_mt (mz_mt (mz_mt (mz_mt (mz_mt (mz_mt (mz_mt (mz_mt (mz_mt (mz_mt (mz_mt mz_mh)))))))))))))))))))
set_option maxRecDepth 20000 in
theorem ggX8_agrees_X8_withOne : GoodIn wsX8_agrees wsX8_withOne := goodIn_sub (mz_fc mz_i_wsX8_agrees_18 (mz_fn)) (by decide +kernel)
theorem mz_i_wsX8_agrees_17 : (.static yX8_withOne : Cond) ∈ wsX8_agrees := mz_mt (mz_ml (mz_ml (mz_mt (mz_mt (mz_mt (mz_mt (mz_mt (mz_mt (mz_mt (mz_mt (mz_mt (mz_mt (mz_mt (mz_mt (mz_mt (mz_mt (mz_mt (mz_mt mz_mh))))))))))))))))))
theorem mz_i_wsX8_agrees_16 : (.methodLink RX8 150 yX8_withOne : Cond) ∈ wsX8_agrees := mz_mt (mz_ml (mz_ml (mz_mt (mz_mt (mz_mt (mz_mt (mz_mt (mz_mt (mz_mt (mz_mt (mz_mt (mz_mt (mz_mt (mz_mt (mz_mt (mz_mt (mz_mt mz_mh)))))))))))))))))
set_option maxRecDepth 20000 in
theorem gX8_agrees_X8_withOne : GoodIn wsX8_agrees (va_wsS RX8 150 yX8_withOne wsX8_withOne) := goodIn_app (goodIn_sub (mz_fc mz_i_wsX8_agrees_16 (mz_fc mz_i_wsX8_agrees_17 (mz_fc mz_i_wsX8_agrees_9 mz_fn))) (by decide +kernel)) ggX8_agrees_X8_withOne
theorem mz_i_wsX8_agrees_22 : (.code yX8_sum cX8_sum 6 (some .long) : Cond) ∈ wsX8_agrees := mz_mt (mz_ml (mz_ml (mz_mt (mz_mt (mz_mt (mz_mt (mz_mt (mz_mt (mz_mt (mz_mt (mz_mt (mz_mt (mz_mt (mz_mt (mz_mt (mz_mt (mz_mt (mz_mt (mz_mt (mz_mt (mz_mt (mz_mt (mz_mt mz_mh)))))))))))))))))))))))
theorem mz_i_wsX8_agrees_33 : (.fieldLink RX8 17 "MadeItSoModel" "books" "[I" : Cond) ∈ wsX8_agrees := mz_mt (mz_ml (mz_mr (mz_mt (mz_mt (mz_mt (mz_mt (mz_mt (mz_mt (mz_mt (mz_mt mz_mh))))))))))
theorem mz_i_wsX8_agrees_32 : (.fieldLink RX8 13 "MadeItSoModel" "parents" "[I" : Cond) ∈ wsX8_agrees := mz_mt (mz_ml (mz_mr (mz_mt (mz_mt (mz_mt (mz_mt (mz_mt (mz_mt (mz_mt mz_mh)))))))))
theorem mz_i_wsX8_agrees_31 : (.code yX8_partsOf cX8_partsOf 6 (some .int) : Cond) ∈ wsX8_agrees := mz_mt (mz_ml (mz_mr (mz_mt (mz_mt (mz_mt (mz_mt (mz_mt (mz_mt mz_mh))))))))
theorem mz_i_wsX8_agrees_30 : (.selects RX8 yX8_partsOf yX8_partsOf : Cond) ∈ wsX8_agrees := mz_mt (mz_ml (mz_mr (mz_mt (mz_mt (mz_mt (mz_mt (mz_mt mz_mh)))))))
theorem mz_i_wsX8_agrees_29 : (.instanceMethod yX8_partsOf : Cond) ∈ wsX8_agrees := mz_mt (mz_ml (mz_mr (mz_mt (mz_mt (mz_mt (mz_mt mz_mh))))))
theorem mz_i_wsX8_agrees_28 : (.methodLink RX8 93 yX8_partsOf : Cond) ∈ wsX8_agrees := mz_mt (mz_ml (mz_mr (mz_mt (mz_mt (mz_mt mz_mh)))))
theorem mz_i_wsX8_agrees_27 : (.constantLong RX8 96 (100) : Cond) ∈ wsX8_agrees := mz_mt (mz_ml (mz_mr (mz_mt (mz_mt mz_mh))))
theorem mz_i_wsX8_agrees_26 : (.code yX8_weightOf cX8_weightOf 7 (some .long) : Cond) ∈ wsX8_agrees := mz_mt (mz_ml (mz_mr (mz_mt mz_mh)))
theorem mz_i_wsX8_agrees_25 : (.selects RX8 yX8_weightOf yX8_weightOf : Cond) ∈ wsX8_agrees := mz_mt (mz_ml (mz_mr mz_mh))
theorem mz_i_wsX8_agrees_24 : (.instanceMethod yX8_weightOf : Cond) ∈ wsX8_agrees := mz_mt (mz_ml (mz_ml (mz_mt (mz_mt (mz_mt (mz_mt (mz_mt (mz_mt (mz_mt (mz_mt (mz_mt (mz_mt (mz_mt (mz_mt (mz_mt (mz_mt (mz_mt (mz_mt (mz_mt (mz_mt (mz_mt (mz_mt (mz_mt (mz_mt (mz_mt mz_mh)))))))))))))))))))))))))
theorem mz_i_wsX8_agrees_23 : (.methodLink RX8 98 yX8_weightOf : Cond) ∈ wsX8_agrees := mz_mt (mz_ml (mz_ml (mz_mt (mz_mt (mz_mt (mz_mt (mz_mt (mz_mt (mz_mt (mz_mt (mz_mt (mz_mt (mz_mt (mz_mt (mz_mt (mz_mt (mz_mt (mz_mt (mz_mt (mz_mt (mz_mt (mz_mt (mz_mt (mz_mt mz_mh))))))))))))))))))))))))
set_option maxRecDepth 20000 in
theorem ggX8_agrees_X8_sum : GoodIn wsX8_agrees wsX8_sum := goodIn_sub (mz_fc mz_i_wsX8_agrees_22 (mz_fa (mz_fc mz_i_wsX8_agrees_11 (mz_fc mz_i_wsX8_agrees_23 (mz_fc mz_i_wsX8_agrees_24 (mz_fc mz_i_wsX8_agrees_25 (mz_fc mz_i_wsX8_agrees_9 (mz_fc mz_i_wsX8_agrees_26 (mz_fc mz_i_wsX8_agrees_27 (mz_fc mz_i_wsX8_agrees_28 (mz_fc mz_i_wsX8_agrees_29 (mz_fc mz_i_wsX8_agrees_30 (mz_fc mz_i_wsX8_agrees_31 (mz_fc mz_i_wsX8_agrees_32 (mz_fc mz_i_wsX8_agrees_33 mz_fn))))))))))))) (mz_f_wsX8_agrees_wsX80))) (by decide +kernel)
theorem mz_i_wsX8_agrees_21 : (.selects RX8 yX8_sum yX8_sum : Cond) ∈ wsX8_agrees := mz_mt (mz_ml (mz_ml (mz_mt (mz_mt (mz_mt (mz_mt (mz_mt (mz_mt (mz_mt (mz_mt (mz_mt (mz_mt (mz_mt (mz_mt (mz_mt (mz_mt (mz_mt (mz_mt (mz_mt (mz_mt (mz_mt (mz_mt mz_mh))))))))))))))))))))))
theorem mz_i_wsX8_agrees_20 : (.instanceMethod yX8_sum : Cond) ∈ wsX8_agrees := mz_mt (mz_ml (mz_ml (mz_mt (mz_mt (mz_mt (mz_mt (mz_mt (mz_mt (mz_mt (mz_mt (mz_mt (mz_mt (mz_mt (mz_mt (mz_mt (mz_mt (mz_mt (mz_mt (mz_mt (mz_mt (mz_mt mz_mh)))))))))))))))))))))
theorem mz_i_wsX8_agrees_19 : (.methodLink RX8 105 yX8_sum : Cond) ∈ wsX8_agrees := mz_mt (mz_ml (mz_ml (mz_mt (mz_mt (mz_mt (mz_mt (mz_mt (mz_mt (mz_mt (mz_mt (mz_mt (mz_mt (mz_mt (mz_mt (mz_mt (mz_mt (mz_mt (mz_mt (mz_mt (mz_mt mz_mh))))))))))))))))))))
set_option maxRecDepth 20000 in
theorem gX8_agrees_X8_sum : GoodIn wsX8_agrees (wsV RX8 105 RX8 yX8_sum wsX8_sum) := goodIn_app (goodIn_sub (mz_fc mz_i_wsX8_agrees_19 (mz_fc mz_i_wsX8_agrees_20 (mz_fc mz_i_wsX8_agrees_21 (mz_fc mz_i_wsX8_agrees_9 mz_fn)))) (by decide +kernel)) ggX8_agrees_X8_sum
theorem mz_i_wsX8_agrees_36 : (.code yX8_shared cX8_shared 10 (some .long) : Cond) ∈ wsX8_agrees := mz_mt (mz_ml (mz_mr (mz_mt (mz_mt (mz_mt (mz_mt (mz_mt (mz_mt (mz_mt (mz_mt (mz_mt (mz_mt (mz_mt mz_mh)))))))))))))
set_option maxRecDepth 20000 in
theorem ggX8_agrees_X8_shared : GoodIn wsX8_agrees wsX8_shared := goodIn_sub (mz_fc mz_i_wsX8_agrees_36 (mz_fn)) (by decide +kernel)
theorem mz_i_wsX8_agrees_35 : (.static yX8_shared : Cond) ∈ wsX8_agrees := mz_mt (mz_ml (mz_mr (mz_mt (mz_mt (mz_mt (mz_mt (mz_mt (mz_mt (mz_mt (mz_mt (mz_mt (mz_mt mz_mh))))))))))))
theorem mz_i_wsX8_agrees_34 : (.methodLink RX8 113 yX8_shared : Cond) ∈ wsX8_agrees := mz_mt (mz_ml (mz_mr (mz_mt (mz_mt (mz_mt (mz_mt (mz_mt (mz_mt (mz_mt (mz_mt (mz_mt mz_mh)))))))))))
set_option maxRecDepth 20000 in
theorem gX8_agrees_X8_shared : GoodIn wsX8_agrees (va_wsS RX8 113 yX8_shared wsX8_shared) := goodIn_app (goodIn_sub (mz_fc mz_i_wsX8_agrees_34 (mz_fc mz_i_wsX8_agrees_35 (mz_fc mz_i_wsX8_agrees_9 mz_fn))) (by decide +kernel)) ggX8_agrees_X8_shared
theorem mz_i_wsX8_agrees_40 : (.code yX8_adds cX8_adds 10 none : Cond) ∈ wsX8_agrees := mz_mt (mz_ml (mz_mr (mz_mt (mz_mt (mz_mt (mz_mt (mz_mt (mz_mt (mz_mt (mz_mt (mz_mt (mz_mt (mz_mt (mz_mt (mz_mt (mz_mt (mz_mt mz_mh)))))))))))))))))
theorem mz_i_wsX8_agrees_45 : (.code yX8_times cX8_times 12 none : Cond) ∈ wsX8_agrees := mz_mt (mz_ml (mz_mr (mz_mt (mz_mt (mz_mt (mz_mt (mz_mt (mz_mt (mz_mt (mz_mt (mz_mt (mz_mt (mz_mt (mz_mt (mz_mt (mz_mt (mz_mt (mz_mt (mz_mt (mz_mt (mz_mt (mz_mt mz_mh))))))))))))))))))))))
theorem mz_i_wsX8_agrees_44 : (.selects RX8 yX8_times yX8_times : Cond) ∈ wsX8_agrees := mz_mt (mz_ml (mz_mr (mz_mt (mz_mt (mz_mt (mz_mt (mz_mt (mz_mt (mz_mt (mz_mt (mz_mt (mz_mt (mz_mt (mz_mt (mz_mt (mz_mt (mz_mt (mz_mt (mz_mt (mz_mt (mz_mt mz_mh)))))))))))))))))))))
theorem mz_i_wsX8_agrees_43 : (.instanceMethod yX8_times : Cond) ∈ wsX8_agrees := mz_mt (mz_ml (mz_mr (mz_mt (mz_mt (mz_mt (mz_mt (mz_mt (mz_mt (mz_mt (mz_mt (mz_mt (mz_mt (mz_mt (mz_mt (mz_mt (mz_mt (mz_mt (mz_mt (mz_mt (mz_mt mz_mh))))))))))))))))))))
theorem mz_i_wsX8_agrees_42 : (.methodLink RX8 146 yX8_times : Cond) ∈ wsX8_agrees := mz_mt (mz_ml (mz_mr (mz_mt (mz_mt (mz_mt (mz_mt (mz_mt (mz_mt (mz_mt (mz_mt (mz_mt (mz_mt (mz_mt (mz_mt (mz_mt (mz_mt (mz_mt (mz_mt (mz_mt mz_mh)))))))))))))))))))
theorem mz_i_wsX8_agrees_41 : (.constantLong RX8 144 (16777215) : Cond) ∈ wsX8_agrees := mz_mt (mz_ml (mz_mr (mz_mt (mz_mt (mz_mt (mz_mt (mz_mt (mz_mt (mz_mt (mz_mt (mz_mt (mz_mt (mz_mt (mz_mt (mz_mt (mz_mt (mz_mt (mz_mt mz_mh))))))))))))))))))
theorem mz_i_wsX8_agrees_2 : (.fieldLink RX8 37 "MadeItSoModel" "down" "[J" : Cond) ∈ wsX8_agrees := mz_mt (mz_ml (mz_ml (mz_mt mz_mh)))
theorem mz_i_wsX8_agrees_5 : (.fieldLink RX8 40 "MadeItSoModel" "helper" "[J" : Cond) ∈ wsX8_agrees := mz_mt (mz_ml (mz_ml (mz_mt (mz_mt (mz_mt (mz_mt mz_mh))))))
theorem mz_i_wsX8_agrees_1 : (.fieldLink RX8 33 "MadeItSoModel" "up" "[J" : Cond) ∈ wsX8_agrees := mz_mt (mz_ml (mz_ml mz_mh))
set_option maxRecDepth 20000 in
theorem ggX8_agrees_X8_adds : GoodIn wsX8_agrees wsX8_adds := goodIn_sub (mz_fc mz_i_wsX8_agrees_40 (mz_fa (mz_fc mz_i_wsX8_agrees_1 (mz_fc mz_i_wsX8_agrees_5 (mz_fc mz_i_wsX8_agrees_2 (mz_fc mz_i_wsX8_agrees_41 (mz_fc mz_i_wsX8_agrees_42 (mz_fc mz_i_wsX8_agrees_43 (mz_fc mz_i_wsX8_agrees_44 (mz_fc mz_i_wsX8_agrees_9 (mz_fc mz_i_wsX8_agrees_45 mz_fn))))))))) (mz_f_wsX8_agrees_wsX80))) (by decide +kernel)
theorem mz_i_wsX8_agrees_39 : (.selects RX8 yX8_adds yX8_adds : Cond) ∈ wsX8_agrees := mz_mt (mz_ml (mz_mr (mz_mt (mz_mt (mz_mt (mz_mt (mz_mt (mz_mt (mz_mt (mz_mt (mz_mt (mz_mt (mz_mt (mz_mt (mz_mt (mz_mt mz_mh))))))))))))))))
theorem mz_i_wsX8_agrees_38 : (.instanceMethod yX8_adds : Cond) ∈ wsX8_agrees := mz_mt (mz_ml (mz_mr (mz_mt (mz_mt (mz_mt (mz_mt (mz_mt (mz_mt (mz_mt (mz_mt (mz_mt (mz_mt (mz_mt (mz_mt (mz_mt mz_mh)))))))))))))))
theorem mz_i_wsX8_agrees_37 : (.methodLink RX8 155 yX8_adds : Cond) ∈ wsX8_agrees := mz_mt (mz_ml (mz_mr (mz_mt (mz_mt (mz_mt (mz_mt (mz_mt (mz_mt (mz_mt (mz_mt (mz_mt (mz_mt (mz_mt (mz_mt mz_mh))))))))))))))
set_option maxRecDepth 20000 in
theorem gX8_agrees_X8_adds : GoodIn wsX8_agrees (wsV RX8 155 RX8 yX8_adds wsX8_adds) := goodIn_app (goodIn_sub (mz_fc mz_i_wsX8_agrees_37 (mz_fc mz_i_wsX8_agrees_38 (mz_fc mz_i_wsX8_agrees_39 (mz_fc mz_i_wsX8_agrees_9 mz_fn)))) (by decide +kernel)) ggX8_agrees_X8_adds
set_option maxRecDepth 20000 in
theorem ggX8_agrees_X8_times : GoodIn wsX8_agrees wsX8_times := goodIn_sub (mz_fc mz_i_wsX8_agrees_45 (mz_fa (mz_fc mz_i_wsX8_agrees_5 (mz_fc mz_i_wsX8_agrees_41 mz_fn)) (mz_f_wsX8_agrees_wsX80))) (by decide +kernel)
set_option maxRecDepth 20000 in
theorem gX8_agrees_X8_times : GoodIn wsX8_agrees (wsV RX8 146 RX8 yX8_times wsX8_times) := goodIn_app (goodIn_sub (mz_fc mz_i_wsX8_agrees_42 (mz_fc mz_i_wsX8_agrees_43 (mz_fc mz_i_wsX8_agrees_44 (mz_fc mz_i_wsX8_agrees_9 mz_fn)))) (by decide +kernel)) ggX8_agrees_X8_times
theorem dX8_agrees_0 : decode cX8_agrees 0 = .ok (.aload_n 0, 1) := by decide +kernel
theorem dX8_agrees_1 : decode cX8_agrees 1 = .ok (.iload_n 1, 1) := by decide +kernel
theorem dX8_agrees_2 : decode cX8_agrees 2 = .ok (.invokevirtual 71, 3) := by decide +kernel
theorem dX8_agrees_5 : decode cX8_agrees 5 = .ok (.ifCond .eq 64, 3) := by decide +kernel
theorem dX8_agrees_8 : decode cX8_agrees 8 = .ok (.aload_n 0, 1) := by decide +kernel
theorem dX8_agrees_9 : decode cX8_agrees 9 = .ok (.iload_n 2, 1) := by decide +kernel
theorem dX8_agrees_10 : decode cX8_agrees 10 = .ok (.invokevirtual 71, 3) := by decide +kernel
theorem dX8_agrees_13 : decode cX8_agrees 13 = .ok (.ifCond .eq 56, 3) := by decide +kernel
theorem dX8_agrees_16 : decode cX8_agrees 16 = .ok (.iload_n 1, 1) := by decide +kernel
theorem dX8_agrees_17 : decode cX8_agrees 17 = .ok (.iload_n 2, 1) := by decide +kernel
theorem dX8_agrees_18 : decode cX8_agrees 18 = .ok (.if_icmp .eq 51, 3) := by decide +kernel
theorem dX8_agrees_21 : decode cX8_agrees 21 = .ok (.aload_n 0, 1) := by decide +kernel
theorem dX8_agrees_22 : decode cX8_agrees 22 = .ok (.iload_n 3, 1) := by decide +kernel
theorem dX8_agrees_23 : decode cX8_agrees 23 = .ok (.invokevirtual 63, 3) := by decide +kernel
theorem dX8_agrees_26 : decode cX8_agrees 26 = .ok (.ifCond .eq 43, 3) := by decide +kernel
theorem dX8_agrees_29 : decode cX8_agrees 29 = .ok (.iload_n 3, 1) := by decide +kernel
theorem dX8_agrees_30 : decode cX8_agrees 30 = .ok (.iload_n 1, 1) := by decide +kernel
theorem dX8_agrees_31 : decode cX8_agrees 31 = .ok (.ishr, 1) := by decide +kernel
theorem dX8_agrees_32 : decode cX8_agrees 32 = .ok (.iconst 1, 1) := by decide +kernel
theorem dX8_agrees_33 : decode cX8_agrees 33 = .ok (.iand, 1) := by decide +kernel
theorem dX8_agrees_34 : decode cX8_agrees 34 = .ok (.iconst 1, 1) := by decide +kernel
theorem dX8_agrees_35 : decode cX8_agrees 35 = .ok (.if_icmp .eq 34, 3) := by decide +kernel
theorem dX8_agrees_38 : decode cX8_agrees 38 = .ok (.iload_n 3, 1) := by decide +kernel
theorem dX8_agrees_39 : decode cX8_agrees 39 = .ok (.iload_n 2, 1) := by decide +kernel
theorem dX8_agrees_40 : decode cX8_agrees 40 = .ok (.ishr, 1) := by decide +kernel
theorem dX8_agrees_41 : decode cX8_agrees 41 = .ok (.iconst 1, 1) := by decide +kernel
theorem dX8_agrees_42 : decode cX8_agrees 42 = .ok (.iand, 1) := by decide +kernel
theorem dX8_agrees_43 : decode cX8_agrees 43 = .ok (.iconst 1, 1) := by decide +kernel
theorem dX8_agrees_44 : decode cX8_agrees 44 = .ok (.if_icmp .eq 25, 3) := by decide +kernel
theorem dX8_agrees_47 : decode cX8_agrees 47 = .ok (.iload 4, 2) := by decide +kernel
theorem dX8_agrees_49 : decode cX8_agrees 49 = .ok (.ifCond .lt 20, 3) := by decide +kernel
theorem dX8_agrees_52 : decode cX8_agrees 52 = .ok (.iload 4, 2) := by decide +kernel
theorem dX8_agrees_54 : decode cX8_agrees 54 = .ok (.iconst 1, 1) := by decide +kernel
theorem dX8_agrees_55 : decode cX8_agrees 55 = .ok (.if_icmp .gt 14, 3) := by decide +kernel
theorem dX8_agrees_58 : decode cX8_agrees 58 = .ok (.iload 5, 2) := by decide +kernel
theorem dX8_agrees_60 : decode cX8_agrees 60 = .ok (.ifCond .lt 9, 3) := by decide +kernel
theorem dX8_agrees_63 : decode cX8_agrees 63 = .ok (.iload 5, 2) := by decide +kernel
theorem dX8_agrees_65 : decode cX8_agrees 65 = .ok (.iconst 1, 1) := by decide +kernel
theorem dX8_agrees_66 : decode cX8_agrees 66 = .ok (.if_icmp .le 5, 3) := by decide +kernel
theorem dX8_agrees_69 : decode cX8_agrees 69 = .ok (.iconst (-1), 1) := by decide +kernel
theorem dX8_agrees_70 : decode cX8_agrees 70 = .ok (.ireturn, 1) := by decide +kernel
theorem dX8_agrees_71 : decode cX8_agrees 71 = .ok (.aload_n 0, 1) := by decide +kernel
theorem dX8_agrees_72 : decode cX8_agrees 72 = .ok (.iconst 0, 1) := by decide +kernel
theorem dX8_agrees_73 : decode cX8_agrees 73 = .ok (.iload_n 2, 1) := by decide +kernel
theorem dX8_agrees_74 : decode cX8_agrees 74 = .ok (.iload 5, 2) := by decide +kernel
theorem dX8_agrees_76 : decode cX8_agrees 76 = .ok (.invokestatic 150, 3) := by decide +kernel
theorem dX8_agrees_79 : decode cX8_agrees 79 = .ok (.iconst 0, 1) := by decide +kernel
theorem dX8_agrees_80 : decode cX8_agrees 80 = .ok (.iload_n 1, 1) := by decide +kernel
theorem dX8_agrees_81 : decode cX8_agrees 81 = .ok (.iload 4, 2) := by decide +kernel
theorem dX8_agrees_83 : decode cX8_agrees 83 = .ok (.invokestatic 150, 3) := by decide +kernel
theorem dX8_agrees_86 : decode cX8_agrees 86 = .ok (.invokevirtual 105, 3) := by decide +kernel
theorem dX8_agrees_89 : decode cX8_agrees 89 = .ok (.lstore 6, 2) := by decide +kernel
theorem dX8_agrees_91 : decode cX8_agrees 91 = .ok (.lconst 0, 1) := by decide +kernel
theorem dX8_agrees_92 : decode cX8_agrees 92 = .ok (.lstore 8, 2) := by decide +kernel
theorem dX8_agrees_94 : decode cX8_agrees 94 = .ok (.iconst 0, 1) := by decide +kernel
theorem dX8_agrees_95 : decode cX8_agrees 95 = .ok (.istore 10, 2) := by decide +kernel
theorem dX8_agrees_97 : decode cX8_agrees 97 = .ok (.iload 10, 2) := by decide +kernel
theorem dX8_agrees_99 : decode cX8_agrees 99 = .ok (.sipush 200, 3) := by decide +kernel
theorem dX8_agrees_102 : decode cX8_agrees 102 = .ok (.if_icmp .ge 25, 3) := by decide +kernel
theorem dX8_agrees_105 : decode cX8_agrees 105 = .ok (.aload_n 0, 1) := by decide +kernel
theorem dX8_agrees_106 : decode cX8_agrees 106 = .ok (.getfield 33, 3) := by decide +kernel
theorem dX8_agrees_109 : decode cX8_agrees 109 = .ok (.iload 10, 2) := by decide +kernel
theorem dX8_agrees_111 : decode cX8_agrees 111 = .ok (.lconst 0, 1) := by decide +kernel
theorem dX8_agrees_112 : decode cX8_agrees 112 = .ok (.lastore, 1) := by decide +kernel
theorem dX8_agrees_113 : decode cX8_agrees 113 = .ok (.aload_n 0, 1) := by decide +kernel
theorem dX8_agrees_114 : decode cX8_agrees 114 = .ok (.getfield 37, 3) := by decide +kernel
theorem dX8_agrees_117 : decode cX8_agrees 117 = .ok (.iload 10, 2) := by decide +kernel
theorem dX8_agrees_119 : decode cX8_agrees 119 = .ok (.lconst 0, 1) := by decide +kernel
theorem dX8_agrees_120 : decode cX8_agrees 120 = .ok (.lastore, 1) := by decide +kernel
theorem dX8_agrees_121 : decode cX8_agrees 121 = .ok (.iinc 10 1, 3) := by decide +kernel
theorem dX8_agrees_124 : decode cX8_agrees 124 = .ok (.goto (-27), 3) := by decide +kernel
theorem dX8_agrees_127 : decode cX8_agrees 127 = .ok (.aload_n 0, 1) := by decide +kernel
theorem dX8_agrees_128 : decode cX8_agrees 128 = .ok (.getfield 37, 3) := by decide +kernel
theorem dX8_agrees_131 : decode cX8_agrees 131 = .ok (.iconst 0, 1) := by decide +kernel
theorem dX8_agrees_132 : decode cX8_agrees 132 = .ok (.lconst 1, 1) := by decide +kernel
theorem dX8_agrees_133 : decode cX8_agrees 133 = .ok (.lastore, 1) := by decide +kernel
theorem dX8_agrees_134 : decode cX8_agrees 134 = .ok (.iconst 0, 1) := by decide +kernel
theorem dX8_agrees_135 : decode cX8_agrees 135 = .ok (.istore 10, 2) := by decide +kernel
theorem dX8_agrees_137 : decode cX8_agrees 137 = .ok (.iload 10, 2) := by decide +kernel
theorem dX8_agrees_139 : decode cX8_agrees 139 = .ok (.sipush 256, 3) := by decide +kernel
theorem dX8_agrees_142 : decode cX8_agrees 142 = .ok (.if_icmp .ge 248, 3) := by decide +kernel
theorem dX8_agrees_145 : decode cX8_agrees 145 = .ok (.iload 10, 2) := by decide +kernel
theorem dX8_agrees_147 : decode cX8_agrees 147 = .ok (.iload_n 3, 1) := by decide +kernel
theorem dX8_agrees_148 : decode cX8_agrees 148 = .ok (.iconst (-1), 1) := by decide +kernel
theorem dX8_agrees_149 : decode cX8_agrees 149 = .ok (.ixor, 1) := by decide +kernel
theorem dX8_agrees_150 : decode cX8_agrees 150 = .ok (.iand, 1) := by decide +kernel
theorem dX8_agrees_151 : decode cX8_agrees 151 = .ok (.ifCond .eq 6, 3) := by decide +kernel
theorem dX8_agrees_154 : decode cX8_agrees 154 = .ok (.goto 230, 3) := by decide +kernel
theorem dX8_agrees_157 : decode cX8_agrees 157 = .ok (.iload_n 3, 1) := by decide +kernel
theorem dX8_agrees_158 : decode cX8_agrees 158 = .ok (.iload 10, 2) := by decide +kernel
theorem dX8_agrees_160 : decode cX8_agrees 160 = .ok (.bipush 8, 2) := by decide +kernel
theorem dX8_agrees_162 : decode cX8_agrees 162 = .ok (.ishl, 1) := by decide +kernel
theorem dX8_agrees_163 : decode cX8_agrees 163 = .ok (.ior, 1) := by decide +kernel
theorem dX8_agrees_164 : decode cX8_agrees 164 = .ok (.istore 11, 2) := by decide +kernel
theorem dX8_agrees_166 : decode cX8_agrees 166 = .ok (.aload_n 0, 1) := by decide +kernel
theorem dX8_agrees_167 : decode cX8_agrees 167 = .ok (.iload 11, 2) := by decide +kernel
theorem dX8_agrees_169 : decode cX8_agrees 169 = .ok (.iconst 0, 1) := by decide +kernel
theorem dX8_agrees_170 : decode cX8_agrees 170 = .ok (.invokevirtual 105, 3) := by decide +kernel
theorem dX8_agrees_173 : decode cX8_agrees 173 = .ok (.lstore 12, 2) := by decide +kernel
theorem dX8_agrees_175 : decode cX8_agrees 175 = .ok (.lload 12, 2) := by decide +kernel
theorem dX8_agrees_177 : decode cX8_agrees 177 = .ok (.lconst 0, 1) := by decide +kernel
theorem dX8_agrees_178 : decode cX8_agrees 178 = .ok (.lcmp, 1) := by decide +kernel
theorem dX8_agrees_179 : decode cX8_agrees 179 = .ok (.ifCond .ne 6, 3) := by decide +kernel
theorem dX8_agrees_182 : decode cX8_agrees 182 = .ok (.goto 202, 3) := by decide +kernel
theorem dX8_agrees_185 : decode cX8_agrees 185 = .ok (.aload_n 0, 1) := by decide +kernel
theorem dX8_agrees_186 : decode cX8_agrees 186 = .ok (.iload 11, 2) := by decide +kernel
theorem dX8_agrees_188 : decode cX8_agrees 188 = .ok (.iload_n 1, 1) := by decide +kernel
theorem dX8_agrees_189 : decode cX8_agrees 189 = .ok (.iload 4, 2) := by decide +kernel
theorem dX8_agrees_191 : decode cX8_agrees 191 = .ok (.invokestatic 150, 3) := by decide +kernel
theorem dX8_agrees_194 : decode cX8_agrees 194 = .ok (.iconst 0, 1) := by decide +kernel
theorem dX8_agrees_195 : decode cX8_agrees 195 = .ok (.invokevirtual 105, 3) := by decide +kernel
theorem dX8_agrees_198 : decode cX8_agrees 198 = .ok (.lstore 14, 2) := by decide +kernel
theorem dX8_agrees_200 : decode cX8_agrees 200 = .ok (.lload 14, 2) := by decide +kernel
theorem dX8_agrees_202 : decode cX8_agrees 202 = .ok (.lconst 0, 1) := by decide +kernel
theorem dX8_agrees_203 : decode cX8_agrees 203 = .ok (.lcmp, 1) := by decide +kernel
theorem dX8_agrees_204 : decode cX8_agrees 204 = .ok (.ifCond .ne 6, 3) := by decide +kernel
theorem dX8_agrees_207 : decode cX8_agrees 207 = .ok (.bipush (-2), 2) := by decide +kernel
theorem dX8_agrees_209 : decode cX8_agrees 209 = .ok (.ireturn, 1) := by decide +kernel
theorem dX8_agrees_210 : decode cX8_agrees 210 = .ok (.aload_n 0, 1) := by decide +kernel
theorem dX8_agrees_211 : decode cX8_agrees 211 = .ok (.iload 11, 2) := by decide +kernel
theorem dX8_agrees_213 : decode cX8_agrees 213 = .ok (.iload_n 1, 1) := by decide +kernel
theorem dX8_agrees_214 : decode cX8_agrees 214 = .ok (.iload 4, 2) := by decide +kernel
theorem dX8_agrees_216 : decode cX8_agrees 216 = .ok (.invokestatic 150, 3) := by decide +kernel
theorem dX8_agrees_219 : decode cX8_agrees 219 = .ok (.iload_n 2, 1) := by decide +kernel
theorem dX8_agrees_220 : decode cX8_agrees 220 = .ok (.iload 5, 2) := by decide +kernel
theorem dX8_agrees_222 : decode cX8_agrees 222 = .ok (.invokestatic 150, 3) := by decide +kernel
theorem dX8_agrees_225 : decode cX8_agrees 225 = .ok (.iconst 0, 1) := by decide +kernel
theorem dX8_agrees_226 : decode cX8_agrees 226 = .ok (.invokevirtual 105, 3) := by decide +kernel
theorem dX8_agrees_229 : decode cX8_agrees 229 = .ok (.lstore 16, 2) := by decide +kernel
theorem dX8_agrees_231 : decode cX8_agrees 231 = .ok (.lload 16, 2) := by decide +kernel
theorem dX8_agrees_233 : decode cX8_agrees 233 = .ok (.lload 14, 2) := by decide +kernel
theorem dX8_agrees_235 : decode cX8_agrees 235 = .ok (.lcmp, 1) := by decide +kernel
theorem dX8_agrees_236 : decode cX8_agrees 236 = .ok (.ifCond .ne 13, 3) := by decide +kernel
theorem dX8_agrees_239 : decode cX8_agrees 239 = .ok (.lload 8, 2) := by decide +kernel
theorem dX8_agrees_241 : decode cX8_agrees 241 = .ok (.lload 12, 2) := by decide +kernel
theorem dX8_agrees_243 : decode cX8_agrees 243 = .ok (.ladd, 1) := by decide +kernel
theorem dX8_agrees_244 : decode cX8_agrees 244 = .ok (.lstore 8, 2) := by decide +kernel
theorem dX8_agrees_246 : decode cX8_agrees 246 = .ok (.goto 138, 3) := by decide +kernel
theorem dX8_agrees_249 : decode cX8_agrees 249 = .ok (.lconst 0, 1) := by decide +kernel
theorem dX8_agrees_250 : decode cX8_agrees 250 = .ok (.lstore 18, 2) := by decide +kernel
theorem dX8_agrees_252 : decode cX8_agrees 252 = .ok (.lconst 0, 1) := by decide +kernel
theorem dX8_agrees_253 : decode cX8_agrees 253 = .ok (.lstore 20, 2) := by decide +kernel
theorem dX8_agrees_255 : decode cX8_agrees 255 = .ok (.bipush 62, 2) := by decide +kernel
theorem dX8_agrees_257 : decode cX8_agrees 257 = .ok (.istore 22, 2) := by decide +kernel
theorem dX8_agrees_259 : decode cX8_agrees 259 = .ok (.iload 22, 2) := by decide +kernel
theorem dX8_agrees_261 : decode cX8_agrees 261 = .ok (.ifCond .lt 86, 3) := by decide +kernel
theorem dX8_agrees_264 : decode cX8_agrees 264 = .ok (.ldc2_w 153, 3) := by decide +kernel
theorem dX8_agrees_267 : decode cX8_agrees 267 = .ok (.lload 18, 2) := by decide +kernel
theorem dX8_agrees_269 : decode cX8_agrees 269 = .ok (.lmul, 1) := by decide +kernel
theorem dX8_agrees_270 : decode cX8_agrees 270 = .ok (.lstore 18, 2) := by decide +kernel
theorem dX8_agrees_272 : decode cX8_agrees 272 = .ok (.ldc2_w 153, 3) := by decide +kernel
theorem dX8_agrees_275 : decode cX8_agrees 275 = .ok (.lload 20, 2) := by decide +kernel
theorem dX8_agrees_277 : decode cX8_agrees 277 = .ok (.lmul, 1) := by decide +kernel
theorem dX8_agrees_278 : decode cX8_agrees 278 = .ok (.lstore 20, 2) := by decide +kernel
theorem dX8_agrees_280 : decode cX8_agrees 280 = .ok (.lload 20, 2) := by decide +kernel
theorem dX8_agrees_282 : decode cX8_agrees 282 = .ok (.lload 14, 2) := by decide +kernel
theorem dX8_agrees_284 : decode cX8_agrees 284 = .ok (.lcmp, 1) := by decide +kernel
theorem dX8_agrees_285 : decode cX8_agrees 285 = .ok (.ifCond .lt 16, 3) := by decide +kernel
theorem dX8_agrees_288 : decode cX8_agrees 288 = .ok (.lload 20, 2) := by decide +kernel
theorem dX8_agrees_290 : decode cX8_agrees 290 = .ok (.lload 14, 2) := by decide +kernel
theorem dX8_agrees_292 : decode cX8_agrees 292 = .ok (.lsub, 1) := by decide +kernel
theorem dX8_agrees_293 : decode cX8_agrees 293 = .ok (.lstore 20, 2) := by decide +kernel
theorem dX8_agrees_295 : decode cX8_agrees 295 = .ok (.lload 18, 2) := by decide +kernel
theorem dX8_agrees_297 : decode cX8_agrees 297 = .ok (.lconst 1, 1) := by decide +kernel
theorem dX8_agrees_298 : decode cX8_agrees 298 = .ok (.ladd, 1) := by decide +kernel
theorem dX8_agrees_299 : decode cX8_agrees 299 = .ok (.lstore 18, 2) := by decide +kernel
theorem dX8_agrees_301 : decode cX8_agrees 301 = .ok (.lload 12, 2) := by decide +kernel
theorem dX8_agrees_303 : decode cX8_agrees 303 = .ok (.iload 22, 2) := by decide +kernel
theorem dX8_agrees_305 : decode cX8_agrees 305 = .ok (.lshr, 1) := by decide +kernel
theorem dX8_agrees_306 : decode cX8_agrees 306 = .ok (.lconst 1, 1) := by decide +kernel
theorem dX8_agrees_307 : decode cX8_agrees 307 = .ok (.land, 1) := by decide +kernel
theorem dX8_agrees_308 : decode cX8_agrees 308 = .ok (.lconst 1, 1) := by decide +kernel
theorem dX8_agrees_309 : decode cX8_agrees 309 = .ok (.lcmp, 1) := by decide +kernel
theorem dX8_agrees_310 : decode cX8_agrees 310 = .ok (.ifCond .ne 10, 3) := by decide +kernel
theorem dX8_agrees_313 : decode cX8_agrees 313 = .ok (.lload 20, 2) := by decide +kernel
theorem dX8_agrees_315 : decode cX8_agrees 315 = .ok (.lload 16, 2) := by decide +kernel
theorem dX8_agrees_317 : decode cX8_agrees 317 = .ok (.ladd, 1) := by decide +kernel
theorem dX8_agrees_318 : decode cX8_agrees 318 = .ok (.lstore 20, 2) := by decide +kernel
theorem dX8_agrees_320 : decode cX8_agrees 320 = .ok (.lload 20, 2) := by decide +kernel
theorem dX8_agrees_322 : decode cX8_agrees 322 = .ok (.lload 14, 2) := by decide +kernel
theorem dX8_agrees_324 : decode cX8_agrees 324 = .ok (.lcmp, 1) := by decide +kernel
theorem dX8_agrees_325 : decode cX8_agrees 325 = .ok (.ifCond .lt 16, 3) := by decide +kernel
theorem dX8_agrees_328 : decode cX8_agrees 328 = .ok (.lload 20, 2) := by decide +kernel
theorem dX8_agrees_330 : decode cX8_agrees 330 = .ok (.lload 14, 2) := by decide +kernel
theorem dX8_agrees_332 : decode cX8_agrees 332 = .ok (.lsub, 1) := by decide +kernel
theorem dX8_agrees_333 : decode cX8_agrees 333 = .ok (.lstore 20, 2) := by decide +kernel
theorem dX8_agrees_335 : decode cX8_agrees 335 = .ok (.lload 18, 2) := by decide +kernel
theorem dX8_agrees_337 : decode cX8_agrees 337 = .ok (.lconst 1, 1) := by decide +kernel
theorem dX8_agrees_338 : decode cX8_agrees 338 = .ok (.ladd, 1) := by decide +kernel
theorem dX8_agrees_339 : decode cX8_agrees 339 = .ok (.lstore 18, 2) := by decide +kernel
theorem dX8_agrees_341 : decode cX8_agrees 341 = .ok (.iinc 22 (-1), 3) := by decide +kernel
theorem dX8_agrees_344 : decode cX8_agrees 344 = .ok (.goto (-85), 3) := by decide +kernel
theorem dX8_agrees_347 : decode cX8_agrees 347 = .ok (.lload 8, 2) := by decide +kernel
theorem dX8_agrees_349 : decode cX8_agrees 349 = .ok (.lload 18, 2) := by decide +kernel
theorem dX8_agrees_351 : decode cX8_agrees 351 = .ok (.ladd, 1) := by decide +kernel
theorem dX8_agrees_352 : decode cX8_agrees 352 = .ok (.lstore 8, 2) := by decide +kernel
theorem dX8_agrees_354 : decode cX8_agrees 354 = .ok (.lload 20, 2) := by decide +kernel
theorem dX8_agrees_356 : decode cX8_agrees 356 = .ok (.lload 14, 2) := by decide +kernel
theorem dX8_agrees_358 : decode cX8_agrees 358 = .ok (.invokestatic 113, 3) := by decide +kernel
theorem dX8_agrees_361 : decode cX8_agrees 361 = .ok (.lstore 22, 2) := by decide +kernel
theorem dX8_agrees_363 : decode cX8_agrees 363 = .ok (.lload 20, 2) := by decide +kernel
theorem dX8_agrees_365 : decode cX8_agrees 365 = .ok (.lconst 0, 1) := by decide +kernel
theorem dX8_agrees_366 : decode cX8_agrees 366 = .ok (.lcmp, 1) := by decide +kernel
theorem dX8_agrees_367 : decode cX8_agrees 367 = .ok (.ifCond .le 17, 3) := by decide +kernel
theorem dX8_agrees_370 : decode cX8_agrees 370 = .ok (.aload_n 0, 1) := by decide +kernel
theorem dX8_agrees_371 : decode cX8_agrees 371 = .ok (.lload 20, 2) := by decide +kernel
theorem dX8_agrees_373 : decode cX8_agrees 373 = .ok (.lload 22, 2) := by decide +kernel
theorem dX8_agrees_375 : decode cX8_agrees 375 = .ok (.ldiv, 1) := by decide +kernel
theorem dX8_agrees_376 : decode cX8_agrees 376 = .ok (.lload 14, 2) := by decide +kernel
theorem dX8_agrees_378 : decode cX8_agrees 378 = .ok (.lload 22, 2) := by decide +kernel
theorem dX8_agrees_380 : decode cX8_agrees 380 = .ok (.ldiv, 1) := by decide +kernel
theorem dX8_agrees_381 : decode cX8_agrees 381 = .ok (.invokevirtual 155, 3) := by decide +kernel
theorem dX8_agrees_384 : decode cX8_agrees 384 = .ok (.iinc 10 1, 3) := by decide +kernel
theorem dX8_agrees_387 : decode cX8_agrees 387 = .ok (.goto (-250), 3) := by decide +kernel
theorem dX8_agrees_390 : decode cX8_agrees 390 = .ok (.lload 8, 2) := by decide +kernel
theorem dX8_agrees_392 : decode cX8_agrees 392 = .ok (.lload 6, 2) := by decide +kernel
theorem dX8_agrees_394 : decode cX8_agrees 394 = .ok (.lcmp, 1) := by decide +kernel
theorem dX8_agrees_395 : decode cX8_agrees 395 = .ok (.ifCond .gt 15, 3) := by decide +kernel
theorem dX8_agrees_398 : decode cX8_agrees 398 = .ok (.lload 6, 2) := by decide +kernel
theorem dX8_agrees_400 : decode cX8_agrees 400 = .ok (.lload 8, 2) := by decide +kernel
theorem dX8_agrees_402 : decode cX8_agrees 402 = .ok (.lsub, 1) := by decide +kernel
theorem dX8_agrees_403 : decode cX8_agrees 403 = .ok (.ldc2_w 159, 3) := by decide +kernel
theorem dX8_agrees_406 : decode cX8_agrees 406 = .ok (.lcmp, 1) := by decide +kernel
theorem dX8_agrees_407 : decode cX8_agrees 407 = .ok (.ifCond .le 5, 3) := by decide +kernel
theorem dX8_agrees_410 : decode cX8_agrees 410 = .ok (.iconst 0, 1) := by decide +kernel
theorem dX8_agrees_411 : decode cX8_agrees 411 = .ok (.ireturn, 1) := by decide +kernel
theorem dX8_agrees_412 : decode cX8_agrees 412 = .ok (.aload_n 0, 1) := by decide +kernel
theorem dX8_agrees_413 : decode cX8_agrees 413 = .ok (.aload_n 0, 1) := by decide +kernel
theorem dX8_agrees_414 : decode cX8_agrees 414 = .ok (.getfield 37, 3) := by decide +kernel
theorem dX8_agrees_417 : decode cX8_agrees 417 = .ok (.lload 6, 2) := by decide +kernel
theorem dX8_agrees_419 : decode cX8_agrees 419 = .ok (.lload 8, 2) := by decide +kernel
theorem dX8_agrees_421 : decode cX8_agrees 421 = .ok (.lsub, 1) := by decide +kernel
theorem dX8_agrees_422 : decode cX8_agrees 422 = .ok (.invokevirtual 146, 3) := by decide +kernel
theorem dX8_agrees_425 : decode cX8_agrees 425 = .ok (.iconst 0, 1) := by decide +kernel
theorem dX8_agrees_426 : decode cX8_agrees 426 = .ok (.istore 10, 2) := by decide +kernel
theorem dX8_agrees_428 : decode cX8_agrees 428 = .ok (.iload 10, 2) := by decide +kernel
theorem dX8_agrees_430 : decode cX8_agrees 430 = .ok (.sipush 200, 3) := by decide +kernel
theorem dX8_agrees_433 : decode cX8_agrees 433 = .ok (.if_icmp .ge 29, 3) := by decide +kernel
theorem dX8_agrees_436 : decode cX8_agrees 436 = .ok (.aload_n 0, 1) := by decide +kernel
theorem dX8_agrees_437 : decode cX8_agrees 437 = .ok (.getfield 40, 3) := by decide +kernel
theorem dX8_agrees_440 : decode cX8_agrees 440 = .ok (.iload 10, 2) := by decide +kernel
theorem dX8_agrees_442 : decode cX8_agrees 442 = .ok (.laload, 1) := by decide +kernel
theorem dX8_agrees_443 : decode cX8_agrees 443 = .ok (.aload_n 0, 1) := by decide +kernel
theorem dX8_agrees_444 : decode cX8_agrees 444 = .ok (.getfield 33, 3) := by decide +kernel
theorem dX8_agrees_447 : decode cX8_agrees 447 = .ok (.iload 10, 2) := by decide +kernel
theorem dX8_agrees_449 : decode cX8_agrees 449 = .ok (.laload, 1) := by decide +kernel
theorem dX8_agrees_450 : decode cX8_agrees 450 = .ok (.lcmp, 1) := by decide +kernel
theorem dX8_agrees_451 : decode cX8_agrees 451 = .ok (.ifCond .eq 5, 3) := by decide +kernel
theorem dX8_agrees_454 : decode cX8_agrees 454 = .ok (.iconst 0, 1) := by decide +kernel
theorem dX8_agrees_455 : decode cX8_agrees 455 = .ok (.ireturn, 1) := by decide +kernel
theorem dX8_agrees_456 : decode cX8_agrees 456 = .ok (.iinc 10 1, 3) := by decide +kernel
theorem dX8_agrees_459 : decode cX8_agrees 459 = .ok (.goto (-31), 3) := by decide +kernel
theorem dX8_agrees_462 : decode cX8_agrees 462 = .ok (.iconst 1, 1) := by decide +kernel
theorem dX8_agrees_463 : decode cX8_agrees 463 = .ok (.ireturn, 1) := by decide +kernel
theorem mz_i_wsX8_otherwise_8 : (.code yX8_isThing cX8_isThing 2 (some .boolean) : Cond) ∈ wsX8_otherwise := mz_mt (mz_ml (mz_ml (mz_mt (mz_mt (mz_mt (mz_mt (mz_mt (mz_mt (mz_mt mz_mh)))))))))
theorem mz_i_wsX8_otherwise_2 : (.fieldLink RX8 58 "MadeItSoModel" "many" "I" : Cond) ∈ wsX8_otherwise := mz_mt (mz_ml (mz_ml (mz_mt mz_mh)))
theorem mz_f_wsX8_otherwise_wsX80 : ∀ w ∈ wsX80, w ∈ wsX8_otherwise := fun _ h => mz_mt (mz_mr h)
set_option maxRecDepth 20000 in
theorem ggX8_otherwise_X8_isThing : GoodIn wsX8_otherwise wsX8_isThing := goodIn_sub (mz_fc mz_i_wsX8_otherwise_8 (mz_fa (mz_fc mz_i_wsX8_otherwise_2 mz_fn) (mz_f_wsX8_otherwise_wsX80))) (by decide +kernel)
theorem mz_i_wsX8_otherwise_7 : (.initialized RX8 : Cond) ∈ wsX8_otherwise := mz_mt (mz_ml (mz_ml (mz_mt (mz_mt (mz_mt (mz_mt (mz_mt (mz_mt mz_mh))))))))
theorem mz_i_wsX8_otherwise_6 : (.selects RX8 yX8_isThing yX8_isThing : Cond) ∈ wsX8_otherwise := mz_mt (mz_ml (mz_ml (mz_mt (mz_mt (mz_mt (mz_mt (mz_mt mz_mh)))))))
theorem mz_i_wsX8_otherwise_5 : (.instanceMethod yX8_isThing : Cond) ∈ wsX8_otherwise := mz_mt (mz_ml (mz_ml (mz_mt (mz_mt (mz_mt (mz_mt mz_mh))))))
theorem mz_i_wsX8_otherwise_4 : (.methodLink RX8 71 yX8_isThing : Cond) ∈ wsX8_otherwise := mz_mt (mz_ml (mz_ml (mz_mt (mz_mt (mz_mt mz_mh)))))
set_option maxRecDepth 20000 in
theorem gX8_otherwise_X8_isThing : GoodIn wsX8_otherwise (wsV RX8 71 RX8 yX8_isThing wsX8_isThing) := goodIn_app (goodIn_sub (mz_fc mz_i_wsX8_otherwise_4 (mz_fc mz_i_wsX8_otherwise_5 (mz_fc mz_i_wsX8_otherwise_6 (mz_fc mz_i_wsX8_otherwise_7 mz_fn)))) (by decide +kernel)) ggX8_otherwise_X8_isThing
theorem mz_i_wsX8_otherwise_11 : (.code yX8_withOne cX8_withOne 3 (some .int) : Cond) ∈ wsX8_otherwise := mz_mt (mz_ml (mz_ml (mz_mt (mz_mt (mz_mt (mz_mt (mz_mt (mz_mt (mz_mt (mz_mt (mz_mt (mz_mt mz_mh))))))))))))
set_option maxRecDepth 20000 in
theorem ggX8_otherwise_X8_withOne : GoodIn wsX8_otherwise wsX8_withOne := goodIn_sub (mz_fc mz_i_wsX8_otherwise_11 (mz_fn)) (by decide +kernel)
theorem mz_i_wsX8_otherwise_10 : (.static yX8_withOne : Cond) ∈ wsX8_otherwise := mz_mt (mz_ml (mz_ml (mz_mt (mz_mt (mz_mt (mz_mt (mz_mt (mz_mt (mz_mt (mz_mt (mz_mt mz_mh)))))))))))
theorem mz_i_wsX8_otherwise_9 : (.methodLink RX8 150 yX8_withOne : Cond) ∈ wsX8_otherwise := mz_mt (mz_ml (mz_ml (mz_mt (mz_mt (mz_mt (mz_mt (mz_mt (mz_mt (mz_mt (mz_mt mz_mh))))))))))
set_option maxRecDepth 20000 in
theorem gX8_otherwise_X8_withOne : GoodIn wsX8_otherwise (va_wsS RX8 150 yX8_withOne wsX8_withOne) := goodIn_app (goodIn_sub (mz_fc mz_i_wsX8_otherwise_9 (mz_fc mz_i_wsX8_otherwise_10 (mz_fc mz_i_wsX8_otherwise_7 mz_fn))) (by decide +kernel)) ggX8_otherwise_X8_withOne
theorem mz_i_wsX8_otherwise_15 : (.code yX8_sum cX8_sum 6 (some .long) : Cond) ∈ wsX8_otherwise := mz_mt (mz_ml (mz_ml (mz_mt (mz_mt (mz_mt (mz_mt (mz_mt (mz_mt (mz_mt (mz_mt (mz_mt (mz_mt (mz_mt (mz_mt (mz_mt (mz_mt mz_mh))))))))))))))))
theorem mz_i_wsX8_otherwise_25 : (.fieldLink RX8 17 "MadeItSoModel" "books" "[I" : Cond) ∈ wsX8_otherwise := mz_mt (mz_ml (mz_mr mz_mh))
theorem mz_i_wsX8_otherwise_24 : (.fieldLink RX8 13 "MadeItSoModel" "parents" "[I" : Cond) ∈ wsX8_otherwise := mz_mt (mz_ml (mz_ml (mz_mt (mz_mt (mz_mt (mz_mt (mz_mt (mz_mt (mz_mt (mz_mt (mz_mt (mz_mt (mz_mt (mz_mt (mz_mt (mz_mt (mz_mt (mz_mt (mz_mt (mz_mt (mz_mt (mz_mt (mz_mt (mz_mt (mz_mt mz_mh)))))))))))))))))))))))))
theorem mz_i_wsX8_otherwise_23 : (.code yX8_partsOf cX8_partsOf 6 (some .int) : Cond) ∈ wsX8_otherwise := mz_mt (mz_ml (mz_ml (mz_mt (mz_mt (mz_mt (mz_mt (mz_mt (mz_mt (mz_mt (mz_mt (mz_mt (mz_mt (mz_mt (mz_mt (mz_mt (mz_mt (mz_mt (mz_mt (mz_mt (mz_mt (mz_mt (mz_mt (mz_mt (mz_mt mz_mh))))))))))))))))))))))))
theorem mz_i_wsX8_otherwise_22 : (.selects RX8 yX8_partsOf yX8_partsOf : Cond) ∈ wsX8_otherwise := mz_mt (mz_ml (mz_ml (mz_mt (mz_mt (mz_mt (mz_mt (mz_mt (mz_mt (mz_mt (mz_mt (mz_mt (mz_mt (mz_mt (mz_mt (mz_mt (mz_mt (mz_mt (mz_mt (mz_mt (mz_mt (mz_mt (mz_mt (mz_mt mz_mh)))))))))))))))))))))))
theorem mz_i_wsX8_otherwise_21 : (.instanceMethod yX8_partsOf : Cond) ∈ wsX8_otherwise := mz_mt (mz_ml (mz_ml (mz_mt (mz_mt (mz_mt (mz_mt (mz_mt (mz_mt (mz_mt (mz_mt (mz_mt (mz_mt (mz_mt (mz_mt (mz_mt (mz_mt (mz_mt (mz_mt (mz_mt (mz_mt (mz_mt (mz_mt mz_mh))))))))))))))))))))))
theorem mz_i_wsX8_otherwise_20 : (.methodLink RX8 93 yX8_partsOf : Cond) ∈ wsX8_otherwise := mz_mt (mz_ml (mz_ml (mz_mt (mz_mt (mz_mt (mz_mt (mz_mt (mz_mt (mz_mt (mz_mt (mz_mt (mz_mt (mz_mt (mz_mt (mz_mt (mz_mt (mz_mt (mz_mt (mz_mt (mz_mt (mz_mt mz_mh)))))))))))))))))))))
theorem mz_i_wsX8_otherwise_3 : (.constantLong RX8 96 (100) : Cond) ∈ wsX8_otherwise := mz_mt (mz_ml (mz_ml (mz_mt (mz_mt mz_mh))))
theorem mz_i_wsX8_otherwise_19 : (.code yX8_weightOf cX8_weightOf 7 (some .long) : Cond) ∈ wsX8_otherwise := mz_mt (mz_ml (mz_ml (mz_mt (mz_mt (mz_mt (mz_mt (mz_mt (mz_mt (mz_mt (mz_mt (mz_mt (mz_mt (mz_mt (mz_mt (mz_mt (mz_mt (mz_mt (mz_mt (mz_mt (mz_mt mz_mh))))))))))))))))))))
theorem mz_i_wsX8_otherwise_18 : (.selects RX8 yX8_weightOf yX8_weightOf : Cond) ∈ wsX8_otherwise := mz_mt (mz_ml (mz_ml (mz_mt (mz_mt (mz_mt (mz_mt (mz_mt (mz_mt (mz_mt (mz_mt (mz_mt (mz_mt (mz_mt (mz_mt (mz_mt (mz_mt (mz_mt (mz_mt (mz_mt mz_mh)))))))))))))))))))
theorem mz_i_wsX8_otherwise_17 : (.instanceMethod yX8_weightOf : Cond) ∈ wsX8_otherwise := mz_mt (mz_ml (mz_ml (mz_mt (mz_mt (mz_mt (mz_mt (mz_mt (mz_mt (mz_mt (mz_mt (mz_mt (mz_mt (mz_mt (mz_mt (mz_mt (mz_mt (mz_mt (mz_mt mz_mh))))))))))))))))))
theorem mz_i_wsX8_otherwise_16 : (.methodLink RX8 98 yX8_weightOf : Cond) ∈ wsX8_otherwise := mz_mt (mz_ml (mz_ml (mz_mt (mz_mt (mz_mt (mz_mt (mz_mt (mz_mt (mz_mt (mz_mt (mz_mt (mz_mt (mz_mt (mz_mt (mz_mt (mz_mt (mz_mt mz_mh)))))))))))))))))
set_option maxRecDepth 20000 in
theorem ggX8_otherwise_X8_sum : GoodIn wsX8_otherwise wsX8_sum := goodIn_sub (mz_fc mz_i_wsX8_otherwise_15 (mz_fa (mz_fc mz_i_wsX8_otherwise_2 (mz_fc mz_i_wsX8_otherwise_16 (mz_fc mz_i_wsX8_otherwise_17 (mz_fc mz_i_wsX8_otherwise_18 (mz_fc mz_i_wsX8_otherwise_7 (mz_fc mz_i_wsX8_otherwise_19 (mz_fc mz_i_wsX8_otherwise_3 (mz_fc mz_i_wsX8_otherwise_20 (mz_fc mz_i_wsX8_otherwise_21 (mz_fc mz_i_wsX8_otherwise_22 (mz_fc mz_i_wsX8_otherwise_23 (mz_fc mz_i_wsX8_otherwise_24 (mz_fc mz_i_wsX8_otherwise_25 mz_fn))))))))))))) (mz_f_wsX8_otherwise_wsX80))) (by decide +kernel)
theorem mz_i_wsX8_otherwise_14 : (.selects RX8 yX8_sum yX8_sum : Cond) ∈ wsX8_otherwise := mz_mt (mz_ml (mz_ml (mz_mt (mz_mt (mz_mt (mz_mt (mz_mt (mz_mt (mz_mt (mz_mt (mz_mt (mz_mt (mz_mt (mz_mt (mz_mt mz_mh)))))))))))))))
theorem mz_i_wsX8_otherwise_13 : (.instanceMethod yX8_sum : Cond) ∈ wsX8_otherwise := mz_mt (mz_ml (mz_ml (mz_mt (mz_mt (mz_mt (mz_mt (mz_mt (mz_mt (mz_mt (mz_mt (mz_mt (mz_mt (mz_mt (mz_mt mz_mh))))))))))))))
theorem mz_i_wsX8_otherwise_12 : (.methodLink RX8 105 yX8_sum : Cond) ∈ wsX8_otherwise := mz_mt (mz_ml (mz_ml (mz_mt (mz_mt (mz_mt (mz_mt (mz_mt (mz_mt (mz_mt (mz_mt (mz_mt (mz_mt (mz_mt mz_mh)))))))))))))
set_option maxRecDepth 20000 in
theorem gX8_otherwise_X8_sum : GoodIn wsX8_otherwise (wsV RX8 105 RX8 yX8_sum wsX8_sum) := goodIn_app (goodIn_sub (mz_fc mz_i_wsX8_otherwise_12 (mz_fc mz_i_wsX8_otherwise_13 (mz_fc mz_i_wsX8_otherwise_14 (mz_fc mz_i_wsX8_otherwise_7 mz_fn)))) (by decide +kernel)) ggX8_otherwise_X8_sum
theorem mz_i_wsX8_otherwise_28 : (.code yX8_most cX8_most 4 (some .long) : Cond) ∈ wsX8_otherwise := mz_mt (mz_ml (mz_mr (mz_mt (mz_mt (mz_mt mz_mh)))))
set_option maxRecDepth 20000 in
theorem ggX8_otherwise_X8_most : GoodIn wsX8_otherwise wsX8_most := goodIn_sub (mz_fc mz_i_wsX8_otherwise_28 (mz_fn)) (by decide +kernel)
theorem mz_i_wsX8_otherwise_27 : (.static yX8_most : Cond) ∈ wsX8_otherwise := mz_mt (mz_ml (mz_mr (mz_mt (mz_mt mz_mh))))
theorem mz_i_wsX8_otherwise_26 : (.methodLink RX8 170 yX8_most : Cond) ∈ wsX8_otherwise := mz_mt (mz_ml (mz_mr (mz_mt mz_mh)))
set_option maxRecDepth 20000 in
theorem gX8_otherwise_X8_most : GoodIn wsX8_otherwise (va_wsS RX8 170 yX8_most wsX8_most) := goodIn_app (goodIn_sub (mz_fc mz_i_wsX8_otherwise_26 (mz_fc mz_i_wsX8_otherwise_27 (mz_fc mz_i_wsX8_otherwise_7 mz_fn))) (by decide +kernel)) ggX8_otherwise_X8_most
theorem mz_i_wsX8_otherwise_31 : (.code yX8_lesser cX8_lesser 4 (some .long) : Cond) ∈ wsX8_otherwise := mz_mt (mz_ml (mz_mr (mz_mt (mz_mt (mz_mt (mz_mt (mz_mt (mz_mt mz_mh))))))))
set_option maxRecDepth 20000 in
theorem ggX8_otherwise_X8_lesser : GoodIn wsX8_otherwise wsX8_lesser := goodIn_sub (mz_fc mz_i_wsX8_otherwise_31 (mz_fn)) (by decide +kernel)
theorem mz_i_wsX8_otherwise_30 : (.static yX8_lesser : Cond) ∈ wsX8_otherwise := mz_mt (mz_ml (mz_mr (mz_mt (mz_mt (mz_mt (mz_mt (mz_mt mz_mh)))))))
theorem mz_i_wsX8_otherwise_29 : (.methodLink RX8 173 yX8_lesser : Cond) ∈ wsX8_otherwise := mz_mt (mz_ml (mz_mr (mz_mt (mz_mt (mz_mt (mz_mt mz_mh))))))
set_option maxRecDepth 20000 in
theorem gX8_otherwise_X8_lesser : GoodIn wsX8_otherwise (va_wsS RX8 173 yX8_lesser wsX8_lesser) := goodIn_app (goodIn_sub (mz_fc mz_i_wsX8_otherwise_29 (mz_fc mz_i_wsX8_otherwise_30 (mz_fc mz_i_wsX8_otherwise_7 mz_fn))) (by decide +kernel)) ggX8_otherwise_X8_lesser
theorem dX8_otherwise_0 : decode cX8_otherwise 0 = .ok (.aload_n 0, 1) := by decide +kernel
theorem dX8_otherwise_1 : decode cX8_otherwise 1 = .ok (.iload_n 1, 1) := by decide +kernel
theorem dX8_otherwise_2 : decode cX8_otherwise 2 = .ok (.invokevirtual 71, 3) := by decide +kernel
theorem dX8_otherwise_5 : decode cX8_otherwise 5 = .ok (.ifCond .eq 25, 3) := by decide +kernel
theorem dX8_otherwise_8 : decode cX8_otherwise 8 = .ok (.aload_n 0, 1) := by decide +kernel
theorem dX8_otherwise_9 : decode cX8_otherwise 9 = .ok (.iload_n 2, 1) := by decide +kernel
theorem dX8_otherwise_10 : decode cX8_otherwise 10 = .ok (.invokevirtual 71, 3) := by decide +kernel
theorem dX8_otherwise_13 : decode cX8_otherwise 13 = .ok (.ifCond .eq 17, 3) := by decide +kernel
theorem dX8_otherwise_16 : decode cX8_otherwise 16 = .ok (.iload_n 1, 1) := by decide +kernel
theorem dX8_otherwise_17 : decode cX8_otherwise 17 = .ok (.iload_n 2, 1) := by decide +kernel
theorem dX8_otherwise_18 : decode cX8_otherwise 18 = .ok (.if_icmp .eq 12, 3) := by decide +kernel
theorem dX8_otherwise_21 : decode cX8_otherwise 21 = .ok (.iload_n 3, 1) := by decide +kernel
theorem dX8_otherwise_22 : decode cX8_otherwise 22 = .ok (.ifCond .lt 8, 3) := by decide +kernel
theorem dX8_otherwise_25 : decode cX8_otherwise 25 = .ok (.iload_n 3, 1) := by decide +kernel
theorem dX8_otherwise_26 : decode cX8_otherwise 26 = .ok (.iconst 4, 1) := by decide +kernel
theorem dX8_otherwise_27 : decode cX8_otherwise 27 = .ok (.if_icmp .le 7, 3) := by decide +kernel
theorem dX8_otherwise_30 : decode cX8_otherwise 30 = .ok (.ldc2_w 108, 3) := by decide +kernel
theorem dX8_otherwise_33 : decode cX8_otherwise 33 = .ok (.lreturn, 1) := by decide +kernel
theorem dX8_otherwise_34 : decode cX8_otherwise 34 = .ok (.lconst 1, 1) := by decide +kernel
theorem dX8_otherwise_35 : decode cX8_otherwise 35 = .ok (.lstore 4, 2) := by decide +kernel
theorem dX8_otherwise_37 : decode cX8_otherwise 37 = .ok (.iconst 0, 1) := by decide +kernel
theorem dX8_otherwise_38 : decode cX8_otherwise 38 = .ok (.istore 6, 2) := by decide +kernel
theorem dX8_otherwise_40 : decode cX8_otherwise 40 = .ok (.iload 6, 2) := by decide +kernel
theorem dX8_otherwise_42 : decode cX8_otherwise 42 = .ok (.aload_n 0, 1) := by decide +kernel
theorem dX8_otherwise_43 : decode cX8_otherwise 43 = .ok (.getfield 58, 3) := by decide +kernel
theorem dX8_otherwise_46 : decode cX8_otherwise 46 = .ok (.if_icmp .ge 17, 3) := by decide +kernel
theorem dX8_otherwise_49 : decode cX8_otherwise 49 = .ok (.lload 4, 2) := by decide +kernel
theorem dX8_otherwise_51 : decode cX8_otherwise 51 = .ok (.ldc2_w 96, 3) := by decide +kernel
theorem dX8_otherwise_54 : decode cX8_otherwise 54 = .ok (.lmul, 1) := by decide +kernel
theorem dX8_otherwise_55 : decode cX8_otherwise 55 = .ok (.lstore 4, 2) := by decide +kernel
theorem dX8_otherwise_57 : decode cX8_otherwise 57 = .ok (.iinc 6 1, 3) := by decide +kernel
theorem dX8_otherwise_60 : decode cX8_otherwise 60 = .ok (.goto (-20), 3) := by decide +kernel
theorem dX8_otherwise_63 : decode cX8_otherwise 63 = .ok (.aload_n 0, 1) := by decide +kernel
theorem dX8_otherwise_64 : decode cX8_otherwise 64 = .ok (.iconst 0, 1) := by decide +kernel
theorem dX8_otherwise_65 : decode cX8_otherwise 65 = .ok (.iload_n 2, 1) := by decide +kernel
theorem dX8_otherwise_66 : decode cX8_otherwise 66 = .ok (.iconst 1, 1) := by decide +kernel
theorem dX8_otherwise_67 : decode cX8_otherwise 67 = .ok (.invokestatic 150, 3) := by decide +kernel
theorem dX8_otherwise_70 : decode cX8_otherwise 70 = .ok (.iconst 0, 1) := by decide +kernel
theorem dX8_otherwise_71 : decode cX8_otherwise 71 = .ok (.iload_n 1, 1) := by decide +kernel
theorem dX8_otherwise_72 : decode cX8_otherwise 72 = .ok (.iconst 1, 1) := by decide +kernel
theorem dX8_otherwise_73 : decode cX8_otherwise 73 = .ok (.invokestatic 150, 3) := by decide +kernel
theorem dX8_otherwise_76 : decode cX8_otherwise 76 = .ok (.invokevirtual 105, 3) := by decide +kernel
theorem dX8_otherwise_79 : decode cX8_otherwise 79 = .ok (.lstore 6, 2) := by decide +kernel
theorem dX8_otherwise_81 : decode cX8_otherwise 81 = .ok (.aload_n 0, 1) := by decide +kernel
theorem dX8_otherwise_82 : decode cX8_otherwise 82 = .ok (.iconst 0, 1) := by decide +kernel
theorem dX8_otherwise_83 : decode cX8_otherwise 83 = .ok (.iload_n 2, 1) := by decide +kernel
theorem dX8_otherwise_84 : decode cX8_otherwise 84 = .ok (.iconst 1, 1) := by decide +kernel
theorem dX8_otherwise_85 : decode cX8_otherwise 85 = .ok (.invokestatic 150, 3) := by decide +kernel
theorem dX8_otherwise_88 : decode cX8_otherwise 88 = .ok (.iconst 0, 1) := by decide +kernel
theorem dX8_otherwise_89 : decode cX8_otherwise 89 = .ok (.iload_n 1, 1) := by decide +kernel
theorem dX8_otherwise_90 : decode cX8_otherwise 90 = .ok (.iconst 0, 1) := by decide +kernel
theorem dX8_otherwise_91 : decode cX8_otherwise 91 = .ok (.invokestatic 150, 3) := by decide +kernel
theorem dX8_otherwise_94 : decode cX8_otherwise 94 = .ok (.invokevirtual 105, 3) := by decide +kernel
theorem dX8_otherwise_97 : decode cX8_otherwise 97 = .ok (.lstore 8, 2) := by decide +kernel
theorem dX8_otherwise_99 : decode cX8_otherwise 99 = .ok (.aload_n 0, 1) := by decide +kernel
theorem dX8_otherwise_100 : decode cX8_otherwise 100 = .ok (.iconst 0, 1) := by decide +kernel
theorem dX8_otherwise_101 : decode cX8_otherwise 101 = .ok (.iload_n 2, 1) := by decide +kernel
theorem dX8_otherwise_102 : decode cX8_otherwise 102 = .ok (.iconst 1, 1) := by decide +kernel
theorem dX8_otherwise_103 : decode cX8_otherwise 103 = .ok (.invokestatic 150, 3) := by decide +kernel
theorem dX8_otherwise_106 : decode cX8_otherwise 106 = .ok (.iconst 0, 1) := by decide +kernel
theorem dX8_otherwise_107 : decode cX8_otherwise 107 = .ok (.invokevirtual 105, 3) := by decide +kernel
theorem dX8_otherwise_110 : decode cX8_otherwise 110 = .ok (.lstore 10, 2) := by decide +kernel
theorem dX8_otherwise_112 : decode cX8_otherwise 112 = .ok (.aload_n 0, 1) := by decide +kernel
theorem dX8_otherwise_113 : decode cX8_otherwise 113 = .ok (.iconst 0, 1) := by decide +kernel
theorem dX8_otherwise_114 : decode cX8_otherwise 114 = .ok (.iload_n 1, 1) := by decide +kernel
theorem dX8_otherwise_115 : decode cX8_otherwise 115 = .ok (.iconst 1, 1) := by decide +kernel
theorem dX8_otherwise_116 : decode cX8_otherwise 116 = .ok (.invokestatic 150, 3) := by decide +kernel
theorem dX8_otherwise_119 : decode cX8_otherwise 119 = .ok (.iload_n 2, 1) := by decide +kernel
theorem dX8_otherwise_120 : decode cX8_otherwise 120 = .ok (.iconst 1, 1) := by decide +kernel
theorem dX8_otherwise_121 : decode cX8_otherwise 121 = .ok (.invokestatic 150, 3) := by decide +kernel
theorem dX8_otherwise_124 : decode cX8_otherwise 124 = .ok (.iconst 0, 1) := by decide +kernel
theorem dX8_otherwise_125 : decode cX8_otherwise 125 = .ok (.invokevirtual 105, 3) := by decide +kernel
theorem dX8_otherwise_128 : decode cX8_otherwise 128 = .ok (.lstore 12, 2) := by decide +kernel
theorem dX8_otherwise_130 : decode cX8_otherwise 130 = .ok (.aload_n 0, 1) := by decide +kernel
theorem dX8_otherwise_131 : decode cX8_otherwise 131 = .ok (.iconst 0, 1) := by decide +kernel
theorem dX8_otherwise_132 : decode cX8_otherwise 132 = .ok (.iload_n 1, 1) := by decide +kernel
theorem dX8_otherwise_133 : decode cX8_otherwise 133 = .ok (.iconst 1, 1) := by decide +kernel
theorem dX8_otherwise_134 : decode cX8_otherwise 134 = .ok (.invokestatic 150, 3) := by decide +kernel
theorem dX8_otherwise_137 : decode cX8_otherwise 137 = .ok (.iload_n 2, 1) := by decide +kernel
theorem dX8_otherwise_138 : decode cX8_otherwise 138 = .ok (.iconst 0, 1) := by decide +kernel
theorem dX8_otherwise_139 : decode cX8_otherwise 139 = .ok (.invokestatic 150, 3) := by decide +kernel
theorem dX8_otherwise_142 : decode cX8_otherwise 142 = .ok (.iconst 0, 1) := by decide +kernel
theorem dX8_otherwise_143 : decode cX8_otherwise 143 = .ok (.invokevirtual 105, 3) := by decide +kernel
theorem dX8_otherwise_146 : decode cX8_otherwise 146 = .ok (.lstore 14, 2) := by decide +kernel
theorem dX8_otherwise_148 : decode cX8_otherwise 148 = .ok (.aload_n 0, 1) := by decide +kernel
theorem dX8_otherwise_149 : decode cX8_otherwise 149 = .ok (.iconst 0, 1) := by decide +kernel
theorem dX8_otherwise_150 : decode cX8_otherwise 150 = .ok (.iload_n 1, 1) := by decide +kernel
theorem dX8_otherwise_151 : decode cX8_otherwise 151 = .ok (.iconst 0, 1) := by decide +kernel
theorem dX8_otherwise_152 : decode cX8_otherwise 152 = .ok (.invokestatic 150, 3) := by decide +kernel
theorem dX8_otherwise_155 : decode cX8_otherwise 155 = .ok (.iload_n 2, 1) := by decide +kernel
theorem dX8_otherwise_156 : decode cX8_otherwise 156 = .ok (.iconst 1, 1) := by decide +kernel
theorem dX8_otherwise_157 : decode cX8_otherwise 157 = .ok (.invokestatic 150, 3) := by decide +kernel
theorem dX8_otherwise_160 : decode cX8_otherwise 160 = .ok (.iconst 0, 1) := by decide +kernel
theorem dX8_otherwise_161 : decode cX8_otherwise 161 = .ok (.invokevirtual 105, 3) := by decide +kernel
theorem dX8_otherwise_164 : decode cX8_otherwise 164 = .ok (.lstore 16, 2) := by decide +kernel
theorem dX8_otherwise_166 : decode cX8_otherwise 166 = .ok (.aload_n 0, 1) := by decide +kernel
theorem dX8_otherwise_167 : decode cX8_otherwise 167 = .ok (.iconst 0, 1) := by decide +kernel
theorem dX8_otherwise_168 : decode cX8_otherwise 168 = .ok (.iload_n 1, 1) := by decide +kernel
theorem dX8_otherwise_169 : decode cX8_otherwise 169 = .ok (.iconst 0, 1) := by decide +kernel
theorem dX8_otherwise_170 : decode cX8_otherwise 170 = .ok (.invokestatic 150, 3) := by decide +kernel
theorem dX8_otherwise_173 : decode cX8_otherwise 173 = .ok (.iload_n 2, 1) := by decide +kernel
theorem dX8_otherwise_174 : decode cX8_otherwise 174 = .ok (.iconst 0, 1) := by decide +kernel
theorem dX8_otherwise_175 : decode cX8_otherwise 175 = .ok (.invokestatic 150, 3) := by decide +kernel
theorem dX8_otherwise_178 : decode cX8_otherwise 178 = .ok (.iconst 0, 1) := by decide +kernel
theorem dX8_otherwise_179 : decode cX8_otherwise 179 = .ok (.invokevirtual 105, 3) := by decide +kernel
theorem dX8_otherwise_182 : decode cX8_otherwise 182 = .ok (.lstore 18, 2) := by decide +kernel
theorem dX8_otherwise_184 : decode cX8_otherwise 184 = .ok (.iload_n 3, 1) := by decide +kernel
theorem dX8_otherwise_185 : decode cX8_otherwise 185 = .ok (.tableswitch 114 0 3 #[31, 57, 90, 100], 31) := by decide +kernel
theorem dX8_otherwise_216 : decode cX8_otherwise 216 = .ok (.lconst 0, 1) := by decide +kernel
theorem dX8_otherwise_217 : decode cX8_otherwise 217 = .ok (.lload 6, 2) := by decide +kernel
theorem dX8_otherwise_219 : decode cX8_otherwise 219 = .ok (.lload 8, 2) := by decide +kernel
theorem dX8_otherwise_221 : decode cX8_otherwise 221 = .ok (.lsub, 1) := by decide +kernel
theorem dX8_otherwise_222 : decode cX8_otherwise 222 = .ok (.invokestatic 170, 3) := by decide +kernel
theorem dX8_otherwise_225 : decode cX8_otherwise 225 = .ok (.lload 10, 2) := by decide +kernel
theorem dX8_otherwise_227 : decode cX8_otherwise 227 = .ok (.lload 8, 2) := by decide +kernel
theorem dX8_otherwise_229 : decode cX8_otherwise 229 = .ok (.lsub, 1) := by decide +kernel
theorem dX8_otherwise_230 : decode cX8_otherwise 230 = .ok (.lload 6, 2) := by decide +kernel
theorem dX8_otherwise_232 : decode cX8_otherwise 232 = .ok (.lload 10, 2) := by decide +kernel
theorem dX8_otherwise_234 : decode cX8_otherwise 234 = .ok (.lsub, 1) := by decide +kernel
theorem dX8_otherwise_235 : decode cX8_otherwise 235 = .ok (.invokestatic 170, 3) := by decide +kernel
theorem dX8_otherwise_238 : decode cX8_otherwise 238 = .ok (.invokestatic 170, 3) := by decide +kernel
theorem dX8_otherwise_241 : decode cX8_otherwise 241 = .ok (.lreturn, 1) := by decide +kernel
theorem dX8_otherwise_242 : decode cX8_otherwise 242 = .ok (.lload 6, 2) := by decide +kernel
theorem dX8_otherwise_244 : decode cX8_otherwise 244 = .ok (.lload 4, 2) := by decide +kernel
theorem dX8_otherwise_246 : decode cX8_otherwise 246 = .ok (.lload 8, 2) := by decide +kernel
theorem dX8_otherwise_248 : decode cX8_otherwise 248 = .ok (.lsub, 1) := by decide +kernel
theorem dX8_otherwise_249 : decode cX8_otherwise 249 = .ok (.invokestatic 173, 3) := by decide +kernel
theorem dX8_otherwise_252 : decode cX8_otherwise 252 = .ok (.lload 12, 2) := by decide +kernel
theorem dX8_otherwise_254 : decode cX8_otherwise 254 = .ok (.lload 18, 2) := by decide +kernel
theorem dX8_otherwise_256 : decode cX8_otherwise 256 = .ok (.ladd, 1) := by decide +kernel
theorem dX8_otherwise_257 : decode cX8_otherwise 257 = .ok (.lload 6, 2) := by decide +kernel
theorem dX8_otherwise_259 : decode cX8_otherwise 259 = .ok (.lload 8, 2) := by decide +kernel
theorem dX8_otherwise_261 : decode cX8_otherwise 261 = .ok (.lsub, 1) := by decide +kernel
theorem dX8_otherwise_262 : decode cX8_otherwise 262 = .ok (.lload 14, 2) := by decide +kernel
theorem dX8_otherwise_264 : decode cX8_otherwise 264 = .ok (.ladd, 1) := by decide +kernel
theorem dX8_otherwise_265 : decode cX8_otherwise 265 = .ok (.lload 16, 2) := by decide +kernel
theorem dX8_otherwise_267 : decode cX8_otherwise 267 = .ok (.ladd, 1) := by decide +kernel
theorem dX8_otherwise_268 : decode cX8_otherwise 268 = .ok (.invokestatic 173, 3) := by decide +kernel
theorem dX8_otherwise_271 : decode cX8_otherwise 271 = .ok (.invokestatic 173, 3) := by decide +kernel
theorem dX8_otherwise_274 : decode cX8_otherwise 274 = .ok (.lreturn, 1) := by decide +kernel
theorem dX8_otherwise_275 : decode cX8_otherwise 275 = .ok (.lconst 0, 1) := by decide +kernel
theorem dX8_otherwise_276 : decode cX8_otherwise 276 = .ok (.lload 10, 2) := by decide +kernel
theorem dX8_otherwise_278 : decode cX8_otherwise 278 = .ok (.lload 8, 2) := by decide +kernel
theorem dX8_otherwise_280 : decode cX8_otherwise 280 = .ok (.lsub, 1) := by decide +kernel
theorem dX8_otherwise_281 : decode cX8_otherwise 281 = .ok (.invokestatic 170, 3) := by decide +kernel
theorem dX8_otherwise_284 : decode cX8_otherwise 284 = .ok (.lreturn, 1) := by decide +kernel
theorem dX8_otherwise_285 : decode cX8_otherwise 285 = .ok (.lload 12, 2) := by decide +kernel
theorem dX8_otherwise_287 : decode cX8_otherwise 287 = .ok (.lload 4, 2) := by decide +kernel
theorem dX8_otherwise_289 : decode cX8_otherwise 289 = .ok (.lload 8, 2) := by decide +kernel
theorem dX8_otherwise_291 : decode cX8_otherwise 291 = .ok (.lsub, 1) := by decide +kernel
theorem dX8_otherwise_292 : decode cX8_otherwise 292 = .ok (.lload 18, 2) := by decide +kernel
theorem dX8_otherwise_294 : decode cX8_otherwise 294 = .ok (.lsub, 1) := by decide +kernel
theorem dX8_otherwise_295 : decode cX8_otherwise 295 = .ok (.invokestatic 173, 3) := by decide +kernel
theorem dX8_otherwise_298 : decode cX8_otherwise 298 = .ok (.lreturn, 1) := by decide +kernel
theorem dX8_otherwise_299 : decode cX8_otherwise 299 = .ok (.lload 12, 2) := by decide +kernel
theorem dX8_otherwise_301 : decode cX8_otherwise 301 = .ok (.lreturn, 1) := by decide +kernel
theorem mz_i_wsX8_count_6 : (.code yX8_bits cX8_bits 3 (some .int) : Cond) ∈ wsX8_count := mz_mt (mz_ml (mz_mt (mz_mt (mz_mt (mz_mt (mz_mt mz_mh))))))
set_option maxRecDepth 20000 in
theorem ggX8_count_X8_bits : GoodIn wsX8_count wsX8_bits := goodIn_sub (mz_fc mz_i_wsX8_count_6 (mz_fn)) (by decide +kernel)
theorem mz_i_wsX8_count_5 : (.initialized RX8 : Cond) ∈ wsX8_count := mz_mt (mz_ml (mz_mt (mz_mt (mz_mt (mz_mt mz_mh)))))
theorem mz_i_wsX8_count_4 : (.static yX8_bits : Cond) ∈ wsX8_count := mz_mt (mz_ml (mz_mt (mz_mt (mz_mt mz_mh))))
theorem mz_i_wsX8_count_3 : (.methodLink RX8 86 yX8_bits : Cond) ∈ wsX8_count := mz_mt (mz_ml (mz_mt (mz_mt mz_mh)))
set_option maxRecDepth 20000 in
theorem gX8_count_X8_bits : GoodIn wsX8_count (va_wsS RX8 86 yX8_bits wsX8_bits) := goodIn_app (goodIn_sub (mz_fc mz_i_wsX8_count_3 (mz_fc mz_i_wsX8_count_4 (mz_fc mz_i_wsX8_count_5 mz_fn))) (by decide +kernel)) ggX8_count_X8_bits
theorem mz_i_wsX8_count_10 : (.code yX8_seen cX8_seen 3 (some .int) : Cond) ∈ wsX8_count := mz_mt (mz_ml (mz_mt (mz_mt (mz_mt (mz_mt (mz_mt (mz_mt (mz_mt (mz_mt (mz_mt mz_mh))))))))))
theorem mz_i_wsX8_count_11 : (.fieldLink RX8 9 "MadeItSoModel" "isSeen" "[Z" : Cond) ∈ wsX8_count := mz_mt (mz_ml (mz_mt (mz_mt (mz_mt (mz_mt (mz_mt (mz_mt (mz_mt (mz_mt (mz_mt (mz_mt mz_mh)))))))))))
theorem mz_i_wsX8_count_1 : (.fieldLink RX8 58 "MadeItSoModel" "many" "I" : Cond) ∈ wsX8_count := mz_mt (mz_ml mz_mh)
theorem mz_f_wsX8_count_wsX80 : ∀ w ∈ wsX80, w ∈ wsX8_count := fun _ h => mz_mt (mz_mr h)
set_option maxRecDepth 20000 in
theorem ggX8_count_X8_seen : GoodIn wsX8_count wsX8_seen := goodIn_sub (mz_fc mz_i_wsX8_count_10 (mz_fa (mz_fc mz_i_wsX8_count_1 (mz_fc mz_i_wsX8_count_11 mz_fn)) (mz_f_wsX8_count_wsX80))) (by decide +kernel)
theorem mz_i_wsX8_count_9 : (.selects RX8 yX8_seen yX8_seen : Cond) ∈ wsX8_count := mz_mt (mz_ml (mz_mt (mz_mt (mz_mt (mz_mt (mz_mt (mz_mt (mz_mt (mz_mt mz_mh)))))))))
theorem mz_i_wsX8_count_8 : (.instanceMethod yX8_seen : Cond) ∈ wsX8_count := mz_mt (mz_ml (mz_mt (mz_mt (mz_mt (mz_mt (mz_mt (mz_mt (mz_mt mz_mh))))))))
theorem mz_i_wsX8_count_7 : (.methodLink RX8 134 yX8_seen : Cond) ∈ wsX8_count := mz_mt (mz_ml (mz_mt (mz_mt (mz_mt (mz_mt (mz_mt (mz_mt mz_mh)))))))
set_option maxRecDepth 20000 in
theorem gX8_count_X8_seen : GoodIn wsX8_count (wsV RX8 134 RX8 yX8_seen wsX8_seen) := goodIn_app (goodIn_sub (mz_fc mz_i_wsX8_count_7 (mz_fc mz_i_wsX8_count_8 (mz_fc mz_i_wsX8_count_9 (mz_fc mz_i_wsX8_count_5 mz_fn)))) (by decide +kernel)) ggX8_count_X8_seen
theorem dX8_count_0 : decode cX8_count 0 = .ok (.iconst 0, 1) := by decide +kernel
theorem dX8_count_1 : decode cX8_count 1 = .ok (.istore_n 2, 1) := by decide +kernel
theorem dX8_count_2 : decode cX8_count 2 = .ok (.iload_n 1, 1) := by decide +kernel
theorem dX8_count_3 : decode cX8_count 3 = .ok (.tableswitch 65 0 2 #[25, 30, 60], 25) := by decide +kernel
theorem dX8_count_28 : decode cX8_count 28 = .ok (.aload_n 0, 1) := by decide +kernel
theorem dX8_count_29 : decode cX8_count 29 = .ok (.getfield 58, 3) := by decide +kernel
theorem dX8_count_32 : decode cX8_count 32 = .ok (.ireturn, 1) := by decide +kernel
theorem dX8_count_33 : decode cX8_count 33 = .ok (.iconst 0, 1) := by decide +kernel
theorem dX8_count_34 : decode cX8_count 34 = .ok (.istore_n 3, 1) := by decide +kernel
theorem dX8_count_35 : decode cX8_count 35 = .ok (.iload_n 3, 1) := by decide +kernel
theorem dX8_count_36 : decode cX8_count 36 = .ok (.aload_n 0, 1) := by decide +kernel
theorem dX8_count_37 : decode cX8_count 37 = .ok (.getfield 58, 3) := by decide +kernel
theorem dX8_count_40 : decode cX8_count 40 = .ok (.if_icmp .ge 21, 3) := by decide +kernel
theorem dX8_count_43 : decode cX8_count 43 = .ok (.iload_n 2, 1) := by decide +kernel
theorem dX8_count_44 : decode cX8_count 44 = .ok (.aload_n 0, 1) := by decide +kernel
theorem dX8_count_45 : decode cX8_count 45 = .ok (.getfield 13, 3) := by decide +kernel
theorem dX8_count_48 : decode cX8_count 48 = .ok (.iload_n 3, 1) := by decide +kernel
theorem dX8_count_49 : decode cX8_count 49 = .ok (.iaload, 1) := by decide +kernel
theorem dX8_count_50 : decode cX8_count 50 = .ok (.invokestatic 86, 3) := by decide +kernel
theorem dX8_count_53 : decode cX8_count 53 = .ok (.iadd, 1) := by decide +kernel
theorem dX8_count_54 : decode cX8_count 54 = .ok (.istore_n 2, 1) := by decide +kernel
theorem dX8_count_55 : decode cX8_count 55 = .ok (.iinc 3 1, 3) := by decide +kernel
theorem dX8_count_58 : decode cX8_count 58 = .ok (.goto (-23), 3) := by decide +kernel
theorem dX8_count_61 : decode cX8_count 61 = .ok (.iload_n 2, 1) := by decide +kernel
theorem dX8_count_62 : decode cX8_count 62 = .ok (.ireturn, 1) := by decide +kernel
theorem dX8_count_63 : decode cX8_count 63 = .ok (.aload_n 0, 1) := by decide +kernel
theorem dX8_count_64 : decode cX8_count 64 = .ok (.invokevirtual 134, 3) := by decide +kernel
theorem dX8_count_67 : decode cX8_count 67 = .ok (.ireturn, 1) := by decide +kernel
theorem dX8_count_68 : decode cX8_count 68 = .ok (.iconst (-1), 1) := by decide +kernel
theorem dX8_count_69 : decode cX8_count 69 = .ok (.ireturn, 1) := by decide +kernel
