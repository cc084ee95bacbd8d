/-! printed rows of NAMES that the contracts use -/
theorem mz_i_wsX8_thing_8 : (.code yX8_fresh cX8_fresh 3 none : Cond) ∈ wsX8_thing := mz_mt (mz_ml (mz_mt (mz_mt (mz_mt (mz_mt (mz_mt (mz_mt (mz_mt mz_mh))))))))
theorem mz_i_wsX8_thing_9 : (.fieldLink RX8 17 "MadeItSoModel" "books" "[I" : Cond) ∈ wsX8_thing := mz_mt (mz_ml (mz_mt (mz_mt (mz_mt (mz_mt (mz_mt (mz_mt (mz_mt (mz_mt mz_mh)))))))))
theorem mz_f_wsX8_thing_wsX80 : ∀ w ∈ wsX80, w ∈ wsX8_thing := fun _ h => mz_mt (mz_mr h)
set_option maxRecDepth 20000 in
theorem ggX8_thing_X8_fresh : GoodIn wsX8_thing wsX8_fresh := goodIn_sub (mz_fc mz_i_wsX8_thing_8 (mz_fa (mz_fc mz_i_wsX8_thing_9 mz_fn) (mz_f_wsX8_thing_wsX80))) (by decide +kernel)
theorem mz_i_wsX8_thing_7 : (.initialized RX8 : Cond) ∈ wsX8_thing := mz_mt (mz_ml (mz_mt (mz_mt (mz_mt (mz_mt (mz_mt (mz_mt mz_mh)))))))
theorem mz_i_wsX8_thing_6 : (.selects RX8 yX8_fresh yX8_fresh : Cond) ∈ wsX8_thing := mz_mt (mz_ml (mz_mt (mz_mt (mz_mt (mz_mt (mz_mt mz_mh))))))
theorem mz_i_wsX8_thing_5 : (.instanceMethod yX8_fresh : Cond) ∈ wsX8_thing := mz_mt (mz_ml (mz_mt (mz_mt (mz_mt (mz_mt mz_mh)))))
theorem mz_i_wsX8_thing_4 : (.methodLink RX8 67 yX8_fresh : Cond) ∈ wsX8_thing := mz_mt (mz_ml (mz_mt (mz_mt (mz_mt mz_mh))))
set_option maxRecDepth 20000 in
theorem gX8_thing_X8_fresh : GoodIn wsX8_thing (wsV RX8 67 RX8 yX8_fresh wsX8_fresh) := goodIn_app (goodIn_sub (mz_fc mz_i_wsX8_thing_4 (mz_fc mz_i_wsX8_thing_5 (mz_fc mz_i_wsX8_thing_6 (mz_fc mz_i_wsX8_thing_7 mz_fn)))) (by decide +kernel)) ggX8_thing_X8_fresh
theorem dX8_thing_0 : decode cX8_thing 0 = .ok (.aload_n 0, 1) := by decide +kernel
theorem dX8_thing_1 : decode cX8_thing 1 = .ok (.getfield 58, 3) := by decide +kernel
theorem dX8_thing_4 : decode cX8_thing 4 = .ok (.bipush 8, 2) := by decide +kernel
theorem dX8_thing_6 : decode cX8_thing 6 = .ok (.if_icmp .ne 5, 3) := by decide +kernel
theorem dX8_thing_9 : decode cX8_thing 9 = .ok (.iconst (-1), 1) := by decide +kernel
theorem dX8_thing_10 : decode cX8_thing 10 = .ok (.ireturn, 1) := by decide +kernel
theorem dX8_thing_11 : decode cX8_thing 11 = .ok (.aload_n 0, 1) := by decide +kernel
theorem dX8_thing_12 : decode cX8_thing 12 = .ok (.getfield 9, 3) := by decide +kernel
theorem dX8_thing_15 : decode cX8_thing 15 = .ok (.aload_n 0, 1) := by decide +kernel
theorem dX8_thing_16 : decode cX8_thing 16 = .ok (.getfield 58, 3) := by decide +kernel
theorem dX8_thing_19 : decode cX8_thing 19 = .ok (.iload_n 1, 1) := by decide +kernel
theorem dX8_thing_20 : decode cX8_thing 20 = .ok (.bastore, 1) := by decide +kernel
theorem dX8_thing_21 : decode cX8_thing 21 = .ok (.aload_n 0, 1) := by decide +kernel
theorem dX8_thing_22 : decode cX8_thing 22 = .ok (.getfield 13, 3) := by decide +kernel
theorem dX8_thing_25 : decode cX8_thing 25 = .ok (.aload_n 0, 1) := by decide +kernel
theorem dX8_thing_26 : decode cX8_thing 26 = .ok (.getfield 58, 3) := by decide +kernel
theorem dX8_thing_29 : decode cX8_thing 29 = .ok (.iconst 0, 1) := by decide +kernel
theorem dX8_thing_30 : decode cX8_thing 30 = .ok (.iastore, 1) := by decide +kernel
theorem dX8_thing_31 : decode cX8_thing 31 = .ok (.aload_n 0, 1) := by decide +kernel
theorem dX8_thing_32 : decode cX8_thing 32 = .ok (.aload_n 0, 1) := by decide +kernel
theorem dX8_thing_33 : decode cX8_thing 33 = .ok (.getfield 58, 3) := by decide +kernel
theorem dX8_thing_36 : decode cX8_thing 36 = .ok (.invokevirtual 67, 3) := by decide +kernel
theorem dX8_thing_39 : decode cX8_thing 39 = .ok (.aload_n 0, 1) := by decide +kernel
theorem dX8_thing_40 : decode cX8_thing 40 = .ok (.dup, 1) := by decide +kernel
theorem dX8_thing_41 : decode cX8_thing 41 = .ok (.getfield 58, 3) := by decide +kernel
theorem dX8_thing_44 : decode cX8_thing 44 = .ok (.iconst 1, 1) := by decide +kernel
theorem dX8_thing_45 : decode cX8_thing 45 = .ok (.iadd, 1) := by decide +kernel
theorem dX8_thing_46 : decode cX8_thing 46 = .ok (.putfield 58, 3) := by decide +kernel
theorem dX8_thing_49 : decode cX8_thing 49 = .ok (.aload_n 0, 1) := by decide +kernel
theorem dX8_thing_50 : decode cX8_thing 50 = .ok (.getfield 58, 3) := by decide +kernel
theorem dX8_thing_53 : decode cX8_thing 53 = .ok (.iconst 1, 1) := by decide +kernel
theorem dX8_thing_54 : decode cX8_thing 54 = .ok (.isub, 1) := by decide +kernel
theorem dX8_thing_55 : decode cX8_thing 55 = .ok (.ireturn, 1) := by decide +kernel
theorem mz_i_wsX8_arrow_6 : (.code yX8_isThing cX8_isThing 2 (some .boolean) : Cond) ∈ wsX8_arrow := mz_mt (mz_ml (mz_mt (mz_mt (mz_mt (mz_mt (mz_mt mz_mh))))))
theorem mz_i_wsX8_arrow_7 : (.fieldLink RX8 58 "MadeItSoModel" "many" "I" : Cond) ∈ wsX8_arrow := mz_mt (mz_ml (mz_mt (mz_mt (mz_mt (mz_mt (mz_mt (mz_mt mz_mh)))))))
theorem mz_f_wsX8_arrow_wsX80 : ∀ w ∈ wsX80, w ∈ wsX8_arrow := fun _ h => mz_mt (mz_mr h)
set_option maxRecDepth 20000 in
theorem ggX8_arrow_X8_isThing : GoodIn wsX8_arrow wsX8_isThing := goodIn_sub (mz_fc mz_i_wsX8_arrow_6 (mz_fa (mz_fc mz_i_wsX8_arrow_7 mz_fn) (mz_f_wsX8_arrow_wsX80))) (by decide +kernel)
theorem mz_i_wsX8_arrow_5 : (.initialized RX8 : Cond) ∈ wsX8_arrow := mz_mt (mz_ml (mz_mt (mz_mt (mz_mt (mz_mt mz_mh)))))
theorem mz_i_wsX8_arrow_4 : (.selects RX8 yX8_isThing yX8_isThing : Cond) ∈ wsX8_arrow := mz_mt (mz_ml (mz_mt (mz_mt (mz_mt mz_mh))))
theorem mz_i_wsX8_arrow_3 : (.instanceMethod yX8_isThing : Cond) ∈ wsX8_arrow := mz_mt (mz_ml (mz_mt (mz_mt mz_mh)))
theorem mz_i_wsX8_arrow_2 : (.methodLink RX8 71 yX8_isThing : Cond) ∈ wsX8_arrow := mz_mt (mz_ml (mz_mt mz_mh))
set_option maxRecDepth 20000 in
theorem gX8_arrow_X8_isThing : GoodIn wsX8_arrow (wsV RX8 71 RX8 yX8_isThing wsX8_isThing) := goodIn_app (goodIn_sub (mz_fc mz_i_wsX8_arrow_2 (mz_fc mz_i_wsX8_arrow_3 (mz_fc mz_i_wsX8_arrow_4 (mz_fc mz_i_wsX8_arrow_5 mz_fn)))) (by decide +kernel)) ggX8_arrow_X8_isThing
theorem mz_i_wsX8_arrow_11 : (.code yX8_has cX8_has 3 (some .boolean) : Cond) ∈ wsX8_arrow := mz_mt (mz_ml (mz_mt (mz_mt (mz_mt (mz_mt (mz_mt (mz_mt (mz_mt (mz_mt (mz_mt (mz_mt mz_mh)))))))))))
theorem mz_i_wsX8_arrow_1 : (.fieldLink RX8 13 "MadeItSoModel" "parents" "[I" : Cond) ∈ wsX8_arrow := mz_mt (mz_ml mz_mh)
set_option maxRecDepth 20000 in
theorem ggX8_arrow_X8_has : GoodIn wsX8_arrow wsX8_has := goodIn_sub (mz_fc mz_i_wsX8_arrow_11 (mz_fa (mz_fc mz_i_wsX8_arrow_1 (mz_fc mz_i_wsX8_arrow_2 (mz_fc mz_i_wsX8_arrow_3 (mz_fc mz_i_wsX8_arrow_4 (mz_fc mz_i_wsX8_arrow_5 (mz_fc mz_i_wsX8_arrow_6 (mz_fc mz_i_wsX8_arrow_7 mz_fn))))))) (mz_f_wsX8_arrow_wsX80))) (by decide +kernel)
theorem mz_i_wsX8_arrow_10 : (.selects RX8 yX8_has yX8_has : Cond) ∈ wsX8_arrow := mz_mt (mz_ml (mz_mt (mz_mt (mz_mt (mz_mt (mz_mt (mz_mt (mz_mt (mz_mt (mz_mt mz_mh))))))))))
theorem mz_i_wsX8_arrow_9 : (.instanceMethod yX8_has : Cond) ∈ wsX8_arrow := mz_mt (mz_ml (mz_mt (mz_mt (mz_mt (mz_mt (mz_mt (mz_mt (mz_mt (mz_mt mz_mh)))))))))
theorem mz_i_wsX8_arrow_8 : (.methodLink RX8 78 yX8_has : Cond) ∈ wsX8_arrow := mz_mt (mz_ml (mz_mt (mz_mt (mz_mt (mz_mt (mz_mt (mz_mt (mz_mt mz_mh))))))))
set_option maxRecDepth 20000 in
theorem gX8_arrow_X8_has : GoodIn wsX8_arrow (wsV RX8 78 RX8 yX8_has wsX8_has) := goodIn_app (goodIn_sub (mz_fc mz_i_wsX8_arrow_8 (mz_fc mz_i_wsX8_arrow_9 (mz_fc mz_i_wsX8_arrow_10 (mz_fc mz_i_wsX8_arrow_5 mz_fn)))) (by decide +kernel)) ggX8_arrow_X8_has
theorem mz_i_wsX8_arrow_15 : (.code yX8_belowOf cX8_belowOf 8 (some .int) : Cond) ∈ wsX8_arrow := mz_mt (mz_ml (mz_mt (mz_mt (mz_mt (mz_mt (mz_mt (mz_mt (mz_mt (mz_mt (mz_mt (mz_mt (mz_mt (mz_mt (mz_mt (mz_mt mz_mh)))))))))))))))
theorem mz_i_wsX8_arrow_19 : (.code yX8_parentsWithout cX8_parentsWithout 4 (some .int) : Cond) ∈ wsX8_arrow := mz_mt (mz_ml (mz_mt (mz_mt (mz_mt (mz_mt (mz_mt (mz_mt (mz_mt (mz_mt (mz_mt (mz_mt (mz_mt (mz_mt (mz_mt (mz_mt (mz_mt (mz_mt (mz_mt (mz_mt mz_mh)))))))))))))))))))
theorem mz_i_wsX8_arrow_18 : (.selects RX8 yX8_parentsWithout yX8_parentsWithout : Cond) ∈ wsX8_arrow := mz_mt (mz_ml (mz_mt (mz_mt (mz_mt (mz_mt (mz_mt (mz_mt (mz_mt (mz_mt (mz_mt (mz_mt (mz_mt (mz_mt (mz_mt (mz_mt (mz_mt (mz_mt (mz_mt mz_mh))))))))))))))))))
theorem mz_i_wsX8_arrow_17 : (.instanceMethod yX8_parentsWithout : Cond) ∈ wsX8_arrow := mz_mt (mz_ml (mz_mt (mz_mt (mz_mt (mz_mt (mz_mt (mz_mt (mz_mt (mz_mt (mz_mt (mz_mt (mz_mt (mz_mt (mz_mt (mz_mt (mz_mt (mz_mt mz_mh)))))))))))))))))
theorem mz_i_wsX8_arrow_16 : (.methodLink RX8 74 yX8_parentsWithout : Cond) ∈ wsX8_arrow := mz_mt (mz_ml (mz_mt (mz_mt (mz_mt (mz_mt (mz_mt (mz_mt (mz_mt (mz_mt (mz_mt (mz_mt (mz_mt (mz_mt (mz_mt (mz_mt (mz_mt mz_mh))))))))))))))))
set_option maxRecDepth 20000 in
theorem ggX8_arrow_X8_belowOf : GoodIn wsX8_arrow wsX8_belowOf := goodIn_sub (mz_fc mz_i_wsX8_arrow_15 (mz_fa (mz_fc mz_i_wsX8_arrow_7 (mz_fc mz_i_wsX8_arrow_16 (mz_fc mz_i_wsX8_arrow_17 (mz_fc mz_i_wsX8_arrow_18 (mz_fc mz_i_wsX8_arrow_5 (mz_fc mz_i_wsX8_arrow_19 (mz_fc mz_i_wsX8_arrow_1 mz_fn))))))) (mz_f_wsX8_arrow_wsX80))) (by decide +kernel)
theorem mz_i_wsX8_arrow_14 : (.selects RX8 yX8_belowOf yX8_belowOf : Cond) ∈ wsX8_arrow := mz_mt (mz_ml (mz_mt (mz_mt (mz_mt (mz_mt (mz_mt (mz_mt (mz_mt (mz_mt (mz_mt (mz_mt (mz_mt (mz_mt (mz_mt mz_mh))))))))))))))
theorem mz_i_wsX8_arrow_13 : (.instanceMethod yX8_belowOf : Cond) ∈ wsX8_arrow := mz_mt (mz_ml (mz_mt (mz_mt (mz_mt (mz_mt (mz_mt (mz_mt (mz_mt (mz_mt (mz_mt (mz_mt (mz_mt (mz_mt mz_mh)))))))))))))
theorem mz_i_wsX8_arrow_12 : (.methodLink RX8 82 yX8_belowOf : Cond) ∈ wsX8_arrow := mz_mt (mz_ml (mz_mt (mz_mt (mz_mt (mz_mt (mz_mt (mz_mt (mz_mt (mz_mt (mz_mt (mz_mt (mz_mt mz_mh))))))))))))
set_option maxRecDepth 20000 in
theorem gX8_arrow_X8_belowOf : GoodIn wsX8_arrow (wsV RX8 82 RX8 yX8_belowOf wsX8_belowOf) := goodIn_app (goodIn_sub (mz_fc mz_i_wsX8_arrow_12 (mz_fc mz_i_wsX8_arrow_13 (mz_fc mz_i_wsX8_arrow_14 (mz_fc mz_i_wsX8_arrow_5 mz_fn)))) (by decide +kernel)) ggX8_arrow_X8_belowOf
theorem mz_i_wsX8_arrow_23 : (.code yX8_fresh cX8_fresh 3 none : Cond) ∈ wsX8_arrow := mz_mt (mz_ml (mz_mt (mz_mt (mz_mt (mz_mt (mz_mt (mz_mt (mz_mt (mz_mt (mz_mt (mz_mt (mz_mt (mz_mt (mz_mt (mz_mt (mz_mt (mz_mt (mz_mt (mz_mt (mz_mt (mz_mt (mz_mt (mz_mt mz_mh)))))))))))))))))))))))
theorem mz_i_wsX8_arrow_24 : (.fieldLink RX8 17 "MadeItSoModel" "books" "[I" : Cond) ∈ wsX8_arrow := mz_mt (mz_ml (mz_mt (mz_mt (mz_mt (mz_mt (mz_mt (mz_mt (mz_mt (mz_mt (mz_mt (mz_mt (mz_mt (mz_mt (mz_mt (mz_mt (mz_mt (mz_mt (mz_mt (mz_mt (mz_mt (mz_mt (mz_mt (mz_mt (mz_mt mz_mh))))))))))))))))))))))))
set_option maxRecDepth 20000 in
theorem ggX8_arrow_X8_fresh : GoodIn wsX8_arrow wsX8_fresh := goodIn_sub (mz_fc mz_i_wsX8_arrow_23 (mz_fa (mz_fc mz_i_wsX8_arrow_24 mz_fn) (mz_f_wsX8_arrow_wsX80))) (by decide +kernel)
theorem mz_i_wsX8_arrow_22 : (.selects RX8 yX8_fresh yX8_fresh : Cond) ∈ wsX8_arrow := mz_mt (mz_ml (mz_mt (mz_mt (mz_mt (mz_mt (mz_mt (mz_mt (mz_mt (mz_mt (mz_mt (mz_mt (mz_mt (mz_mt (mz_mt (mz_mt (mz_mt (mz_mt (mz_mt (mz_mt (mz_mt (mz_mt (mz_mt mz_mh))))))))))))))))))))))
theorem mz_i_wsX8_arrow_21 : (.instanceMethod yX8_fresh : Cond) ∈ wsX8_arrow := mz_mt (mz_ml (mz_mt (mz_mt (mz_mt (mz_mt (mz_mt (mz_mt (mz_mt (mz_mt (mz_mt (mz_mt (mz_mt (mz_mt (mz_mt (mz_mt (mz_mt (mz_mt (mz_mt (mz_mt (mz_mt (mz_mt mz_mh)))))))))))))))))))))
theorem mz_i_wsX8_arrow_20 : (.methodLink RX8 67 yX8_fresh : Cond) ∈ wsX8_arrow := mz_mt (mz_ml (mz_mt (mz_mt (mz_mt (mz_mt (mz_mt (mz_mt (mz_mt (mz_mt (mz_mt (mz_mt (mz_mt (mz_mt (mz_mt (mz_mt (mz_mt (mz_mt (mz_mt (mz_mt (mz_mt mz_mh))))))))))))))))))))
set_option maxRecDepth 20000 in
theorem gX8_arrow_X8_fresh : GoodIn wsX8_arrow (wsV RX8 67 RX8 yX8_fresh wsX8_fresh) := goodIn_app (goodIn_sub (mz_fc mz_i_wsX8_arrow_20 (mz_fc mz_i_wsX8_arrow_21 (mz_fc mz_i_wsX8_arrow_22 (mz_fc mz_i_wsX8_arrow_5 mz_fn)))) (by decide +kernel)) ggX8_arrow_X8_fresh
theorem dX8_arrow_0 : decode cX8_arrow 0 = .ok (.aload_n 0, 1) := by decide +kernel
theorem dX8_arrow_1 : decode cX8_arrow 1 = .ok (.iload_n 1, 1) := by decide +kernel
theorem dX8_arrow_2 : decode cX8_arrow 2 = .ok (.invokevirtual 71, 3) := by decide +kernel
theorem dX8_arrow_5 : decode cX8_arrow 5 = .ok (.ifCond .eq 48, 3) := by decide +kernel
theorem dX8_arrow_8 : decode cX8_arrow 8 = .ok (.aload_n 0, 1) := by decide +kernel
theorem dX8_arrow_9 : decode cX8_arrow 9 = .ok (.iload_n 2, 1) := by decide +kernel
theorem dX8_arrow_10 : decode cX8_arrow 10 = .ok (.invokevirtual 71, 3) := by decide +kernel
theorem dX8_arrow_13 : decode cX8_arrow 13 = .ok (.ifCond .eq 40, 3) := by decide +kernel
theorem dX8_arrow_16 : decode cX8_arrow 16 = .ok (.iload_n 1, 1) := by decide +kernel
theorem dX8_arrow_17 : decode cX8_arrow 17 = .ok (.iload_n 2, 1) := by decide +kernel
theorem dX8_arrow_18 : decode cX8_arrow 18 = .ok (.if_icmp .eq 35, 3) := by decide +kernel
theorem dX8_arrow_21 : decode cX8_arrow 21 = .ok (.aload_n 0, 1) := by decide +kernel
theorem dX8_arrow_22 : decode cX8_arrow 22 = .ok (.iload_n 1, 1) := by decide +kernel
theorem dX8_arrow_23 : decode cX8_arrow 23 = .ok (.iload_n 2, 1) := by decide +kernel
theorem dX8_arrow_24 : decode cX8_arrow 24 = .ok (.invokevirtual 78, 3) := by decide +kernel
theorem dX8_arrow_27 : decode cX8_arrow 27 = .ok (.ifCond .ne 26, 3) := by decide +kernel
theorem dX8_arrow_30 : decode cX8_arrow 30 = .ok (.aload_n 0, 1) := by decide +kernel
theorem dX8_arrow_31 : decode cX8_arrow 31 = .ok (.iload_n 2, 1) := by decide +kernel
theorem dX8_arrow_32 : decode cX8_arrow 32 = .ok (.iload_n 1, 1) := by decide +kernel
theorem dX8_arrow_33 : decode cX8_arrow 33 = .ok (.invokevirtual 78, 3) := by decide +kernel
theorem dX8_arrow_36 : decode cX8_arrow 36 = .ok (.ifCond .ne 17, 3) := by decide +kernel
theorem dX8_arrow_39 : decode cX8_arrow 39 = .ok (.aload_n 0, 1) := by decide +kernel
theorem dX8_arrow_40 : decode cX8_arrow 40 = .ok (.iload_n 2, 1) := by decide +kernel
theorem dX8_arrow_41 : decode cX8_arrow 41 = .ok (.iconst 0, 1) := by decide +kernel
theorem dX8_arrow_42 : decode cX8_arrow 42 = .ok (.invokevirtual 82, 3) := by decide +kernel
theorem dX8_arrow_45 : decode cX8_arrow 45 = .ok (.iload_n 1, 1) := by decide +kernel
theorem dX8_arrow_46 : decode cX8_arrow 46 = .ok (.ishr, 1) := by decide +kernel
theorem dX8_arrow_47 : decode cX8_arrow 47 = .ok (.iconst 1, 1) := by decide +kernel
theorem dX8_arrow_48 : decode cX8_arrow 48 = .ok (.iand, 1) := by decide +kernel
theorem dX8_arrow_49 : decode cX8_arrow 49 = .ok (.iconst 1, 1) := by decide +kernel
theorem dX8_arrow_50 : decode cX8_arrow 50 = .ok (.if_icmp .ne 5, 3) := by decide +kernel
theorem dX8_arrow_53 : decode cX8_arrow 53 = .ok (.iconst 0, 1) := by decide +kernel
theorem dX8_arrow_54 : decode cX8_arrow 54 = .ok (.ireturn, 1) := by decide +kernel
theorem dX8_arrow_55 : decode cX8_arrow 55 = .ok (.aload_n 0, 1) := by decide +kernel
theorem dX8_arrow_56 : decode cX8_arrow 56 = .ok (.getfield 13, 3) := by decide +kernel
theorem dX8_arrow_59 : decode cX8_arrow 59 = .ok (.iload_n 2, 1) := by decide +kernel
theorem dX8_arrow_60 : decode cX8_arrow 60 = .ok (.dup2, 1) := by decide +kernel
theorem dX8_arrow_61 : decode cX8_arrow 61 = .ok (.iaload, 1) := by decide +kernel
theorem dX8_arrow_62 : decode cX8_arrow 62 = .ok (.iconst 1, 1) := by decide +kernel
theorem dX8_arrow_63 : decode cX8_arrow 63 = .ok (.iload_n 1, 1) := by decide +kernel
theorem dX8_arrow_64 : decode cX8_arrow 64 = .ok (.ishl, 1) := by decide +kernel
theorem dX8_arrow_65 : decode cX8_arrow 65 = .ok (.ior, 1) := by decide +kernel
theorem dX8_arrow_66 : decode cX8_arrow 66 = .ok (.iastore, 1) := by decide +kernel
theorem dX8_arrow_67 : decode cX8_arrow 67 = .ok (.aload_n 0, 1) := by decide +kernel
theorem dX8_arrow_68 : decode cX8_arrow 68 = .ok (.iload_n 2, 1) := by decide +kernel
theorem dX8_arrow_69 : decode cX8_arrow 69 = .ok (.invokevirtual 67, 3) := by decide +kernel
theorem dX8_arrow_72 : decode cX8_arrow 72 = .ok (.iconst 1, 1) := by decide +kernel
theorem dX8_arrow_73 : decode cX8_arrow 73 = .ok (.ireturn, 1) := by decide +kernel
theorem mz_i_wsX8_cut_6 : (.code yX8_has cX8_has 3 (some .boolean) : Cond) ∈ wsX8_cut := mz_mt (mz_ml (mz_mt (mz_mt (mz_mt (mz_mt (mz_mt mz_mh))))))
theorem mz_i_wsX8_cut_11 : (.fieldLink RX8 58 "MadeItSoModel" "many" "I" : Cond) ∈ wsX8_cut := mz_mt (mz_ml (mz_mt (mz_mt (mz_mt (mz_mt (mz_mt (mz_mt (mz_mt (mz_mt (mz_mt (mz_mt mz_mh)))))))))))
theorem mz_i_wsX8_cut_10 : (.code yX8_isThing cX8_isThing 2 (some .boolean) : Cond) ∈ wsX8_cut := mz_mt (mz_ml (mz_mt (mz_mt (mz_mt (mz_mt (mz_mt (mz_mt (mz_mt (mz_mt (mz_mt mz_mh))))))))))
theorem mz_i_wsX8_cut_5 : (.initialized RX8 : Cond) ∈ wsX8_cut := mz_mt (mz_ml (mz_mt (mz_mt (mz_mt (mz_mt mz_mh)))))
theorem mz_i_wsX8_cut_9 : (.selects RX8 yX8_isThing yX8_isThing : Cond) ∈ wsX8_cut := mz_mt (mz_ml (mz_mt (mz_mt (mz_mt (mz_mt (mz_mt (mz_mt (mz_mt (mz_mt mz_mh)))))))))
theorem mz_i_wsX8_cut_8 : (.instanceMethod yX8_isThing : Cond) ∈ wsX8_cut := mz_mt (mz_ml (mz_mt (mz_mt (mz_mt (mz_mt (mz_mt (mz_mt (mz_mt mz_mh))))))))
theorem mz_i_wsX8_cut_7 : (.methodLink RX8 71 yX8_isThing : Cond) ∈ wsX8_cut := mz_mt (mz_ml (mz_mt (mz_mt (mz_mt (mz_mt (mz_mt (mz_mt mz_mh)))))))
theorem mz_i_wsX8_cut_1 : (.fieldLink RX8 13 "MadeItSoModel" "parents" "[I" : Cond) ∈ wsX8_cut := mz_mt (mz_ml mz_mh)
theorem mz_f_wsX8_cut_wsX80 : ∀ w ∈ wsX80, w ∈ wsX8_cut := fun _ h => mz_mt (mz_mr h)
set_option maxRecDepth 20000 in
theorem ggX8_cut_X8_has : GoodIn wsX8_cut wsX8_has := goodIn_sub (mz_fc mz_i_wsX8_cut_6 (mz_fa (mz_fc mz_i_wsX8_cut_1 (mz_fc mz_i_wsX8_cut_7 (mz_fc mz_i_wsX8_cut_8 (mz_fc mz_i_wsX8_cut_9 (mz_fc mz_i_wsX8_cut_5 (mz_fc mz_i_wsX8_cut_10 (mz_fc mz_i_wsX8_cut_11 mz_fn))))))) (mz_f_wsX8_cut_wsX80))) (by decide +kernel)
theorem mz_i_wsX8_cut_4 : (.selects RX8 yX8_has yX8_has : Cond) ∈ wsX8_cut := mz_mt (mz_ml (mz_mt (mz_mt (mz_mt mz_mh))))
theorem mz_i_wsX8_cut_3 : (.instanceMethod yX8_has : Cond) ∈ wsX8_cut := mz_mt (mz_ml (mz_mt (mz_mt mz_mh)))
theorem mz_i_wsX8_cut_2 : (.methodLink RX8 78 yX8_has : Cond) ∈ wsX8_cut := mz_mt (mz_ml (mz_mt mz_mh))
set_option maxRecDepth 20000 in
theorem gX8_cut_X8_has : GoodIn wsX8_cut (wsV RX8 78 RX8 yX8_has wsX8_has) := goodIn_app (goodIn_sub (mz_fc mz_i_wsX8_cut_2 (mz_fc mz_i_wsX8_cut_3 (mz_fc mz_i_wsX8_cut_4 (mz_fc mz_i_wsX8_cut_5 mz_fn)))) (by decide +kernel)) ggX8_cut_X8_has
theorem mz_i_wsX8_cut_15 : (.code yX8_fresh cX8_fresh 3 none : Cond) ∈ wsX8_cut := mz_mt (mz_ml (mz_mt (mz_mt (mz_mt (mz_mt (mz_mt (mz_mt (mz_mt (mz_mt (mz_mt (mz_mt (mz_mt (mz_mt (mz_mt (mz_mt mz_mh)))))))))))))))
theorem mz_i_wsX8_cut_16 : (.fieldLink RX8 17 "MadeItSoModel" "books" "[I" : Cond) ∈ wsX8_cut := mz_mt (mz_ml (mz_mt (mz_mt (mz_mt (mz_mt (mz_mt (mz_mt (mz_mt (mz_mt (mz_mt (mz_mt (mz_mt (mz_mt (mz_mt (mz_mt (mz_mt mz_mh))))))))))))))))
set_option maxRecDepth 20000 in
theorem ggX8_cut_X8_fresh : GoodIn wsX8_cut wsX8_fresh := goodIn_sub (mz_fc mz_i_wsX8_cut_15 (mz_fa (mz_fc mz_i_wsX8_cut_16 mz_fn) (mz_f_wsX8_cut_wsX80))) (by decide +kernel)
theorem mz_i_wsX8_cut_14 : (.selects RX8 yX8_fresh yX8_fresh : Cond) ∈ wsX8_cut := mz_mt (mz_ml (mz_mt (mz_mt (mz_mt (mz_mt (mz_mt (mz_mt (mz_mt (mz_mt (mz_mt (mz_mt (mz_mt (mz_mt (mz_mt mz_mh))))))))))))))
theorem mz_i_wsX8_cut_13 : (.instanceMethod yX8_fresh : Cond) ∈ wsX8_cut := mz_mt (mz_ml (mz_mt (mz_mt (mz_mt (mz_mt (mz_mt (mz_mt (mz_mt (mz_mt (mz_mt (mz_mt (mz_mt (mz_mt mz_mh)))))))))))))
theorem mz_i_wsX8_cut_12 : (.methodLink RX8 67 yX8_fresh : Cond) ∈ wsX8_cut := mz_mt (mz_ml (mz_mt (mz_mt (mz_mt (mz_mt (mz_mt (mz_mt (mz_mt (mz_mt (mz_mt (mz_mt (mz_mt mz_mh))))))))))))
set_option maxRecDepth 20000 in
theorem gX8_cut_X8_fresh : GoodIn wsX8_cut (wsV RX8 67 RX8 yX8_fresh wsX8_fresh) := goodIn_app (goodIn_sub (mz_fc mz_i_wsX8_cut_12 (mz_fc mz_i_wsX8_cut_13 (mz_fc mz_i_wsX8_cut_14 (mz_fc mz_i_wsX8_cut_5 mz_fn)))) (by decide +kernel)) ggX8_cut_X8_fresh
theorem dX8_cut_0 : decode cX8_cut 0 = .ok (.aload_n 0, 1) := by decide +kernel
theorem dX8_cut_1 : decode cX8_cut 1 = .ok (.iload_n 1, 1) := by decide +kernel
theorem dX8_cut_2 : decode cX8_cut 2 = .ok (.iload_n 2, 1) := by decide +kernel
theorem dX8_cut_3 : decode cX8_cut 3 = .ok (.invokevirtual 78, 3) := by decide +kernel
theorem dX8_cut_6 : decode cX8_cut 6 = .ok (.ifCond .ne 5, 3) := by decide +kernel
theorem dX8_cut_9 : decode cX8_cut 9 = .ok (.iconst 0, 1) := by decide +kernel
theorem dX8_cut_10 : decode cX8_cut 10 = .ok (.ireturn, 1) := by decide +kernel
theorem dX8_cut_11 : decode cX8_cut 11 = .ok (.aload_n 0, 1) := by decide +kernel
theorem dX8_cut_12 : decode cX8_cut 12 = .ok (.getfield 13, 3) := by decide +kernel
theorem dX8_cut_15 : decode cX8_cut 15 = .ok (.iload_n 2, 1) := by decide +kernel
theorem dX8_cut_16 : decode cX8_cut 16 = .ok (.dup2, 1) := by decide +kernel
theorem dX8_cut_17 : decode cX8_cut 17 = .ok (.iaload, 1) := by decide +kernel
theorem dX8_cut_18 : decode cX8_cut 18 = .ok (.iconst 1, 1) := by decide +kernel
theorem dX8_cut_19 : decode cX8_cut 19 = .ok (.iload_n 1, 1) := by decide +kernel
theorem dX8_cut_20 : decode cX8_cut 20 = .ok (.ishl, 1) := by decide +kernel
theorem dX8_cut_21 : decode cX8_cut 21 = .ok (.iconst (-1), 1) := by decide +kernel
theorem dX8_cut_22 : decode cX8_cut 22 = .ok (.ixor, 1) := by decide +kernel
theorem dX8_cut_23 : decode cX8_cut 23 = .ok (.iand, 1) := by decide +kernel
theorem dX8_cut_24 : decode cX8_cut 24 = .ok (.iastore, 1) := by decide +kernel
theorem dX8_cut_25 : decode cX8_cut 25 = .ok (.aload_n 0, 1) := by decide +kernel
theorem dX8_cut_26 : decode cX8_cut 26 = .ok (.iload_n 2, 1) := by decide +kernel
theorem dX8_cut_27 : decode cX8_cut 27 = .ok (.invokevirtual 67, 3) := by decide +kernel
theorem dX8_cut_30 : decode cX8_cut 30 = .ok (.iconst 1, 1) := by decide +kernel
theorem dX8_cut_31 : decode cX8_cut 31 = .ok (.ireturn, 1) := by decide +kernel
theorem mz_i_wsX8_turn_6 : (.code yX8_has cX8_has 3 (some .boolean) : Cond) ∈ wsX8_turn := mz_mt (mz_ml (mz_mt (mz_mt (mz_mt (mz_mt (mz_mt mz_mh))))))
theorem mz_i_wsX8_turn_11 : (.fieldLink RX8 58 "MadeItSoModel" "many" "I" : Cond) ∈ wsX8_turn := mz_mt (mz_ml (mz_mt (mz_mt (mz_mt (mz_mt (mz_mt (mz_mt (mz_mt (mz_mt (mz_mt (mz_mt mz_mh)))))))))))
theorem mz_i_wsX8_turn_10 : (.code yX8_isThing cX8_isThing 2 (some .boolean) : Cond) ∈ wsX8_turn := mz_mt (mz_ml (mz_mt (mz_mt (mz_mt (mz_mt (mz_mt (mz_mt (mz_mt (mz_mt (mz_mt mz_mh))))))))))
theorem mz_i_wsX8_turn_5 : (.initialized RX8 : Cond) ∈ wsX8_turn := mz_mt (mz_ml (mz_mt (mz_mt (mz_mt (mz_mt mz_mh)))))
theorem mz_i_wsX8_turn_9 : (.selects RX8 yX8_isThing yX8_isThing : Cond) ∈ wsX8_turn := mz_mt (mz_ml (mz_mt (mz_mt (mz_mt (mz_mt (mz_mt (mz_mt (mz_mt (mz_mt mz_mh)))))))))
theorem mz_i_wsX8_turn_8 : (.instanceMethod yX8_isThing : Cond) ∈ wsX8_turn := mz_mt (mz_ml (mz_mt (mz_mt (mz_mt (mz_mt (mz_mt (mz_mt (mz_mt mz_mh))))))))
theorem mz_i_wsX8_turn_7 : (.methodLink RX8 71 yX8_isThing : Cond) ∈ wsX8_turn := mz_mt (mz_ml (mz_mt (mz_mt (mz_mt (mz_mt (mz_mt (mz_mt mz_mh)))))))
theorem mz_i_wsX8_turn_1 : (.fieldLink RX8 13 "MadeItSoModel" "parents" "[I" : Cond) ∈ wsX8_turn := mz_mt (mz_ml mz_mh)
theorem mz_f_wsX8_turn_wsX80 : ∀ w ∈ wsX80, w ∈ wsX8_turn := fun _ h => mz_mt (mz_mr h)
set_option maxRecDepth 20000 in
theorem ggX8_turn_X8_has : GoodIn wsX8_turn wsX8_has := goodIn_sub (mz_fc mz_i_wsX8_turn_6 (mz_fa (mz_fc mz_i_wsX8_turn_1 (mz_fc mz_i_wsX8_turn_7 (mz_fc mz_i_wsX8_turn_8 (mz_fc mz_i_wsX8_turn_9 (mz_fc mz_i_wsX8_turn_5 (mz_fc mz_i_wsX8_turn_10 (mz_fc mz_i_wsX8_turn_11 mz_fn))))))) (mz_f_wsX8_turn_wsX80))) (by decide +kernel)
theorem mz_i_wsX8_turn_4 : (.selects RX8 yX8_has yX8_has : Cond) ∈ wsX8_turn := mz_mt (mz_ml (mz_mt (mz_mt (mz_mt mz_mh))))
theorem mz_i_wsX8_turn_3 : (.instanceMethod yX8_has : Cond) ∈ wsX8_turn := mz_mt (mz_ml (mz_mt (mz_mt mz_mh)))
theorem mz_i_wsX8_turn_2 : (.methodLink RX8 78 yX8_has : Cond) ∈ wsX8_turn := mz_mt (mz_ml (mz_mt mz_mh))
set_option maxRecDepth 20000 in
theorem gX8_turn_X8_has : GoodIn wsX8_turn (wsV RX8 78 RX8 yX8_has wsX8_has) := goodIn_app (goodIn_sub (mz_fc mz_i_wsX8_turn_2 (mz_fc mz_i_wsX8_turn_3 (mz_fc mz_i_wsX8_turn_4 (mz_fc mz_i_wsX8_turn_5 mz_fn)))) (by decide +kernel)) ggX8_turn_X8_has
theorem mz_i_wsX8_turn_15 : (.code yX8_belowOf cX8_belowOf 8 (some .int) : Cond) ∈ wsX8_turn := mz_mt (mz_ml (mz_mt (mz_mt (mz_mt (mz_mt (mz_mt (mz_mt (mz_mt (mz_mt (mz_mt (mz_mt (mz_mt (mz_mt (mz_mt (mz_mt mz_mh)))))))))))))))
theorem mz_i_wsX8_turn_19 : (.code yX8_parentsWithout cX8_parentsWithout 4 (some .int) : Cond) ∈ wsX8_turn := mz_mt (mz_ml (mz_mt (mz_mt (mz_mt (mz_mt (mz_mt (mz_mt (mz_mt (mz_mt (mz_mt (mz_mt (mz_mt (mz_mt (mz_mt (mz_mt (mz_mt (mz_mt (mz_mt (mz_mt mz_mh)))))))))))))))))))
theorem mz_i_wsX8_turn_18 : (.selects RX8 yX8_parentsWithout yX8_parentsWithout : Cond) ∈ wsX8_turn := mz_mt (mz_ml (mz_mt (mz_mt (mz_mt (mz_mt (mz_mt (mz_mt (mz_mt (mz_mt (mz_mt (mz_mt (mz_mt (mz_mt (mz_mt (mz_mt (mz_mt (mz_mt (mz_mt mz_mh))))))))))))))))))
theorem mz_i_wsX8_turn_17 : (.instanceMethod yX8_parentsWithout : Cond) ∈ wsX8_turn := mz_mt (mz_ml (mz_mt (mz_mt (mz_mt (mz_mt (mz_mt (mz_mt (mz_mt (mz_mt (mz_mt (mz_mt (mz_mt (mz_mt (mz_mt (mz_mt (mz_mt (mz_mt mz_mh)))))))))))))))))
theorem mz_i_wsX8_turn_16 : (.methodLink RX8 74 yX8_parentsWithout : Cond) ∈ wsX8_turn := mz_mt (mz_ml (mz_mt (mz_mt (mz_mt (mz_mt (mz_mt (mz_mt (mz_mt (mz_mt (mz_mt (mz_mt (mz_mt (mz_mt (mz_mt (mz_mt (mz_mt mz_mh))))))))))))))))
set_option maxRecDepth 20000 in
theorem ggX8_turn_X8_belowOf : GoodIn wsX8_turn wsX8_belowOf := goodIn_sub (mz_fc mz_i_wsX8_turn_15 (mz_fa (mz_fc mz_i_wsX8_turn_11 (mz_fc mz_i_wsX8_turn_16 (mz_fc mz_i_wsX8_turn_17 (mz_fc mz_i_wsX8_turn_18 (mz_fc mz_i_wsX8_turn_5 (mz_fc mz_i_wsX8_turn_19 (mz_fc mz_i_wsX8_turn_1 mz_fn))))))) (mz_f_wsX8_turn_wsX80))) (by decide +kernel)
theorem mz_i_wsX8_turn_14 : (.selects RX8 yX8_belowOf yX8_belowOf : Cond) ∈ wsX8_turn := mz_mt (mz_ml (mz_mt (mz_mt (mz_mt (mz_mt (mz_mt (mz_mt (mz_mt (mz_mt (mz_mt (mz_mt (mz_mt (mz_mt (mz_mt mz_mh))))))))))))))
theorem mz_i_wsX8_turn_13 : (.instanceMethod yX8_belowOf : Cond) ∈ wsX8_turn := mz_mt (mz_ml (mz_mt (mz_mt (mz_mt (mz_mt (mz_mt (mz_mt (mz_mt (mz_mt (mz_mt (mz_mt (mz_mt (mz_mt mz_mh)))))))))))))
theorem mz_i_wsX8_turn_12 : (.methodLink RX8 82 yX8_belowOf : Cond) ∈ wsX8_turn := mz_mt (mz_ml (mz_mt (mz_mt (mz_mt (mz_mt (mz_mt (mz_mt (mz_mt (mz_mt (mz_mt (mz_mt (mz_mt mz_mh))))))))))))
set_option maxRecDepth 20000 in
theorem gX8_turn_X8_belowOf : GoodIn wsX8_turn (wsV RX8 82 RX8 yX8_belowOf wsX8_belowOf) := goodIn_app (goodIn_sub (mz_fc mz_i_wsX8_turn_12 (mz_fc mz_i_wsX8_turn_13 (mz_fc mz_i_wsX8_turn_14 (mz_fc mz_i_wsX8_turn_5 mz_fn)))) (by decide +kernel)) ggX8_turn_X8_belowOf
theorem mz_i_wsX8_turn_23 : (.code yX8_fresh cX8_fresh 3 none : Cond) ∈ wsX8_turn := mz_mt (mz_ml (mz_mt (mz_mt (mz_mt (mz_mt (mz_mt (mz_mt (mz_mt (mz_mt (mz_mt (mz_mt (mz_mt (mz_mt (mz_mt (mz_mt (mz_mt (mz_mt (mz_mt (mz_mt (mz_mt (mz_mt (mz_mt (mz_mt mz_mh)))))))))))))))))))))))
theorem mz_i_wsX8_turn_24 : (.fieldLink RX8 17 "MadeItSoModel" "books" "[I" : Cond) ∈ wsX8_turn := mz_mt (mz_ml (mz_mt (mz_mt (mz_mt (mz_mt (mz_mt (mz_mt (mz_mt (mz_mt (mz_mt (mz_mt (mz_mt (mz_mt (mz_mt (mz_mt (mz_mt (mz_mt (mz_mt (mz_mt (mz_mt (mz_mt (mz_mt (mz_mt (mz_mt mz_mh))))))))))))))))))))))))
set_option maxRecDepth 20000 in
theorem ggX8_turn_X8_fresh : GoodIn wsX8_turn wsX8_fresh := goodIn_sub (mz_fc mz_i_wsX8_turn_23 (mz_fa (mz_fc mz_i_wsX8_turn_24 mz_fn) (mz_f_wsX8_turn_wsX80))) (by decide +kernel)
theorem mz_i_wsX8_turn_22 : (.selects RX8 yX8_fresh yX8_fresh : Cond) ∈ wsX8_turn := mz_mt (mz_ml (mz_mt (mz_mt (mz_mt (mz_mt (mz_mt (mz_mt (mz_mt (mz_mt (mz_mt (mz_mt (mz_mt (mz_mt (mz_mt (mz_mt (mz_mt (mz_mt (mz_mt (mz_mt (mz_mt (mz_mt (mz_mt mz_mh))))))))))))))))))))))
theorem mz_i_wsX8_turn_21 : (.instanceMethod yX8_fresh : Cond) ∈ wsX8_turn := mz_mt (mz_ml (mz_mt (mz_mt (mz_mt (mz_mt (mz_mt (mz_mt (mz_mt (mz_mt (mz_mt (mz_mt (mz_mt (mz_mt (mz_mt (mz_mt (mz_mt (mz_mt (mz_mt (mz_mt (mz_mt (mz_mt mz_mh)))))))))))))))))))))
theorem mz_i_wsX8_turn_20 : (.methodLink RX8 67 yX8_fresh : Cond) ∈ wsX8_turn := mz_mt (mz_ml (mz_mt (mz_mt (mz_mt (mz_mt (mz_mt (mz_mt (mz_mt (mz_mt (mz_mt (mz_mt (mz_mt (mz_mt (mz_mt (mz_mt (mz_mt (mz_mt (mz_mt (mz_mt (mz_mt mz_mh))))))))))))))))))))
set_option maxRecDepth 20000 in
theorem gX8_turn_X8_fresh : GoodIn wsX8_turn (wsV RX8 67 RX8 yX8_fresh wsX8_fresh) := goodIn_app (goodIn_sub (mz_fc mz_i_wsX8_turn_20 (mz_fc mz_i_wsX8_turn_21 (mz_fc mz_i_wsX8_turn_22 (mz_fc mz_i_wsX8_turn_5 mz_fn)))) (by decide +kernel)) ggX8_turn_X8_fresh
theorem dX8_turn_0 : decode cX8_turn 0 = .ok (.aload_n 0, 1) := by decide +kernel
theorem dX8_turn_1 : decode cX8_turn 1 = .ok (.iload_n 1, 1) := by decide +kernel
theorem dX8_turn_2 : decode cX8_turn 2 = .ok (.iload_n 2, 1) := by decide +kernel
theorem dX8_turn_3 : decode cX8_turn 3 = .ok (.invokevirtual 78, 3) := by decide +kernel
theorem dX8_turn_6 : decode cX8_turn 6 = .ok (.ifCond .ne 5, 3) := by decide +kernel
theorem dX8_turn_9 : decode cX8_turn 9 = .ok (.iconst 0, 1) := by decide +kernel
theorem dX8_turn_10 : decode cX8_turn 10 = .ok (.ireturn, 1) := by decide +kernel
theorem dX8_turn_11 : decode cX8_turn 11 = .ok (.aload_n 0, 1) := by decide +kernel
theorem dX8_turn_12 : decode cX8_turn 12 = .ok (.getfield 13, 3) := by decide +kernel
theorem dX8_turn_15 : decode cX8_turn 15 = .ok (.iload_n 2, 1) := by decide +kernel
theorem dX8_turn_16 : decode cX8_turn 16 = .ok (.dup2, 1) := by decide +kernel
theorem dX8_turn_17 : decode cX8_turn 17 = .ok (.iaload, 1) := by decide +kernel
theorem dX8_turn_18 : decode cX8_turn 18 = .ok (.iconst 1, 1) := by decide +kernel
theorem dX8_turn_19 : decode cX8_turn 19 = .ok (.iload_n 1, 1) := by decide +kernel
theorem dX8_turn_20 : decode cX8_turn 20 = .ok (.ishl, 1) := by decide +kernel
theorem dX8_turn_21 : decode cX8_turn 21 = .ok (.iconst (-1), 1) := by decide +kernel
theorem dX8_turn_22 : decode cX8_turn 22 = .ok (.ixor, 1) := by decide +kernel
theorem dX8_turn_23 : decode cX8_turn 23 = .ok (.iand, 1) := by decide +kernel
theorem dX8_turn_24 : decode cX8_turn 24 = .ok (.iastore, 1) := by decide +kernel
theorem dX8_turn_25 : decode cX8_turn 25 = .ok (.aload_n 0, 1) := by decide +kernel
theorem dX8_turn_26 : decode cX8_turn 26 = .ok (.iload_n 1, 1) := by decide +kernel
theorem dX8_turn_27 : decode cX8_turn 27 = .ok (.iconst 0, 1) := by decide +kernel
theorem dX8_turn_28 : decode cX8_turn 28 = .ok (.invokevirtual 82, 3) := by decide +kernel
theorem dX8_turn_31 : decode cX8_turn 31 = .ok (.iload_n 2, 1) := by decide +kernel
theorem dX8_turn_32 : decode cX8_turn 32 = .ok (.ishr, 1) := by decide +kernel
theorem dX8_turn_33 : decode cX8_turn 33 = .ok (.iconst 1, 1) := by decide +kernel
theorem dX8_turn_34 : decode cX8_turn 34 = .ok (.iand, 1) := by decide +kernel
theorem dX8_turn_35 : decode cX8_turn 35 = .ok (.iconst 1, 1) := by decide +kernel
theorem dX8_turn_36 : decode cX8_turn 36 = .ok (.if_icmp .ne 7, 3) := by decide +kernel
theorem dX8_turn_39 : decode cX8_turn 39 = .ok (.iconst 1, 1) := by decide +kernel
theorem dX8_turn_40 : decode cX8_turn 40 = .ok (.goto 4, 3) := by decide +kernel
theorem dX8_turn_43 : decode cX8_turn 43 = .ok (.iconst 0, 1) := by decide +kernel
theorem dX8_turn_44 : decode cX8_turn 44 = .ok (.istore_n 3, 1) := by decide +kernel
theorem dX8_turn_45 : decode cX8_turn 45 = .ok (.iload_n 3, 1) := by decide +kernel
theorem dX8_turn_46 : decode cX8_turn 46 = .ok (.ifCond .eq 17, 3) := by decide +kernel
theorem dX8_turn_49 : decode cX8_turn 49 = .ok (.aload_n 0, 1) := by decide +kernel
theorem dX8_turn_50 : decode cX8_turn 50 = .ok (.getfield 13, 3) := by decide +kernel
theorem dX8_turn_53 : decode cX8_turn 53 = .ok (.iload_n 2, 1) := by decide +kernel
theorem dX8_turn_54 : decode cX8_turn 54 = .ok (.dup2, 1) := by decide +kernel
theorem dX8_turn_55 : decode cX8_turn 55 = .ok (.iaload, 1) := by decide +kernel
theorem dX8_turn_56 : decode cX8_turn 56 = .ok (.iconst 1, 1) := by decide +kernel
theorem dX8_turn_57 : decode cX8_turn 57 = .ok (.iload_n 1, 1) := by decide +kernel
theorem dX8_turn_58 : decode cX8_turn 58 = .ok (.ishl, 1) := by decide +kernel
theorem dX8_turn_59 : decode cX8_turn 59 = .ok (.ior, 1) := by decide +kernel
theorem dX8_turn_60 : decode cX8_turn 60 = .ok (.iastore, 1) := by decide +kernel
theorem dX8_turn_61 : decode cX8_turn 61 = .ok (.iconst 0, 1) := by decide +kernel
theorem dX8_turn_62 : decode cX8_turn 62 = .ok (.ireturn, 1) := by decide +kernel
theorem dX8_turn_63 : decode cX8_turn 63 = .ok (.aload_n 0, 1) := by decide +kernel
theorem dX8_turn_64 : decode cX8_turn 64 = .ok (.getfield 13, 3) := by decide +kernel
theorem dX8_turn_67 : decode cX8_turn 67 = .ok (.iload_n 1, 1) := by decide +kernel
theorem dX8_turn_68 : decode cX8_turn 68 = .ok (.dup2, 1) := by decide +kernel
theorem dX8_turn_69 : decode cX8_turn 69 = .ok (.iaload, 1) := by decide +kernel
theorem dX8_turn_70 : decode cX8_turn 70 = .ok (.iconst 1, 1) := by decide +kernel
theorem dX8_turn_71 : decode cX8_turn 71 = .ok (.iload_n 2, 1) := by decide +kernel
theorem dX8_turn_72 : decode cX8_turn 72 = .ok (.ishl, 1) := by decide +kernel
theorem dX8_turn_73 : decode cX8_turn 73 = .ok (.ior, 1) := by decide +kernel
theorem dX8_turn_74 : decode cX8_turn 74 = .ok (.iastore, 1) := by decide +kernel
theorem dX8_turn_75 : decode cX8_turn 75 = .ok (.aload_n 0, 1) := by decide +kernel
theorem dX8_turn_76 : decode cX8_turn 76 = .ok (.iload_n 2, 1) := by decide +kernel
theorem dX8_turn_77 : decode cX8_turn 77 = .ok (.invokevirtual 67, 3) := by decide +kernel
theorem dX8_turn_80 : decode cX8_turn 80 = .ok (.aload_n 0, 1) := by decide +kernel
theorem dX8_turn_81 : decode cX8_turn 81 = .ok (.iload_n 1, 1) := by decide +kernel
theorem dX8_turn_82 : decode cX8_turn 82 = .ok (.invokevirtual 67, 3) := by decide +kernel
theorem dX8_turn_85 : decode cX8_turn 85 = .ok (.iconst 1, 1) := by decide +kernel
theorem dX8_turn_86 : decode cX8_turn 86 = .ok (.ireturn, 1) := by decide +kernel
theorem mz_i_wsX8_draw_8 : (.code yX8_isSetting cX8_isSetting 2 (some .boolean) : Cond) ∈ wsX8_draw := mz_mt (mz_ml (mz_mt (mz_mt (mz_mt (mz_mt (mz_mt (mz_mt (mz_mt mz_mh))))))))
theorem mz_i_wsX8_draw_1 : (.fieldLink RX8 58 "MadeItSoModel" "many" "I" : Cond) ∈ wsX8_draw := mz_mt (mz_ml mz_mh)
theorem mz_i_wsX8_draw_13 : (.code yX8_isHeap cX8_isHeap 2 (some .boolean) : Cond) ∈ wsX8_draw := mz_mt (mz_ml (mz_mt (mz_mt (mz_mt (mz_mt (mz_mt (mz_mt (mz_mt (mz_mt (mz_mt (mz_mt (mz_mt (mz_mt mz_mh)))))))))))))
theorem mz_i_wsX8_draw_7 : (.initialized RX8 : Cond) ∈ wsX8_draw := mz_mt (mz_ml (mz_mt (mz_mt (mz_mt (mz_mt (mz_mt (mz_mt mz_mh)))))))
theorem mz_i_wsX8_draw_12 : (.selects RX8 yX8_isHeap yX8_isHeap : Cond) ∈ wsX8_draw := mz_mt (mz_ml (mz_mt (mz_mt (mz_mt (mz_mt (mz_mt (mz_mt (mz_mt (mz_mt (mz_mt (mz_mt (mz_mt mz_mh))))))))))))
theorem mz_i_wsX8_draw_11 : (.instanceMethod yX8_isHeap : Cond) ∈ wsX8_draw := mz_mt (mz_ml (mz_mt (mz_mt (mz_mt (mz_mt (mz_mt (mz_mt (mz_mt (mz_mt (mz_mt (mz_mt mz_mh)))))))))))
theorem mz_i_wsX8_draw_10 : (.methodLink RX8 63 yX8_isHeap : Cond) ∈ wsX8_draw := mz_mt (mz_ml (mz_mt (mz_mt (mz_mt (mz_mt (mz_mt (mz_mt (mz_mt (mz_mt (mz_mt mz_mh))))))))))
theorem mz_i_wsX8_draw_9 : (.constant RX8 62 (65536) : Cond) ∈ wsX8_draw := mz_mt (mz_ml (mz_mt (mz_mt (mz_mt (mz_mt (mz_mt (mz_mt (mz_mt (mz_mt mz_mh)))))))))
theorem mz_f_wsX8_draw_wsX80 : ∀ w ∈ wsX80, w ∈ wsX8_draw := fun _ h => mz_mt (mz_mr h)
set_option maxRecDepth 20000 in
theorem ggX8_draw_X8_isSetting : GoodIn wsX8_draw wsX8_isSetting := goodIn_sub (mz_fc mz_i_wsX8_draw_8 (mz_fa (mz_fc mz_i_wsX8_draw_9 (mz_fc mz_i_wsX8_draw_10 (mz_fc mz_i_wsX8_draw_11 (mz_fc mz_i_wsX8_draw_12 (mz_fc mz_i_wsX8_draw_7 (mz_fc mz_i_wsX8_draw_13 (mz_fc mz_i_wsX8_draw_1 mz_fn))))))) (mz_f_wsX8_draw_wsX80))) (by decide +kernel)
theorem mz_i_wsX8_draw_6 : (.selects RX8 yX8_isSetting yX8_isSetting : Cond) ∈ wsX8_draw := mz_mt (mz_ml (mz_mt (mz_mt (mz_mt (mz_mt (mz_mt mz_mh))))))
theorem mz_i_wsX8_draw_5 : (.instanceMethod yX8_isSetting : Cond) ∈ wsX8_draw := mz_mt (mz_ml (mz_mt (mz_mt (mz_mt (mz_mt mz_mh)))))
theorem mz_i_wsX8_draw_4 : (.methodLink RX8 102 yX8_isSetting : Cond) ∈ wsX8_draw := mz_mt (mz_ml (mz_mt (mz_mt (mz_mt mz_mh))))
set_option maxRecDepth 20000 in
theorem gX8_draw_X8_isSetting : GoodIn wsX8_draw (wsV RX8 102 RX8 yX8_isSetting wsX8_isSetting) := goodIn_app (goodIn_sub (mz_fc mz_i_wsX8_draw_4 (mz_fc mz_i_wsX8_draw_5 (mz_fc mz_i_wsX8_draw_6 (mz_fc mz_i_wsX8_draw_7 mz_fn)))) (by decide +kernel)) ggX8_draw_X8_isSetting
theorem mz_i_wsX8_draw_17 : (.code yX8_partsOf cX8_partsOf 6 (some .int) : Cond) ∈ wsX8_draw := mz_mt (mz_ml (mz_mt (mz_mt (mz_mt (mz_mt (mz_mt (mz_mt (mz_mt (mz_mt (mz_mt (mz_mt (mz_mt (mz_mt (mz_mt (mz_mt (mz_mt (mz_mt mz_mh)))))))))))))))))
theorem mz_i_wsX8_draw_18 : (.fieldLink RX8 17 "MadeItSoModel" "books" "[I" : Cond) ∈ wsX8_draw := mz_mt (mz_ml (mz_mt (mz_mt (mz_mt (mz_mt (mz_mt (mz_mt (mz_mt (mz_mt (mz_mt (mz_mt (mz_mt (mz_mt (mz_mt (mz_mt (mz_mt (mz_mt (mz_mt mz_mh))))))))))))))))))
theorem mz_i_wsX8_draw_2 : (.fieldLink RX8 13 "MadeItSoModel" "parents" "[I" : Cond) ∈ wsX8_draw := mz_mt (mz_ml (mz_mt mz_mh))
set_option maxRecDepth 20000 in
theorem ggX8_draw_X8_partsOf : GoodIn wsX8_draw wsX8_partsOf := goodIn_sub (mz_fc mz_i_wsX8_draw_17 (mz_fa (mz_fc mz_i_wsX8_draw_1 (mz_fc mz_i_wsX8_draw_2 (mz_fc mz_i_wsX8_draw_18 mz_fn))) (mz_f_wsX8_draw_wsX80))) (by decide +kernel)
theorem mz_i_wsX8_draw_16 : (.selects RX8 yX8_partsOf yX8_partsOf : Cond) ∈ wsX8_draw := mz_mt (mz_ml (mz_mt (mz_mt (mz_mt (mz_mt (mz_mt (mz_mt (mz_mt (mz_mt (mz_mt (mz_mt (mz_mt (mz_mt (mz_mt (mz_mt (mz_mt mz_mh))))))))))))))))
theorem mz_i_wsX8_draw_15 : (.instanceMethod yX8_partsOf : Cond) ∈ wsX8_draw := mz_mt (mz_ml (mz_mt (mz_mt (mz_mt (mz_mt (mz_mt (mz_mt (mz_mt (mz_mt (mz_mt (mz_mt (mz_mt (mz_mt (mz_mt (mz_mt mz_mh)))))))))))))))
theorem mz_i_wsX8_draw_14 : (.methodLink RX8 93 yX8_partsOf : Cond) ∈ wsX8_draw := mz_mt (mz_ml (mz_mt (mz_mt (mz_mt (mz_mt (mz_mt (mz_mt (mz_mt (mz_mt (mz_mt (mz_mt (mz_mt (mz_mt (mz_mt mz_mh))))))))))))))
set_option maxRecDepth 20000 in
theorem gX8_draw_X8_partsOf : GoodIn wsX8_draw (wsV RX8 93 RX8 yX8_partsOf wsX8_partsOf) := goodIn_app (goodIn_sub (mz_fc mz_i_wsX8_draw_14 (mz_fc mz_i_wsX8_draw_15 (mz_fc mz_i_wsX8_draw_16 (mz_fc mz_i_wsX8_draw_7 mz_fn)))) (by decide +kernel)) ggX8_draw_X8_partsOf
theorem dX8_draw_0 : decode cX8_draw 0 = .ok (.aload_n 0, 1) := by decide +kernel
theorem dX8_draw_1 : decode cX8_draw 1 = .ok (.iload_n 2, 1) := by decide +kernel
theorem dX8_draw_2 : decode cX8_draw 2 = .ok (.invokevirtual 102, 3) := by decide +kernel
theorem dX8_draw_5 : decode cX8_draw 5 = .ok (.ifCond .ne 5, 3) := by decide +kernel
theorem dX8_draw_8 : decode cX8_draw 8 = .ok (.iconst (-1), 1) := by decide +kernel
theorem dX8_draw_9 : decode cX8_draw 9 = .ok (.ireturn, 1) := by decide +kernel
theorem dX8_draw_10 : decode cX8_draw 10 = .ok (.iload_n 1, 1) := by decide +kernel
theorem dX8_draw_11 : decode cX8_draw 11 = .ok (.istore_n 3, 1) := by decide +kernel
theorem dX8_draw_12 : decode cX8_draw 12 = .ok (.iconst 0, 1) := by decide +kernel
theorem dX8_draw_13 : decode cX8_draw 13 = .ok (.istore 4, 2) := by decide +kernel
theorem dX8_draw_15 : decode cX8_draw 15 = .ok (.iconst 0, 1) := by decide +kernel
theorem dX8_draw_16 : decode cX8_draw 16 = .ok (.istore 5, 2) := by decide +kernel
theorem dX8_draw_18 : decode cX8_draw 18 = .ok (.iconst 0, 1) := by decide +kernel
theorem dX8_draw_19 : decode cX8_draw 19 = .ok (.istore 6, 2) := by decide +kernel
theorem dX8_draw_21 : decode cX8_draw 21 = .ok (.iload 6, 2) := by decide +kernel
theorem dX8_draw_23 : decode cX8_draw 23 = .ok (.aload_n 0, 1) := by decide +kernel
theorem dX8_draw_24 : decode cX8_draw 24 = .ok (.getfield 58, 3) := by decide +kernel
theorem dX8_draw_27 : decode cX8_draw 27 = .ok (.if_icmp .ge 135, 3) := by decide +kernel
theorem dX8_draw_30 : decode cX8_draw 30 = .ok (.iconst 0, 1) := by decide +kernel
theorem dX8_draw_31 : decode cX8_draw 31 = .ok (.istore 7, 2) := by decide +kernel
theorem dX8_draw_33 : decode cX8_draw 33 = .ok (.iload 4, 2) := by decide +kernel
theorem dX8_draw_35 : decode cX8_draw 35 = .ok (.iload 7, 2) := by decide +kernel
theorem dX8_draw_37 : decode cX8_draw 37 = .ok (.ishr, 1) := by decide +kernel
theorem dX8_draw_38 : decode cX8_draw 38 = .ok (.iconst 1, 1) := by decide +kernel
theorem dX8_draw_39 : decode cX8_draw 39 = .ok (.iand, 1) := by decide +kernel
theorem dX8_draw_40 : decode cX8_draw 40 = .ok (.iconst 1, 1) := by decide +kernel
theorem dX8_draw_41 : decode cX8_draw 41 = .ok (.if_icmp .eq 18, 3) := by decide +kernel
theorem dX8_draw_44 : decode cX8_draw 44 = .ok (.aload_n 0, 1) := by decide +kernel
theorem dX8_draw_45 : decode cX8_draw 45 = .ok (.getfield 13, 3) := by decide +kernel
theorem dX8_draw_48 : decode cX8_draw 48 = .ok (.iload 7, 2) := by decide +kernel
theorem dX8_draw_50 : decode cX8_draw 50 = .ok (.iaload, 1) := by decide +kernel
theorem dX8_draw_51 : decode cX8_draw 51 = .ok (.iload 4, 2) := by decide +kernel
theorem dX8_draw_53 : decode cX8_draw 53 = .ok (.iconst (-1), 1) := by decide +kernel
theorem dX8_draw_54 : decode cX8_draw 54 = .ok (.ixor, 1) := by decide +kernel
theorem dX8_draw_55 : decode cX8_draw 55 = .ok (.iand, 1) := by decide +kernel
theorem dX8_draw_56 : decode cX8_draw 56 = .ok (.ifCond .eq 9, 3) := by decide +kernel
theorem dX8_draw_59 : decode cX8_draw 59 = .ok (.iinc 7 1, 3) := by decide +kernel
theorem dX8_draw_62 : decode cX8_draw 62 = .ok (.goto (-29), 3) := by decide +kernel
theorem dX8_draw_65 : decode cX8_draw 65 = .ok (.iload_n 3, 1) := by decide +kernel
theorem dX8_draw_66 : decode cX8_draw 66 = .ok (.ldc 176, 2) := by decide +kernel
theorem dX8_draw_68 : decode cX8_draw 68 = .ok (.imul, 1) := by decide +kernel
theorem dX8_draw_69 : decode cX8_draw 69 = .ok (.sipush 12345, 3) := by decide +kernel
theorem dX8_draw_72 : decode cX8_draw 72 = .ok (.iadd, 1) := by decide +kernel
theorem dX8_draw_73 : decode cX8_draw 73 = .ok (.istore_n 3, 1) := by decide +kernel
theorem dX8_draw_74 : decode cX8_draw 74 = .ok (.iload_n 3, 1) := by decide +kernel
theorem dX8_draw_75 : decode cX8_draw 75 = .ok (.bipush 16, 2) := by decide +kernel
theorem dX8_draw_77 : decode cX8_draw 77 = .ok (.iushr, 1) := by decide +kernel
theorem dX8_draw_78 : decode cX8_draw 78 = .ok (.bipush 100, 2) := by decide +kernel
theorem dX8_draw_80 : decode cX8_draw 80 = .ok (.irem, 1) := by decide +kernel
theorem dX8_draw_81 : decode cX8_draw 81 = .ok (.aload_n 0, 1) := by decide +kernel
theorem dX8_draw_82 : decode cX8_draw 82 = .ok (.iload 7, 2) := by decide +kernel
theorem dX8_draw_84 : decode cX8_draw 84 = .ok (.iload 5, 2) := by decide +kernel
theorem dX8_draw_86 : decode cX8_draw 86 = .ok (.invokevirtual 93, 3) := by decide +kernel
theorem dX8_draw_89 : decode cX8_draw 89 = .ok (.if_icmp .ge 7, 3) := by decide +kernel
theorem dX8_draw_92 : decode cX8_draw 92 = .ok (.iconst 1, 1) := by decide +kernel
theorem dX8_draw_93 : decode cX8_draw 93 = .ok (.goto 4, 3) := by decide +kernel
theorem dX8_draw_96 : decode cX8_draw 96 = .ok (.iconst 0, 1) := by decide +kernel
theorem dX8_draw_97 : decode cX8_draw 97 = .ok (.istore 8, 2) := by decide +kernel
theorem dX8_draw_99 : decode cX8_draw 99 = .ok (.iload_n 2, 1) := by decide +kernel
theorem dX8_draw_100 : decode cX8_draw 100 = .ok (.iload 7, 2) := by decide +kernel
theorem dX8_draw_102 : decode cX8_draw 102 = .ok (.ishr, 1) := by decide +kernel
theorem dX8_draw_103 : decode cX8_draw 103 = .ok (.iconst 1, 1) := by decide +kernel
theorem dX8_draw_104 : decode cX8_draw 104 = .ok (.iand, 1) := by decide +kernel
theorem dX8_draw_105 : decode cX8_draw 105 = .ok (.iconst 1, 1) := by decide +kernel
theorem dX8_draw_106 : decode cX8_draw 106 = .ok (.if_icmp .ne 23, 3) := by decide +kernel
theorem dX8_draw_109 : decode cX8_draw 109 = .ok (.iload_n 2, 1) := by decide +kernel
theorem dX8_draw_110 : decode cX8_draw 110 = .ok (.bipush 8, 2) := by decide +kernel
theorem dX8_draw_112 : decode cX8_draw 112 = .ok (.iload 7, 2) := by decide +kernel
theorem dX8_draw_114 : decode cX8_draw 114 = .ok (.iadd, 1) := by decide +kernel
theorem dX8_draw_115 : decode cX8_draw 115 = .ok (.ishr, 1) := by decide +kernel
theorem dX8_draw_116 : decode cX8_draw 116 = .ok (.iconst 1, 1) := by decide +kernel
theorem dX8_draw_117 : decode cX8_draw 117 = .ok (.iand, 1) := by decide +kernel
theorem dX8_draw_118 : decode cX8_draw 118 = .ok (.iconst 1, 1) := by decide +kernel
theorem dX8_draw_119 : decode cX8_draw 119 = .ok (.if_icmp .ne 7, 3) := by decide +kernel
theorem dX8_draw_122 : decode cX8_draw 122 = .ok (.iconst 1, 1) := by decide +kernel
theorem dX8_draw_123 : decode cX8_draw 123 = .ok (.goto 4, 3) := by decide +kernel
theorem dX8_draw_126 : decode cX8_draw 126 = .ok (.iconst 0, 1) := by decide +kernel
theorem dX8_draw_127 : decode cX8_draw 127 = .ok (.istore 8, 2) := by decide +kernel
theorem dX8_draw_129 : decode cX8_draw 129 = .ok (.iload 5, 2) := by decide +kernel
theorem dX8_draw_131 : decode cX8_draw 131 = .ok (.iload 8, 2) := by decide +kernel
theorem dX8_draw_133 : decode cX8_draw 133 = .ok (.ifCond .eq 10, 3) := by decide +kernel
theorem dX8_draw_136 : decode cX8_draw 136 = .ok (.iconst 1, 1) := by decide +kernel
theorem dX8_draw_137 : decode cX8_draw 137 = .ok (.iload 7, 2) := by decide +kernel
theorem dX8_draw_139 : decode cX8_draw 139 = .ok (.ishl, 1) := by decide +kernel
theorem dX8_draw_140 : decode cX8_draw 140 = .ok (.goto 4, 3) := by decide +kernel
theorem dX8_draw_143 : decode cX8_draw 143 = .ok (.iconst 0, 1) := by decide +kernel
theorem dX8_draw_144 : decode cX8_draw 144 = .ok (.ior, 1) := by decide +kernel
theorem dX8_draw_145 : decode cX8_draw 145 = .ok (.istore 5, 2) := by decide +kernel
theorem dX8_draw_147 : decode cX8_draw 147 = .ok (.iload 4, 2) := by decide +kernel
theorem dX8_draw_149 : decode cX8_draw 149 = .ok (.iconst 1, 1) := by decide +kernel
theorem dX8_draw_150 : decode cX8_draw 150 = .ok (.iload 7, 2) := by decide +kernel
theorem dX8_draw_152 : decode cX8_draw 152 = .ok (.ishl, 1) := by decide +kernel
theorem dX8_draw_153 : decode cX8_draw 153 = .ok (.ior, 1) := by decide +kernel
theorem dX8_draw_154 : decode cX8_draw 154 = .ok (.istore 4, 2) := by decide +kernel
theorem dX8_draw_156 : decode cX8_draw 156 = .ok (.iinc 6 1, 3) := by decide +kernel
theorem dX8_draw_159 : decode cX8_draw 159 = .ok (.goto (-138), 3) := by decide +kernel
theorem dX8_draw_162 : decode cX8_draw 162 = .ok (.iload 5, 2) := by decide +kernel
theorem dX8_draw_164 : decode cX8_draw 164 = .ok (.ireturn, 1) := by decide +kernel
