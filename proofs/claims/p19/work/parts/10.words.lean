/-! printed rows of NAMES that the contracts use -/
theorem mz_i_wsX2_copyWithout_6 : (.code yX7_inHeap cX7_inHeap 2 (some .boolean) : Cond) ∈ wsX2_copyWithout := mz_mt (mz_ml (mz_mt (mz_mt (mz_mt (mz_mt (mz_mt mz_mh))))))
set_option maxRecDepth 20000 in
theorem ggX2_copyWithout_X7_inHeap : GoodIn wsX2_copyWithout wsX7_inHeap := goodIn_sub (mz_fc mz_i_wsX2_copyWithout_6 (mz_fn)) (by decide +kernel)
set_option maxRecDepth 20000 in
theorem gX2_copyWithout_X7_inHeap_n26 : GoodIn wsX2_copyWithout (wsX7_inHeap) := ggX2_copyWithout_X7_inHeap
theorem mz_i_wsX2_copyWithout_8 : (.code yX7_bit cX7_bit 1 (some .int) : Cond) ∈ wsX2_copyWithout := mz_mt (mz_ml (mz_mt (mz_mt (mz_mt (mz_mt (mz_mt (mz_mt (mz_mt mz_mh))))))))
set_option maxRecDepth 20000 in
theorem ggX2_copyWithout_X7_bit : GoodIn wsX2_copyWithout wsX7_bit := goodIn_sub (mz_fc mz_i_wsX2_copyWithout_8 (mz_fn)) (by decide +kernel)
set_option maxRecDepth 20000 in
theorem gX2_copyWithout_X7_bit_n37 : GoodIn wsX2_copyWithout (wsX7_bit) := ggX2_copyWithout_X7_bit
theorem dX2_copyWithout_0 : decode cX2_copyWithout 0 = .ok (.aload_n 0, 1) := by decide +kernel
theorem dX2_copyWithout_1 : decode cX2_copyWithout 1 = .ok (.aload_n 1, 1) := by decide +kernel
theorem dX2_copyWithout_2 : decode cX2_copyWithout 2 = .ok (.getfield 18, 3) := by decide +kernel
theorem dX2_copyWithout_5 : decode cX2_copyWithout 5 = .ok (.putfield 18, 3) := by decide +kernel
theorem dX2_copyWithout_8 : decode cX2_copyWithout 8 = .ok (.iconst 0, 1) := by decide +kernel
theorem dX2_copyWithout_9 : decode cX2_copyWithout 9 = .ok (.istore 4, 2) := by decide +kernel
theorem dX2_copyWithout_11 : decode cX2_copyWithout 11 = .ok (.iload 4, 2) := by decide +kernel
theorem dX2_copyWithout_13 : decode cX2_copyWithout 13 = .ok (.bipush 8, 2) := by decide +kernel
theorem dX2_copyWithout_15 : decode cX2_copyWithout 15 = .ok (.if_icmp .ge 83, 3) := by decide +kernel
theorem dX2_copyWithout_18 : decode cX2_copyWithout 18 = .ok (.aload_n 0, 1) := by decide +kernel
theorem dX2_copyWithout_19 : decode cX2_copyWithout 19 = .ok (.getfield 9, 3) := by decide +kernel
theorem dX2_copyWithout_22 : decode cX2_copyWithout 22 = .ok (.iload 4, 2) := by decide +kernel
theorem dX2_copyWithout_24 : decode cX2_copyWithout 24 = .ok (.iload_n 3, 1) := by decide +kernel
theorem dX2_copyWithout_25 : decode cX2_copyWithout 25 = .ok (.iload 4, 2) := by decide +kernel
theorem dX2_copyWithout_27 : decode cX2_copyWithout 27 = .ok (.invokestatic 26, 3) := by decide +kernel
theorem dX2_copyWithout_30 : decode cX2_copyWithout 30 = .ok (.ifCond .eq 20, 3) := by decide +kernel
theorem dX2_copyWithout_33 : decode cX2_copyWithout 33 = .ok (.aload_n 1, 1) := by decide +kernel
theorem dX2_copyWithout_34 : decode cX2_copyWithout 34 = .ok (.getfield 9, 3) := by decide +kernel
theorem dX2_copyWithout_37 : decode cX2_copyWithout 37 = .ok (.iload 4, 2) := by decide +kernel
theorem dX2_copyWithout_39 : decode cX2_copyWithout 39 = .ok (.iaload, 1) := by decide +kernel
theorem dX2_copyWithout_40 : decode cX2_copyWithout 40 = .ok (.iload_n 2, 1) := by decide +kernel
theorem dX2_copyWithout_41 : decode cX2_copyWithout 41 = .ok (.invokestatic 37, 3) := by decide +kernel
theorem dX2_copyWithout_44 : decode cX2_copyWithout 44 = .ok (.iconst (-1), 1) := by decide +kernel
theorem dX2_copyWithout_45 : decode cX2_copyWithout 45 = .ok (.ixor, 1) := by decide +kernel
theorem dX2_copyWithout_46 : decode cX2_copyWithout 46 = .ok (.iand, 1) := by decide +kernel
theorem dX2_copyWithout_47 : decode cX2_copyWithout 47 = .ok (.goto 10, 3) := by decide +kernel
theorem dX2_copyWithout_50 : decode cX2_copyWithout 50 = .ok (.aload_n 1, 1) := by decide +kernel
theorem dX2_copyWithout_51 : decode cX2_copyWithout 51 = .ok (.getfield 9, 3) := by decide +kernel
theorem dX2_copyWithout_54 : decode cX2_copyWithout 54 = .ok (.iload 4, 2) := by decide +kernel
theorem dX2_copyWithout_56 : decode cX2_copyWithout 56 = .ok (.iaload, 1) := by decide +kernel
theorem dX2_copyWithout_57 : decode cX2_copyWithout 57 = .ok (.iastore, 1) := by decide +kernel
theorem dX2_copyWithout_58 : decode cX2_copyWithout 58 = .ok (.aload_n 0, 1) := by decide +kernel
theorem dX2_copyWithout_59 : decode cX2_copyWithout 59 = .ok (.getfield 15, 3) := by decide +kernel
theorem dX2_copyWithout_62 : decode cX2_copyWithout 62 = .ok (.iload 4, 2) := by decide +kernel
theorem dX2_copyWithout_64 : decode cX2_copyWithout 64 = .ok (.iload 4, 2) := by decide +kernel
theorem dX2_copyWithout_66 : decode cX2_copyWithout 66 = .ok (.iload_n 2, 1) := by decide +kernel
theorem dX2_copyWithout_67 : decode cX2_copyWithout 67 = .ok (.if_icmp .ne 17, 3) := by decide +kernel
theorem dX2_copyWithout_70 : decode cX2_copyWithout 70 = .ok (.aload_n 1, 1) := by decide +kernel
theorem dX2_copyWithout_71 : decode cX2_copyWithout 71 = .ok (.getfield 15, 3) := by decide +kernel
theorem dX2_copyWithout_74 : decode cX2_copyWithout 74 = .ok (.iload 4, 2) := by decide +kernel
theorem dX2_copyWithout_76 : decode cX2_copyWithout 76 = .ok (.iaload, 1) := by decide +kernel
theorem dX2_copyWithout_77 : decode cX2_copyWithout 77 = .ok (.iload_n 3, 1) := by decide +kernel
theorem dX2_copyWithout_78 : decode cX2_copyWithout 78 = .ok (.iconst (-1), 1) := by decide +kernel
theorem dX2_copyWithout_79 : decode cX2_copyWithout 79 = .ok (.ixor, 1) := by decide +kernel
theorem dX2_copyWithout_80 : decode cX2_copyWithout 80 = .ok (.iand, 1) := by decide +kernel
theorem dX2_copyWithout_81 : decode cX2_copyWithout 81 = .ok (.goto 10, 3) := by decide +kernel
theorem dX2_copyWithout_84 : decode cX2_copyWithout 84 = .ok (.aload_n 1, 1) := by decide +kernel
theorem dX2_copyWithout_85 : decode cX2_copyWithout 85 = .ok (.getfield 15, 3) := by decide +kernel
theorem dX2_copyWithout_88 : decode cX2_copyWithout 88 = .ok (.iload 4, 2) := by decide +kernel
theorem dX2_copyWithout_90 : decode cX2_copyWithout 90 = .ok (.iaload, 1) := by decide +kernel
theorem dX2_copyWithout_91 : decode cX2_copyWithout 91 = .ok (.iastore, 1) := by decide +kernel
theorem dX2_copyWithout_92 : decode cX2_copyWithout 92 = .ok (.iinc 4 1, 3) := by decide +kernel
theorem dX2_copyWithout_95 : decode cX2_copyWithout 95 = .ok (.goto (-84), 3) := by decide +kernel
theorem dX2_copyWithout_98 : decode cX2_copyWithout 98 = .ok (.return_, 1) := by decide +kernel
theorem mz_i_wsX7_thing_8 : (.code yX2_grow cX2_grow 1 (some .int) : Cond) ∈ wsX7_thing := mz_mt (mz_ml (mz_ml (mz_ml (mz_mt (mz_mt (mz_mt (mz_mt (mz_mt (mz_mt (mz_mt mz_mh))))))))))
theorem mz_i_wsX7_thing_9 : (.fieldLink RX2 18 "MadeItSo$Drawing" "things" "I" : Cond) ∈ wsX7_thing := mz_mt (mz_ml (mz_ml (mz_ml (mz_mt (mz_mt (mz_mt (mz_mt (mz_mt (mz_mt (mz_mt (mz_mt mz_mh)))))))))))
theorem mz_f_wsX7_thing_wsX20 : ∀ w ∈ wsX20, w ∈ wsX7_thing := fun _ h => mz_mt (mz_ml (mz_mr h))
set_option maxRecDepth 20000 in
theorem ggX7_thing_X2_grow : GoodIn wsX7_thing wsX2_grow := goodIn_sub (mz_fc mz_i_wsX7_thing_8 (mz_fa (mz_fc mz_i_wsX7_thing_9 mz_fn) (mz_f_wsX7_thing_wsX20))) (by decide +kernel)
theorem mz_i_wsX7_thing_7 : (.initialized RX2 : Cond) ∈ wsX7_thing := mz_mt (mz_ml (mz_ml (mz_ml (mz_mt (mz_mt (mz_mt (mz_mt (mz_mt (mz_mt mz_mh)))))))))
theorem mz_i_wsX7_thing_6 : (.selects RX2 yX2_grow yX2_grow : Cond) ∈ wsX7_thing := mz_mt (mz_ml (mz_ml (mz_ml (mz_mt (mz_mt (mz_mt (mz_mt (mz_mt mz_mh))))))))
theorem mz_i_wsX7_thing_5 : (.instanceMethod yX2_grow : Cond) ∈ wsX7_thing := mz_mt (mz_ml (mz_ml (mz_ml (mz_mt (mz_mt (mz_mt (mz_mt mz_mh)))))))
theorem mz_i_wsX7_thing_4 : (.methodLink RX7 65 yX2_grow : Cond) ∈ wsX7_thing := mz_mt (mz_ml (mz_ml (mz_ml (mz_mt (mz_mt (mz_mt mz_mh))))))
set_option maxRecDepth 20000 in
theorem gX7_thing_X2_grow : GoodIn wsX7_thing (wsV RX7 65 RX2 yX2_grow wsX2_grow) := goodIn_app (goodIn_sub (mz_fc mz_i_wsX7_thing_4 (mz_fc mz_i_wsX7_thing_5 (mz_fc mz_i_wsX7_thing_6 (mz_fc mz_i_wsX7_thing_7 mz_fn)))) (by decide +kernel)) ggX7_thing_X2_grow
theorem mz_i_wsX7_thing_14 : (.code yX1_blank cX1_blank 3 none : Cond) ∈ wsX7_thing := mz_mt (mz_ml (mz_ml (mz_ml (mz_mt (mz_mt (mz_mt (mz_mt (mz_mt (mz_mt (mz_mt (mz_mt (mz_mt (mz_mt (mz_mt (mz_mt (mz_mt mz_mh))))))))))))))))
theorem mz_i_wsX7_thing_15 : (.fieldLink RX1 9 "MadeItSo$Books" "parts" "[I" : Cond) ∈ wsX7_thing := mz_mt (mz_ml (mz_ml (mz_ml (mz_mt (mz_mt (mz_mt (mz_mt (mz_mt (mz_mt (mz_mt (mz_mt (mz_mt (mz_mt (mz_mt (mz_mt (mz_mt (mz_mt mz_mh)))))))))))))))))
theorem mz_f_wsX7_thing_wsX10 : ∀ w ∈ wsX10, w ∈ wsX7_thing := fun _ h => mz_mt (mz_mr h)
set_option maxRecDepth 20000 in
theorem ggX7_thing_X1_blank : GoodIn wsX7_thing wsX1_blank := goodIn_sub (mz_fc mz_i_wsX7_thing_14 (mz_fa (mz_fc mz_i_wsX7_thing_15 mz_fn) (mz_f_wsX7_thing_wsX10))) (by decide +kernel)
theorem mz_i_wsX7_thing_13 : (.initialized RX1 : Cond) ∈ wsX7_thing := mz_mt (mz_ml (mz_ml (mz_ml (mz_mt (mz_mt (mz_mt (mz_mt (mz_mt (mz_mt (mz_mt (mz_mt (mz_mt (mz_mt (mz_mt (mz_mt mz_mh)))))))))))))))
theorem mz_i_wsX7_thing_12 : (.selects RX1 yX1_blank yX1_blank : Cond) ∈ wsX7_thing := mz_mt (mz_ml (mz_ml (mz_ml (mz_mt (mz_mt (mz_mt (mz_mt (mz_mt (mz_mt (mz_mt (mz_mt (mz_mt (mz_mt (mz_mt mz_mh))))))))))))))
theorem mz_i_wsX7_thing_11 : (.instanceMethod yX1_blank : Cond) ∈ wsX7_thing := mz_mt (mz_ml (mz_ml (mz_ml (mz_mt (mz_mt (mz_mt (mz_mt (mz_mt (mz_mt (mz_mt (mz_mt (mz_mt (mz_mt mz_mh)))))))))))))
theorem mz_i_wsX7_thing_10 : (.methodLink RX7 69 yX1_blank : Cond) ∈ wsX7_thing := mz_mt (mz_ml (mz_ml (mz_ml (mz_mt (mz_mt (mz_mt (mz_mt (mz_mt (mz_mt (mz_mt (mz_mt (mz_mt mz_mh))))))))))))
set_option maxRecDepth 20000 in
theorem gX7_thing_X1_blank : GoodIn wsX7_thing (wsV RX7 69 RX1 yX1_blank wsX1_blank) := goodIn_app (goodIn_sub (mz_fc mz_i_wsX7_thing_10 (mz_fc mz_i_wsX7_thing_11 (mz_fc mz_i_wsX7_thing_12 (mz_fc mz_i_wsX7_thing_13 mz_fn)))) (by decide +kernel)) ggX7_thing_X1_blank
theorem mz_i_wsX7_thing_19 : (.code yX7_bit cX7_bit 1 (some .int) : Cond) ∈ wsX7_thing := mz_mt (mz_ml (mz_ml (mz_ml (mz_mt (mz_mt (mz_mt (mz_mt (mz_mt (mz_mt (mz_mt (mz_mt (mz_mt (mz_mt (mz_mt (mz_mt (mz_mt (mz_mt (mz_mt (mz_mt (mz_mt (mz_mt mz_mh)))))))))))))))))))))
set_option maxRecDepth 20000 in
theorem ggX7_thing_X7_bit : GoodIn wsX7_thing wsX7_bit := goodIn_sub (mz_fc mz_i_wsX7_thing_19 (mz_fn)) (by decide +kernel)
theorem mz_i_wsX7_thing_18 : (.initialized RX7 : Cond) ∈ wsX7_thing := mz_mt (mz_ml (mz_ml (mz_ml (mz_mt (mz_mt (mz_mt (mz_mt (mz_mt (mz_mt (mz_mt (mz_mt (mz_mt (mz_mt (mz_mt (mz_mt (mz_mt (mz_mt (mz_mt (mz_mt (mz_mt mz_mh))))))))))))))))))))
theorem mz_i_wsX7_thing_17 : (.static yX7_bit : Cond) ∈ wsX7_thing := mz_mt (mz_ml (mz_ml (mz_ml (mz_mt (mz_mt (mz_mt (mz_mt (mz_mt (mz_mt (mz_mt (mz_mt (mz_mt (mz_mt (mz_mt (mz_mt (mz_mt (mz_mt (mz_mt (mz_mt mz_mh)))))))))))))))))))
theorem mz_i_wsX7_thing_16 : (.methodLink RX7 73 yX7_bit : Cond) ∈ wsX7_thing := mz_mt (mz_ml (mz_ml (mz_ml (mz_mt (mz_mt (mz_mt (mz_mt (mz_mt (mz_mt (mz_mt (mz_mt (mz_mt (mz_mt (mz_mt (mz_mt (mz_mt (mz_mt (mz_mt mz_mh))))))))))))))))))
set_option maxRecDepth 20000 in
theorem gX7_thing_X7_bit : GoodIn wsX7_thing (va_wsS RX7 73 yX7_bit wsX7_bit) := goodIn_app (goodIn_sub (mz_fc mz_i_wsX7_thing_16 (mz_fc mz_i_wsX7_thing_17 (mz_fc mz_i_wsX7_thing_18 mz_fn))) (by decide +kernel)) ggX7_thing_X7_bit
theorem dX7_thing_0 : decode cX7_thing 0 = .ok (.aload_n 0, 1) := by decide +kernel
theorem dX7_thing_1 : decode cX7_thing 1 = .ok (.getfield 12, 3) := by decide +kernel
theorem dX7_thing_4 : decode cX7_thing 4 = .ok (.invokevirtual 65, 3) := by decide +kernel
theorem dX7_thing_7 : decode cX7_thing 7 = .ok (.istore_n 2, 1) := by decide +kernel
theorem dX7_thing_8 : decode cX7_thing 8 = .ok (.iload_n 2, 1) := by decide +kernel
theorem dX7_thing_9 : decode cX7_thing 9 = .ok (.iconst (-1), 1) := by decide +kernel
theorem dX7_thing_10 : decode cX7_thing 10 = .ok (.if_icmp .ne 5, 3) := by decide +kernel
theorem dX7_thing_13 : decode cX7_thing 13 = .ok (.iconst (-1), 1) := by decide +kernel
theorem dX7_thing_14 : decode cX7_thing 14 = .ok (.ireturn, 1) := by decide +kernel
theorem dX7_thing_15 : decode cX7_thing 15 = .ok (.aload_n 0, 1) := by decide +kernel
theorem dX7_thing_16 : decode cX7_thing 16 = .ok (.getfield 22, 3) := by decide +kernel
theorem dX7_thing_19 : decode cX7_thing 19 = .ok (.iload_n 2, 1) := by decide +kernel
theorem dX7_thing_20 : decode cX7_thing 20 = .ok (.invokevirtual 69, 3) := by decide +kernel
theorem dX7_thing_23 : decode cX7_thing 23 = .ok (.iload_n 1, 1) := by decide +kernel
theorem dX7_thing_24 : decode cX7_thing 24 = .ok (.ifCond .eq 16, 3) := by decide +kernel
theorem dX7_thing_27 : decode cX7_thing 27 = .ok (.aload_n 0, 1) := by decide +kernel
theorem dX7_thing_28 : decode cX7_thing 28 = .ok (.dup, 1) := by decide +kernel
theorem dX7_thing_29 : decode cX7_thing 29 = .ok (.getfield 54, 3) := by decide +kernel
theorem dX7_thing_32 : decode cX7_thing 32 = .ok (.iload_n 2, 1) := by decide +kernel
theorem dX7_thing_33 : decode cX7_thing 33 = .ok (.invokestatic 73, 3) := by decide +kernel
theorem dX7_thing_36 : decode cX7_thing 36 = .ok (.ior, 1) := by decide +kernel
theorem dX7_thing_37 : decode cX7_thing 37 = .ok (.putfield 54, 3) := by decide +kernel
theorem dX7_thing_40 : decode cX7_thing 40 = .ok (.iload_n 2, 1) := by decide +kernel
theorem dX7_thing_41 : decode cX7_thing 41 = .ok (.ireturn, 1) := by decide +kernel
theorem mz_i_wsX7_arrow_7 : (.code yX2_has cX2_has 2 (some .boolean) : Cond) ∈ wsX7_arrow := mz_mt (mz_ml (mz_ml (mz_ml (mz_ml (mz_mt (mz_mt (mz_mt (mz_mt (mz_mt (mz_mt mz_mh))))))))))
theorem mz_i_wsX7_arrow_8 : (.fieldLink RX2 18 "MadeItSo$Drawing" "things" "I" : Cond) ∈ wsX7_arrow := mz_mt (mz_ml (mz_ml (mz_ml (mz_ml (mz_mt (mz_mt (mz_mt (mz_mt (mz_mt (mz_mt (mz_mt mz_mh)))))))))))
theorem mz_f_wsX7_arrow_wsX20 : ∀ w ∈ wsX20, w ∈ wsX7_arrow := fun _ h => mz_mt (mz_ml (mz_mr h))
set_option maxRecDepth 20000 in
theorem ggX7_arrow_X2_has : GoodIn wsX7_arrow wsX2_has := goodIn_sub (mz_fc mz_i_wsX7_arrow_7 (mz_fa (mz_fc mz_i_wsX7_arrow_8 mz_fn) (mz_f_wsX7_arrow_wsX20))) (by decide +kernel)
theorem mz_i_wsX7_arrow_6 : (.initialized RX2 : Cond) ∈ wsX7_arrow := mz_mt (mz_ml (mz_ml (mz_ml (mz_ml (mz_mt (mz_mt (mz_mt (mz_mt (mz_mt mz_mh)))))))))
theorem mz_i_wsX7_arrow_5 : (.selects RX2 yX2_has yX2_has : Cond) ∈ wsX7_arrow := mz_mt (mz_ml (mz_ml (mz_ml (mz_ml (mz_mt (mz_mt (mz_mt (mz_mt mz_mh))))))))
theorem mz_i_wsX7_arrow_4 : (.instanceMethod yX2_has : Cond) ∈ wsX7_arrow := mz_mt (mz_ml (mz_ml (mz_ml (mz_ml (mz_mt (mz_mt (mz_mt mz_mh)))))))
theorem mz_i_wsX7_arrow_3 : (.methodLink RX7 77 yX2_has : Cond) ∈ wsX7_arrow := mz_mt (mz_ml (mz_ml (mz_ml (mz_ml (mz_mt (mz_mt mz_mh))))))
set_option maxRecDepth 20000 in
theorem gX7_arrow_X2_has : GoodIn wsX7_arrow (wsV RX7 77 RX2 yX2_has wsX2_has) := goodIn_app (goodIn_sub (mz_fc mz_i_wsX7_arrow_3 (mz_fc mz_i_wsX7_arrow_4 (mz_fc mz_i_wsX7_arrow_5 (mz_fc mz_i_wsX7_arrow_6 mz_fn)))) (by decide +kernel)) ggX7_arrow_X2_has
theorem mz_i_wsX7_arrow_12 : (.code yX2_canJoin cX2_canJoin 3 (some .boolean) : Cond) ∈ wsX7_arrow := mz_mt (mz_ml (mz_ml (mz_ml (mz_ml (mz_mt (mz_mt (mz_mt (mz_mt (mz_mt (mz_mt (mz_mt (mz_mt (mz_mt (mz_mt (mz_mt mz_mh)))))))))))))))
theorem mz_i_wsX7_arrow_31 : (.methodLink RX2 48 yX2_withAllBelow : Cond) ∈ wsX7_arrow := mz_mt (mz_ml (mz_ml (mz_ml (mz_mr (mz_ml (mz_mt (mz_mt (mz_mt (mz_mt (mz_mt (mz_mt mz_mh)))))))))))
theorem mz_i_wsX7_arrow_30 : (.code yX2_childrenOf cX2_childrenOf 2 (some .int) : Cond) ∈ wsX7_arrow := mz_mt (mz_ml (mz_ml (mz_ml (mz_mr (mz_ml (mz_mt (mz_mt (mz_mt (mz_mt (mz_mt mz_mh))))))))))
theorem mz_i_wsX7_arrow_29 : (.selects RX2 yX2_childrenOf yX2_childrenOf : Cond) ∈ wsX7_arrow := mz_mt (mz_ml (mz_ml (mz_ml (mz_mr (mz_ml (mz_mt (mz_mt (mz_mt (mz_mt mz_mh)))))))))
theorem mz_i_wsX7_arrow_28 : (.instanceMethod yX2_childrenOf : Cond) ∈ wsX7_arrow := mz_mt (mz_ml (mz_ml (mz_ml (mz_mr (mz_ml (mz_mt (mz_mt (mz_mt mz_mh))))))))
theorem mz_i_wsX7_arrow_27 : (.methodLink RX2 45 yX2_childrenOf : Cond) ∈ wsX7_arrow := mz_mt (mz_ml (mz_ml (mz_ml (mz_mr (mz_ml (mz_mt (mz_mt mz_mh)))))))
theorem mz_i_wsX7_arrow_26 : (.code yX2_allBelow cX2_allBelow 2 (some .int) : Cond) ∈ wsX7_arrow := mz_mt (mz_ml (mz_ml (mz_ml (mz_mr (mz_ml (mz_mt mz_mh))))))
theorem mz_i_wsX7_arrow_25 : (.selects RX2 yX2_allBelow yX2_allBelow : Cond) ∈ wsX7_arrow := mz_mt (mz_ml (mz_ml (mz_ml (mz_mr (mz_ml mz_mh)))))
theorem mz_i_wsX7_arrow_24 : (.instanceMethod yX2_allBelow : Cond) ∈ wsX7_arrow := mz_mt (mz_ml (mz_ml (mz_ml (mz_ml (mz_mt (mz_mt (mz_mt (mz_mt (mz_mt (mz_mt (mz_mt (mz_mt (mz_mt (mz_mt (mz_mt (mz_mt (mz_mt (mz_mt (mz_mt (mz_mt (mz_mt (mz_mt (mz_mt (mz_mt (mz_mt (mz_mt (mz_mt mz_mh)))))))))))))))))))))))))))
theorem mz_i_wsX7_arrow_23 : (.methodLink RX2 34 yX2_allBelow : Cond) ∈ wsX7_arrow := mz_mt (mz_ml (mz_ml (mz_ml (mz_ml (mz_mt (mz_mt (mz_mt (mz_mt (mz_mt (mz_mt (mz_mt (mz_mt (mz_mt (mz_mt (mz_mt (mz_mt (mz_mt (mz_mt (mz_mt (mz_mt (mz_mt (mz_mt (mz_mt (mz_mt (mz_mt (mz_mt mz_mh))))))))))))))))))))))))))
theorem mz_i_wsX7_arrow_22 : (.code yX7_inHeap cX7_inHeap 2 (some .boolean) : Cond) ∈ wsX7_arrow := mz_mt (mz_ml (mz_ml (mz_ml (mz_ml (mz_mt (mz_mt (mz_mt (mz_mt (mz_mt (mz_mt (mz_mt (mz_mt (mz_mt (mz_mt (mz_mt (mz_mt (mz_mt (mz_mt (mz_mt (mz_mt (mz_mt (mz_mt (mz_mt (mz_mt (mz_mt mz_mh)))))))))))))))))))))))))
theorem mz_i_wsX7_arrow_21 : (.initialized RX7 : Cond) ∈ wsX7_arrow := mz_mt (mz_ml (mz_ml (mz_ml (mz_ml (mz_mt (mz_mt (mz_mt (mz_mt (mz_mt (mz_mt (mz_mt (mz_mt (mz_mt (mz_mt (mz_mt (mz_mt (mz_mt (mz_mt (mz_mt (mz_mt (mz_mt (mz_mt (mz_mt (mz_mt mz_mh))))))))))))))))))))))))
theorem mz_i_wsX7_arrow_20 : (.static yX7_inHeap : Cond) ∈ wsX7_arrow := mz_mt (mz_ml (mz_ml (mz_ml (mz_ml (mz_mt (mz_mt (mz_mt (mz_mt (mz_mt (mz_mt (mz_mt (mz_mt (mz_mt (mz_mt (mz_mt (mz_mt (mz_mt (mz_mt (mz_mt (mz_mt (mz_mt (mz_mt (mz_mt mz_mh)))))))))))))))))))))))
theorem mz_i_wsX7_arrow_19 : (.methodLink RX2 22 yX2_has : Cond) ∈ wsX7_arrow := mz_mt (mz_ml (mz_ml (mz_ml (mz_ml (mz_mt (mz_mt (mz_mt (mz_mt (mz_mt (mz_mt (mz_mt (mz_mt (mz_mt (mz_mt (mz_mt (mz_mt (mz_mt (mz_mt (mz_mt (mz_mt (mz_mt (mz_mt mz_mh))))))))))))))))))))))
theorem mz_i_wsX7_arrow_18 : (.fieldLink RX2 15 "MadeItSo$Drawing" "children" "[I" : Cond) ∈ wsX7_arrow := mz_mt (mz_ml (mz_ml (mz_ml (mz_ml (mz_mt (mz_mt (mz_mt (mz_mt (mz_mt (mz_mt (mz_mt (mz_mt (mz_mt (mz_mt (mz_mt (mz_mt (mz_mt (mz_mt (mz_mt (mz_mt (mz_mt mz_mh)))))))))))))))))))))
theorem mz_i_wsX7_arrow_17 : (.fieldLink RX2 9 "MadeItSo$Drawing" "parents" "[I" : Cond) ∈ wsX7_arrow := mz_mt (mz_ml (mz_ml (mz_ml (mz_ml (mz_mt (mz_mt (mz_mt (mz_mt (mz_mt (mz_mt (mz_mt (mz_mt (mz_mt (mz_mt (mz_mt (mz_mt (mz_mt (mz_mt (mz_mt (mz_mt mz_mh))))))))))))))))))))
theorem mz_i_wsX7_arrow_16 : (.code yX2_joinedTo cX2_joinedTo 2 (some .int) : Cond) ∈ wsX7_arrow := mz_mt (mz_ml (mz_ml (mz_ml (mz_ml (mz_mt (mz_mt (mz_mt (mz_mt (mz_mt (mz_mt (mz_mt (mz_mt (mz_mt (mz_mt (mz_mt (mz_mt (mz_mt (mz_mt (mz_mt mz_mh)))))))))))))))))))
theorem mz_i_wsX7_arrow_15 : (.selects RX2 yX2_joinedTo yX2_joinedTo : Cond) ∈ wsX7_arrow := mz_mt (mz_ml (mz_ml (mz_ml (mz_ml (mz_mt (mz_mt (mz_mt (mz_mt (mz_mt (mz_mt (mz_mt (mz_mt (mz_mt (mz_mt (mz_mt (mz_mt (mz_mt (mz_mt mz_mh))))))))))))))))))
theorem mz_i_wsX7_arrow_14 : (.instanceMethod yX2_joinedTo : Cond) ∈ wsX7_arrow := mz_mt (mz_ml (mz_ml (mz_ml (mz_ml (mz_mt (mz_mt (mz_mt (mz_mt (mz_mt (mz_mt (mz_mt (mz_mt (mz_mt (mz_mt (mz_mt (mz_mt (mz_mt mz_mh)))))))))))))))))
theorem mz_i_wsX7_arrow_13 : (.methodLink RX2 30 yX2_joinedTo : Cond) ∈ wsX7_arrow := mz_mt (mz_ml (mz_ml (mz_ml (mz_ml (mz_mt (mz_mt (mz_mt (mz_mt (mz_mt (mz_mt (mz_mt (mz_mt (mz_mt (mz_mt (mz_mt (mz_mt mz_mh))))))))))))))))
theorem mz_i_wsX7_arrow_41 : (.code yX2_gather cX2_gather 4 (some .int) : Cond) ∈ wsX7_arrow := mz_mt (mz_ml (mz_ml (mz_ml (mz_mr (mz_ml (mz_mt (mz_mt (mz_mt (mz_mt (mz_mt (mz_mt (mz_mt (mz_mt (mz_mt (mz_mt (mz_mt (mz_mt (mz_mt (mz_mt (mz_mt (mz_mt mz_mh)))))))))))))))))))))
theorem mz_i_wsX7_arrow_40 : (.static yX2_gather : Cond) ∈ wsX7_arrow := mz_mt (mz_ml (mz_ml (mz_ml (mz_mr (mz_ml (mz_mt (mz_mt (mz_mt (mz_mt (mz_mt (mz_mt (mz_mt (mz_mt (mz_mt (mz_mt (mz_mt (mz_mt (mz_mt (mz_mt (mz_mt mz_mh))))))))))))))))))))
theorem mz_i_wsX7_arrow_39 : (.methodLink RX2 55 yX2_gather : Cond) ∈ wsX7_arrow := mz_mt (mz_ml (mz_ml (mz_ml (mz_mr (mz_ml (mz_mt (mz_mt (mz_mt (mz_mt (mz_mt (mz_mt (mz_mt (mz_mt (mz_mt (mz_mt (mz_mt (mz_mt (mz_mt (mz_mt mz_mh)))))))))))))))))))
theorem mz_i_wsX7_arrow_38 : (.code yX2_spread cX2_spread 6 (some .int) : Cond) ∈ wsX7_arrow := mz_mt (mz_ml (mz_ml (mz_ml (mz_mr (mz_ml (mz_mt (mz_mt (mz_mt (mz_mt (mz_mt (mz_mt (mz_mt (mz_mt (mz_mt (mz_mt (mz_mt (mz_mt (mz_mt mz_mh))))))))))))))))))
theorem mz_i_wsX7_arrow_37 : (.selects RX2 yX2_spread yX2_spread : Cond) ∈ wsX7_arrow := mz_mt (mz_ml (mz_ml (mz_ml (mz_mr (mz_ml (mz_mt (mz_mt (mz_mt (mz_mt (mz_mt (mz_mt (mz_mt (mz_mt (mz_mt (mz_mt (mz_mt (mz_mt mz_mh)))))))))))))))))
theorem mz_i_wsX7_arrow_36 : (.instanceMethod yX2_spread : Cond) ∈ wsX7_arrow := mz_mt (mz_ml (mz_ml (mz_ml (mz_mr (mz_ml (mz_mt (mz_mt (mz_mt (mz_mt (mz_mt (mz_mt (mz_mt (mz_mt (mz_mt (mz_mt (mz_mt mz_mh))))))))))))))))
theorem mz_i_wsX7_arrow_35 : (.methodLink RX2 51 yX2_spread : Cond) ∈ wsX7_arrow := mz_mt (mz_ml (mz_ml (mz_ml (mz_mr (mz_ml (mz_mt (mz_mt (mz_mt (mz_mt (mz_mt (mz_mt (mz_mt (mz_mt (mz_mt (mz_mt mz_mh)))))))))))))))
theorem mz_i_wsX7_arrow_34 : (.code yX2_withAllBelow cX2_withAllBelow 2 (some .int) : Cond) ∈ wsX7_arrow := mz_mt (mz_ml (mz_ml (mz_ml (mz_mr (mz_ml (mz_mt (mz_mt (mz_mt (mz_mt (mz_mt (mz_mt (mz_mt (mz_mt (mz_mt mz_mh))))))))))))))
theorem mz_i_wsX7_arrow_33 : (.selects RX2 yX2_withAllBelow yX2_withAllBelow : Cond) ∈ wsX7_arrow := mz_mt (mz_ml (mz_ml (mz_ml (mz_mr (mz_ml (mz_mt (mz_mt (mz_mt (mz_mt (mz_mt (mz_mt (mz_mt (mz_mt mz_mh)))))))))))))
theorem mz_i_wsX7_arrow_32 : (.instanceMethod yX2_withAllBelow : Cond) ∈ wsX7_arrow := mz_mt (mz_ml (mz_ml (mz_ml (mz_mr (mz_ml (mz_mt (mz_mt (mz_mt (mz_mt (mz_mt (mz_mt (mz_mt mz_mh))))))))))))
set_option maxRecDepth 20000 in
theorem ggX7_arrow_X2_canJoin : GoodIn wsX7_arrow wsX2_canJoin := goodIn_sub (mz_fc mz_i_wsX7_arrow_12 (mz_fa (mz_fa (mz_fc mz_i_wsX7_arrow_13 (mz_fc mz_i_wsX7_arrow_14 (mz_fc mz_i_wsX7_arrow_15 (mz_fc mz_i_wsX7_arrow_6 (mz_fc mz_i_wsX7_arrow_16 (mz_fc mz_i_wsX7_arrow_17 (mz_fc mz_i_wsX7_arrow_18 (mz_fc mz_i_wsX7_arrow_19 (mz_fc mz_i_wsX7_arrow_4 (mz_fc mz_i_wsX7_arrow_5 (mz_fc mz_i_wsX7_arrow_7 (mz_fc mz_i_wsX7_arrow_8 (mz_fc mz_i_wsX7_arrow_20 (mz_fc mz_i_wsX7_arrow_21 (mz_fc mz_i_wsX7_arrow_22 (mz_fc mz_i_wsX7_arrow_23 (mz_fc mz_i_wsX7_arrow_24 (mz_fc mz_i_wsX7_arrow_25 (mz_fc mz_i_wsX7_arrow_26 (mz_fc mz_i_wsX7_arrow_27 (mz_fc mz_i_wsX7_arrow_28 (mz_fc mz_i_wsX7_arrow_29 (mz_fc mz_i_wsX7_arrow_30 (mz_fc mz_i_wsX7_arrow_31 mz_fn)))))))))))))))))))))))) (mz_fc mz_i_wsX7_arrow_32 (mz_fc mz_i_wsX7_arrow_33 (mz_fc mz_i_wsX7_arrow_34 (mz_fc mz_i_wsX7_arrow_35 (mz_fc mz_i_wsX7_arrow_36 (mz_fc mz_i_wsX7_arrow_37 (mz_fc mz_i_wsX7_arrow_38 (mz_fc mz_i_wsX7_arrow_39 (mz_fc mz_i_wsX7_arrow_40 (mz_fc mz_i_wsX7_arrow_41 mz_fn))))))))))) (mz_f_wsX7_arrow_wsX20))) (by decide +kernel)
theorem mz_i_wsX7_arrow_11 : (.selects RX2 yX2_canJoin yX2_canJoin : Cond) ∈ wsX7_arrow := mz_mt (mz_ml (mz_ml (mz_ml (mz_ml (mz_mt (mz_mt (mz_mt (mz_mt (mz_mt (mz_mt (mz_mt (mz_mt (mz_mt (mz_mt mz_mh))))))))))))))
theorem mz_i_wsX7_arrow_10 : (.instanceMethod yX2_canJoin : Cond) ∈ wsX7_arrow := mz_mt (mz_ml (mz_ml (mz_ml (mz_ml (mz_mt (mz_mt (mz_mt (mz_mt (mz_mt (mz_mt (mz_mt (mz_mt (mz_mt mz_mh)))))))))))))
theorem mz_i_wsX7_arrow_9 : (.methodLink RX7 81 yX2_canJoin : Cond) ∈ wsX7_arrow := mz_mt (mz_ml (mz_ml (mz_ml (mz_ml (mz_mt (mz_mt (mz_mt (mz_mt (mz_mt (mz_mt (mz_mt (mz_mt mz_mh))))))))))))
set_option maxRecDepth 20000 in
theorem gX7_arrow_X2_canJoin : GoodIn wsX7_arrow (wsV RX7 81 RX2 yX2_canJoin wsX2_canJoin) := goodIn_app (goodIn_sub (mz_fc mz_i_wsX7_arrow_9 (mz_fc mz_i_wsX7_arrow_10 (mz_fc mz_i_wsX7_arrow_11 (mz_fc mz_i_wsX7_arrow_6 mz_fn)))) (by decide +kernel)) ggX7_arrow_X2_canJoin
theorem mz_i_wsX7_arrow_45 : (.code yX2_join cX2_join 3 none : Cond) ∈ wsX7_arrow := mz_mt (mz_ml (mz_ml (mz_ml (mz_mr (mz_ml (mz_mt (mz_mt (mz_mt (mz_mt (mz_mt (mz_mt (mz_mt (mz_mt (mz_mt (mz_mt (mz_mt (mz_mt (mz_mt (mz_mt (mz_mt (mz_mt (mz_mt (mz_mt (mz_mt (mz_mt mz_mh)))))))))))))))))))))))))
theorem mz_i_wsX7_arrow_47 : (.code yX7_bit cX7_bit 1 (some .int) : Cond) ∈ wsX7_arrow := mz_mt (mz_ml (mz_ml (mz_ml (mz_mr (mz_ml (mz_mt (mz_mt (mz_mt (mz_mt (mz_mt (mz_mt (mz_mt (mz_mt (mz_mt (mz_mt (mz_mt (mz_mt (mz_mt (mz_mt (mz_mt (mz_mt (mz_mt (mz_mt (mz_mt (mz_mt (mz_mt (mz_mt mz_mh)))))))))))))))))))))))))))
theorem mz_i_wsX7_arrow_46 : (.static yX7_bit : Cond) ∈ wsX7_arrow := mz_mt (mz_ml (mz_ml (mz_ml (mz_mr (mz_ml (mz_mt (mz_mt (mz_mt (mz_mt (mz_mt (mz_mt (mz_mt (mz_mt (mz_mt (mz_mt (mz_mt (mz_mt (mz_mt (mz_mt (mz_mt (mz_mt (mz_mt (mz_mt (mz_mt (mz_mt (mz_mt mz_mh))))))))))))))))))))))))))
set_option maxRecDepth 20000 in
theorem ggX7_arrow_X2_join : GoodIn wsX7_arrow wsX2_join := goodIn_sub (mz_fc mz_i_wsX7_arrow_45 (mz_fa (mz_fc mz_i_wsX7_arrow_18 (mz_fc mz_i_wsX7_arrow_17 (mz_fc mz_i_wsX7_arrow_19 (mz_fc mz_i_wsX7_arrow_4 (mz_fc mz_i_wsX7_arrow_5 (mz_fc mz_i_wsX7_arrow_6 (mz_fc mz_i_wsX7_arrow_7 (mz_fc mz_i_wsX7_arrow_8 (mz_fc mz_i_wsX7_arrow_46 (mz_fc mz_i_wsX7_arrow_21 (mz_fc mz_i_wsX7_arrow_47 mz_fn))))))))))) (mz_f_wsX7_arrow_wsX20))) (by decide +kernel)
theorem mz_i_wsX7_arrow_44 : (.selects RX2 yX2_join yX2_join : Cond) ∈ wsX7_arrow := mz_mt (mz_ml (mz_ml (mz_ml (mz_mr (mz_ml (mz_mt (mz_mt (mz_mt (mz_mt (mz_mt (mz_mt (mz_mt (mz_mt (mz_mt (mz_mt (mz_mt (mz_mt (mz_mt (mz_mt (mz_mt (mz_mt (mz_mt (mz_mt (mz_mt mz_mh))))))))))))))))))))))))
theorem mz_i_wsX7_arrow_43 : (.instanceMethod yX2_join : Cond) ∈ wsX7_arrow := mz_mt (mz_ml (mz_ml (mz_ml (mz_mr (mz_ml (mz_mt (mz_mt (mz_mt (mz_mt (mz_mt (mz_mt (mz_mt (mz_mt (mz_mt (mz_mt (mz_mt (mz_mt (mz_mt (mz_mt (mz_mt (mz_mt (mz_mt (mz_mt mz_mh)))))))))))))))))))))))
theorem mz_i_wsX7_arrow_42 : (.methodLink RX7 85 yX2_join : Cond) ∈ wsX7_arrow := mz_mt (mz_ml (mz_ml (mz_ml (mz_mr (mz_ml (mz_mt (mz_mt (mz_mt (mz_mt (mz_mt (mz_mt (mz_mt (mz_mt (mz_mt (mz_mt (mz_mt (mz_mt (mz_mt (mz_mt (mz_mt (mz_mt (mz_mt mz_mh))))))))))))))))))))))
set_option maxRecDepth 20000 in
theorem gX7_arrow_X2_join : GoodIn wsX7_arrow (wsV RX7 85 RX2 yX2_join wsX2_join) := goodIn_app (goodIn_sub (mz_fc mz_i_wsX7_arrow_42 (mz_fc mz_i_wsX7_arrow_43 (mz_fc mz_i_wsX7_arrow_44 (mz_fc mz_i_wsX7_arrow_6 mz_fn)))) (by decide +kernel)) ggX7_arrow_X2_join
theorem mz_i_wsX7_arrow_52 : (.code yX1_blank cX1_blank 3 none : Cond) ∈ wsX7_arrow := mz_mt (mz_ml (mz_ml (mz_ml (mz_mr (mz_mr (mz_mt (mz_mt (mz_mt mz_mh))))))))
theorem mz_i_wsX7_arrow_53 : (.fieldLink RX1 9 "MadeItSo$Books" "parts" "[I" : Cond) ∈ wsX7_arrow := mz_mt (mz_ml (mz_ml (mz_ml (mz_mr (mz_mr (mz_mt (mz_mt (mz_mt (mz_mt mz_mh)))))))))
theorem mz_f_wsX7_arrow_wsX10 : ∀ w ∈ wsX10, w ∈ wsX7_arrow := fun _ h => mz_mt (mz_mr h)
set_option maxRecDepth 20000 in
theorem ggX7_arrow_X1_blank : GoodIn wsX7_arrow wsX1_blank := goodIn_sub (mz_fc mz_i_wsX7_arrow_52 (mz_fa (mz_fc mz_i_wsX7_arrow_53 mz_fn) (mz_f_wsX7_arrow_wsX10))) (by decide +kernel)
theorem mz_i_wsX7_arrow_51 : (.initialized RX1 : Cond) ∈ wsX7_arrow := mz_mt (mz_ml (mz_ml (mz_ml (mz_mr (mz_mr (mz_mt (mz_mt mz_mh)))))))
theorem mz_i_wsX7_arrow_50 : (.selects RX1 yX1_blank yX1_blank : Cond) ∈ wsX7_arrow := mz_mt (mz_ml (mz_ml (mz_ml (mz_mr (mz_mr (mz_mt mz_mh))))))
theorem mz_i_wsX7_arrow_49 : (.instanceMethod yX1_blank : Cond) ∈ wsX7_arrow := mz_mt (mz_ml (mz_ml (mz_ml (mz_mr (mz_mr mz_mh)))))
theorem mz_i_wsX7_arrow_48 : (.methodLink RX7 69 yX1_blank : Cond) ∈ wsX7_arrow := mz_mt (mz_ml (mz_ml (mz_ml (mz_mr (mz_ml (mz_mt (mz_mt (mz_mt (mz_mt (mz_mt (mz_mt (mz_mt (mz_mt (mz_mt (mz_mt (mz_mt (mz_mt (mz_mt (mz_mt (mz_mt (mz_mt (mz_mt (mz_mt (mz_mt (mz_mt (mz_mt (mz_mt (mz_mt mz_mh))))))))))))))))))))))))))))
set_option maxRecDepth 20000 in
theorem gX7_arrow_X1_blank : GoodIn wsX7_arrow (wsV RX7 69 RX1 yX1_blank wsX1_blank) := goodIn_app (goodIn_sub (mz_fc mz_i_wsX7_arrow_48 (mz_fc mz_i_wsX7_arrow_49 (mz_fc mz_i_wsX7_arrow_50 (mz_fc mz_i_wsX7_arrow_51 mz_fn)))) (by decide +kernel)) ggX7_arrow_X1_blank
theorem dX7_arrow_0 : decode cX7_arrow 0 = .ok (.aload_n 0, 1) := by decide +kernel
theorem dX7_arrow_1 : decode cX7_arrow 1 = .ok (.getfield 12, 3) := by decide +kernel
theorem dX7_arrow_4 : decode cX7_arrow 4 = .ok (.iload_n 1, 1) := by decide +kernel
theorem dX7_arrow_5 : decode cX7_arrow 5 = .ok (.invokevirtual 77, 3) := by decide +kernel
theorem dX7_arrow_8 : decode cX7_arrow 8 = .ok (.ifCond .eq 26, 3) := by decide +kernel
theorem dX7_arrow_11 : decode cX7_arrow 11 = .ok (.aload_n 0, 1) := by decide +kernel
theorem dX7_arrow_12 : decode cX7_arrow 12 = .ok (.getfield 12, 3) := by decide +kernel
theorem dX7_arrow_15 : decode cX7_arrow 15 = .ok (.iload_n 2, 1) := by decide +kernel
theorem dX7_arrow_16 : decode cX7_arrow 16 = .ok (.invokevirtual 77, 3) := by decide +kernel
theorem dX7_arrow_19 : decode cX7_arrow 19 = .ok (.ifCond .eq 15, 3) := by decide +kernel
theorem dX7_arrow_22 : decode cX7_arrow 22 = .ok (.aload_n 0, 1) := by decide +kernel
theorem dX7_arrow_23 : decode cX7_arrow 23 = .ok (.getfield 12, 3) := by decide +kernel
theorem dX7_arrow_26 : decode cX7_arrow 26 = .ok (.iload_n 1, 1) := by decide +kernel
theorem dX7_arrow_27 : decode cX7_arrow 27 = .ok (.iload_n 2, 1) := by decide +kernel
theorem dX7_arrow_28 : decode cX7_arrow 28 = .ok (.invokevirtual 81, 3) := by decide +kernel
theorem dX7_arrow_31 : decode cX7_arrow 31 = .ok (.ifCond .ne 5, 3) := by decide +kernel
theorem dX7_arrow_34 : decode cX7_arrow 34 = .ok (.iconst 0, 1) := by decide +kernel
theorem dX7_arrow_35 : decode cX7_arrow 35 = .ok (.ireturn, 1) := by decide +kernel
theorem dX7_arrow_36 : decode cX7_arrow 36 = .ok (.aload_n 0, 1) := by decide +kernel
theorem dX7_arrow_37 : decode cX7_arrow 37 = .ok (.getfield 12, 3) := by decide +kernel
theorem dX7_arrow_40 : decode cX7_arrow 40 = .ok (.iload_n 1, 1) := by decide +kernel
theorem dX7_arrow_41 : decode cX7_arrow 41 = .ok (.iload_n 2, 1) := by decide +kernel
theorem dX7_arrow_42 : decode cX7_arrow 42 = .ok (.invokevirtual 85, 3) := by decide +kernel
theorem dX7_arrow_45 : decode cX7_arrow 45 = .ok (.aload_n 0, 1) := by decide +kernel
theorem dX7_arrow_46 : decode cX7_arrow 46 = .ok (.getfield 22, 3) := by decide +kernel
theorem dX7_arrow_49 : decode cX7_arrow 49 = .ok (.iload_n 2, 1) := by decide +kernel
theorem dX7_arrow_50 : decode cX7_arrow 50 = .ok (.invokevirtual 69, 3) := by decide +kernel
theorem dX7_arrow_53 : decode cX7_arrow 53 = .ok (.iconst 1, 1) := by decide +kernel
theorem dX7_arrow_54 : decode cX7_arrow 54 = .ok (.ireturn, 1) := by decide +kernel
theorem mz_i_wsX7_cut_7 : (.code yX2_leads cX2_leads 3 (some .boolean) : Cond) ∈ wsX7_cut := mz_mt (mz_ml (mz_ml (mz_ml (mz_ml (mz_mt (mz_mt (mz_mt (mz_mt (mz_mt (mz_mt mz_mh))))))))))
theorem mz_i_wsX7_cut_16 : (.code yX7_inHeap cX7_inHeap 2 (some .boolean) : Cond) ∈ wsX7_cut := mz_mt (mz_ml (mz_ml (mz_ml (mz_ml (mz_mt (mz_mt (mz_mt (mz_mt (mz_mt (mz_mt (mz_mt (mz_mt (mz_mt (mz_mt (mz_mt (mz_mt (mz_mt (mz_mt (mz_mt mz_mh)))))))))))))))))))
theorem mz_i_wsX7_cut_15 : (.initialized RX7 : Cond) ∈ wsX7_cut := mz_mt (mz_ml (mz_ml (mz_ml (mz_ml (mz_mt (mz_mt (mz_mt (mz_mt (mz_mt (mz_mt (mz_mt (mz_mt (mz_mt (mz_mt (mz_mt (mz_mt (mz_mt (mz_mt mz_mh))))))))))))))))))
theorem mz_i_wsX7_cut_14 : (.static yX7_inHeap : Cond) ∈ wsX7_cut := mz_mt (mz_ml (mz_ml (mz_ml (mz_ml (mz_mt (mz_mt (mz_mt (mz_mt (mz_mt (mz_mt (mz_mt (mz_mt (mz_mt (mz_mt (mz_mt (mz_mt (mz_mt mz_mh)))))))))))))))))
theorem mz_i_wsX7_cut_13 : (.fieldLink RX2 18 "MadeItSo$Drawing" "things" "I" : Cond) ∈ wsX7_cut := mz_mt (mz_ml (mz_ml (mz_ml (mz_ml (mz_mt (mz_mt (mz_mt (mz_mt (mz_mt (mz_mt (mz_mt (mz_mt (mz_mt (mz_mt (mz_mt (mz_mt mz_mh))))))))))))))))
theorem mz_i_wsX7_cut_12 : (.code yX2_has cX2_has 2 (some .boolean) : Cond) ∈ wsX7_cut := mz_mt (mz_ml (mz_ml (mz_ml (mz_ml (mz_mt (mz_mt (mz_mt (mz_mt (mz_mt (mz_mt (mz_mt (mz_mt (mz_mt (mz_mt (mz_mt mz_mh)))))))))))))))
theorem mz_i_wsX7_cut_6 : (.initialized RX2 : Cond) ∈ wsX7_cut := mz_mt (mz_ml (mz_ml (mz_ml (mz_ml (mz_mt (mz_mt (mz_mt (mz_mt (mz_mt mz_mh)))))))))
theorem mz_i_wsX7_cut_11 : (.selects RX2 yX2_has yX2_has : Cond) ∈ wsX7_cut := mz_mt (mz_ml (mz_ml (mz_ml (mz_ml (mz_mt (mz_mt (mz_mt (mz_mt (mz_mt (mz_mt (mz_mt (mz_mt (mz_mt (mz_mt mz_mh))))))))))))))
theorem mz_i_wsX7_cut_10 : (.instanceMethod yX2_has : Cond) ∈ wsX7_cut := mz_mt (mz_ml (mz_ml (mz_ml (mz_ml (mz_mt (mz_mt (mz_mt (mz_mt (mz_mt (mz_mt (mz_mt (mz_mt (mz_mt mz_mh)))))))))))))
theorem mz_i_wsX7_cut_9 : (.methodLink RX2 22 yX2_has : Cond) ∈ wsX7_cut := mz_mt (mz_ml (mz_ml (mz_ml (mz_ml (mz_mt (mz_mt (mz_mt (mz_mt (mz_mt (mz_mt (mz_mt (mz_mt mz_mh))))))))))))
theorem mz_i_wsX7_cut_8 : (.fieldLink RX2 15 "MadeItSo$Drawing" "children" "[I" : Cond) ∈ wsX7_cut := mz_mt (mz_ml (mz_ml (mz_ml (mz_ml (mz_mt (mz_mt (mz_mt (mz_mt (mz_mt (mz_mt (mz_mt mz_mh)))))))))))
theorem mz_f_wsX7_cut_wsX20 : ∀ w ∈ wsX20, w ∈ wsX7_cut := fun _ h => mz_mt (mz_ml (mz_mr h))
set_option maxRecDepth 20000 in
theorem ggX7_cut_X2_leads : GoodIn wsX7_cut wsX2_leads := goodIn_sub (mz_fc mz_i_wsX7_cut_7 (mz_fa (mz_fc mz_i_wsX7_cut_8 (mz_fc mz_i_wsX7_cut_9 (mz_fc mz_i_wsX7_cut_10 (mz_fc mz_i_wsX7_cut_11 (mz_fc mz_i_wsX7_cut_6 (mz_fc mz_i_wsX7_cut_12 (mz_fc mz_i_wsX7_cut_13 (mz_fc mz_i_wsX7_cut_14 (mz_fc mz_i_wsX7_cut_15 (mz_fc mz_i_wsX7_cut_16 mz_fn)))))))))) (mz_f_wsX7_cut_wsX20))) (by decide +kernel)
theorem mz_i_wsX7_cut_5 : (.selects RX2 yX2_leads yX2_leads : Cond) ∈ wsX7_cut := mz_mt (mz_ml (mz_ml (mz_ml (mz_ml (mz_mt (mz_mt (mz_mt (mz_mt mz_mh))))))))
theorem mz_i_wsX7_cut_4 : (.instanceMethod yX2_leads : Cond) ∈ wsX7_cut := mz_mt (mz_ml (mz_ml (mz_ml (mz_ml (mz_mt (mz_mt (mz_mt mz_mh)))))))
theorem mz_i_wsX7_cut_3 : (.methodLink RX7 89 yX2_leads : Cond) ∈ wsX7_cut := mz_mt (mz_ml (mz_ml (mz_ml (mz_ml (mz_mt (mz_mt mz_mh))))))
set_option maxRecDepth 20000 in
theorem gX7_cut_X2_leads : GoodIn wsX7_cut (wsV RX7 89 RX2 yX2_leads wsX2_leads) := goodIn_app (goodIn_sub (mz_fc mz_i_wsX7_cut_3 (mz_fc mz_i_wsX7_cut_4 (mz_fc mz_i_wsX7_cut_5 (mz_fc mz_i_wsX7_cut_6 mz_fn)))) (by decide +kernel)) ggX7_cut_X2_leads
theorem mz_i_wsX7_cut_20 : (.code yX2_part cX2_part 3 none : Cond) ∈ wsX7_cut := mz_mt (mz_ml (mz_ml (mz_ml (mz_ml (mz_mt (mz_mt (mz_mt (mz_mt (mz_mt (mz_mt (mz_mt (mz_mt (mz_mt (mz_mt (mz_mt (mz_mt (mz_mt (mz_mt (mz_mt (mz_mt (mz_mt (mz_mt (mz_mt mz_mh)))))))))))))))))))))))
theorem mz_i_wsX7_cut_23 : (.code yX7_bit cX7_bit 1 (some .int) : Cond) ∈ wsX7_cut := mz_mt (mz_ml (mz_ml (mz_ml (mz_ml (mz_mt (mz_mt (mz_mt (mz_mt (mz_mt (mz_mt (mz_mt (mz_mt (mz_mt (mz_mt (mz_mt (mz_mt (mz_mt (mz_mt (mz_mt (mz_mt (mz_mt (mz_mt (mz_mt (mz_mt (mz_mt (mz_mt mz_mh))))))))))))))))))))))))))
theorem mz_i_wsX7_cut_22 : (.static yX7_bit : Cond) ∈ wsX7_cut := mz_mt (mz_ml (mz_ml (mz_ml (mz_ml (mz_mt (mz_mt (mz_mt (mz_mt (mz_mt (mz_mt (mz_mt (mz_mt (mz_mt (mz_mt (mz_mt (mz_mt (mz_mt (mz_mt (mz_mt (mz_mt (mz_mt (mz_mt (mz_mt (mz_mt (mz_mt mz_mh)))))))))))))))))))))))))
theorem mz_i_wsX7_cut_21 : (.fieldLink RX2 9 "MadeItSo$Drawing" "parents" "[I" : Cond) ∈ wsX7_cut := mz_mt (mz_ml (mz_ml (mz_ml (mz_ml (mz_mt (mz_mt (mz_mt (mz_mt (mz_mt (mz_mt (mz_mt (mz_mt (mz_mt (mz_mt (mz_mt (mz_mt (mz_mt (mz_mt (mz_mt (mz_mt (mz_mt (mz_mt (mz_mt (mz_mt mz_mh))))))))))))))))))))))))
set_option maxRecDepth 20000 in
theorem ggX7_cut_X2_part : GoodIn wsX7_cut wsX2_part := goodIn_sub (mz_fc mz_i_wsX7_cut_20 (mz_fa (mz_fc mz_i_wsX7_cut_8 (mz_fc mz_i_wsX7_cut_21 (mz_fc mz_i_wsX7_cut_9 (mz_fc mz_i_wsX7_cut_10 (mz_fc mz_i_wsX7_cut_11 (mz_fc mz_i_wsX7_cut_6 (mz_fc mz_i_wsX7_cut_12 (mz_fc mz_i_wsX7_cut_13 (mz_fc mz_i_wsX7_cut_22 (mz_fc mz_i_wsX7_cut_15 (mz_fc mz_i_wsX7_cut_23 mz_fn))))))))))) (mz_f_wsX7_cut_wsX20))) (by decide +kernel)
theorem mz_i_wsX7_cut_19 : (.selects RX2 yX2_part yX2_part : Cond) ∈ wsX7_cut := mz_mt (mz_ml (mz_ml (mz_ml (mz_ml (mz_mt (mz_mt (mz_mt (mz_mt (mz_mt (mz_mt (mz_mt (mz_mt (mz_mt (mz_mt (mz_mt (mz_mt (mz_mt (mz_mt (mz_mt (mz_mt (mz_mt (mz_mt mz_mh))))))))))))))))))))))
theorem mz_i_wsX7_cut_18 : (.instanceMethod yX2_part : Cond) ∈ wsX7_cut := mz_mt (mz_ml (mz_ml (mz_ml (mz_ml (mz_mt (mz_mt (mz_mt (mz_mt (mz_mt (mz_mt (mz_mt (mz_mt (mz_mt (mz_mt (mz_mt (mz_mt (mz_mt (mz_mt (mz_mt (mz_mt (mz_mt mz_mh)))))))))))))))))))))
theorem mz_i_wsX7_cut_17 : (.methodLink RX7 92 yX2_part : Cond) ∈ wsX7_cut := mz_mt (mz_ml (mz_ml (mz_ml (mz_ml (mz_mt (mz_mt (mz_mt (mz_mt (mz_mt (mz_mt (mz_mt (mz_mt (mz_mt (mz_mt (mz_mt (mz_mt (mz_mt (mz_mt (mz_mt (mz_mt mz_mh))))))))))))))))))))
set_option maxRecDepth 20000 in
theorem gX7_cut_X2_part : GoodIn wsX7_cut (wsV RX7 92 RX2 yX2_part wsX2_part) := goodIn_app (goodIn_sub (mz_fc mz_i_wsX7_cut_17 (mz_fc mz_i_wsX7_cut_18 (mz_fc mz_i_wsX7_cut_19 (mz_fc mz_i_wsX7_cut_6 mz_fn)))) (by decide +kernel)) ggX7_cut_X2_part
theorem mz_i_wsX7_cut_28 : (.code yX1_blank cX1_blank 3 none : Cond) ∈ wsX7_cut := mz_mt (mz_ml (mz_ml (mz_ml (mz_mr (mz_mt (mz_mt (mz_mt mz_mh)))))))
theorem mz_i_wsX7_cut_29 : (.fieldLink RX1 9 "MadeItSo$Books" "parts" "[I" : Cond) ∈ wsX7_cut := mz_mt (mz_ml (mz_ml (mz_ml (mz_mr (mz_mt (mz_mt (mz_mt (mz_mt mz_mh))))))))
theorem mz_f_wsX7_cut_wsX10 : ∀ w ∈ wsX10, w ∈ wsX7_cut := fun _ h => mz_mt (mz_mr h)
set_option maxRecDepth 20000 in
theorem ggX7_cut_X1_blank : GoodIn wsX7_cut wsX1_blank := goodIn_sub (mz_fc mz_i_wsX7_cut_28 (mz_fa (mz_fc mz_i_wsX7_cut_29 mz_fn) (mz_f_wsX7_cut_wsX10))) (by decide +kernel)
theorem mz_i_wsX7_cut_27 : (.initialized RX1 : Cond) ∈ wsX7_cut := mz_mt (mz_ml (mz_ml (mz_ml (mz_mr (mz_mt (mz_mt mz_mh))))))
theorem mz_i_wsX7_cut_26 : (.selects RX1 yX1_blank yX1_blank : Cond) ∈ wsX7_cut := mz_mt (mz_ml (mz_ml (mz_ml (mz_mr (mz_mt mz_mh)))))
theorem mz_i_wsX7_cut_25 : (.instanceMethod yX1_blank : Cond) ∈ wsX7_cut := mz_mt (mz_ml (mz_ml (mz_ml (mz_mr mz_mh))))
theorem mz_i_wsX7_cut_24 : (.methodLink RX7 69 yX1_blank : Cond) ∈ wsX7_cut := mz_mt (mz_ml (mz_ml (mz_ml (mz_ml (mz_mt (mz_mt (mz_mt (mz_mt (mz_mt (mz_mt (mz_mt (mz_mt (mz_mt (mz_mt (mz_mt (mz_mt (mz_mt (mz_mt (mz_mt (mz_mt (mz_mt (mz_mt (mz_mt (mz_mt (mz_mt (mz_mt (mz_mt mz_mh)))))))))))))))))))))))))))
set_option maxRecDepth 20000 in
theorem gX7_cut_X1_blank : GoodIn wsX7_cut (wsV RX7 69 RX1 yX1_blank wsX1_blank) := goodIn_app (goodIn_sub (mz_fc mz_i_wsX7_cut_24 (mz_fc mz_i_wsX7_cut_25 (mz_fc mz_i_wsX7_cut_26 (mz_fc mz_i_wsX7_cut_27 mz_fn)))) (by decide +kernel)) ggX7_cut_X1_blank
theorem dX7_cut_0 : decode cX7_cut 0 = .ok (.aload_n 0, 1) := by decide +kernel
theorem dX7_cut_1 : decode cX7_cut 1 = .ok (.getfield 12, 3) := by decide +kernel
theorem dX7_cut_4 : decode cX7_cut 4 = .ok (.iload_n 1, 1) := by decide +kernel
theorem dX7_cut_5 : decode cX7_cut 5 = .ok (.iload_n 2, 1) := by decide +kernel
theorem dX7_cut_6 : decode cX7_cut 6 = .ok (.invokevirtual 89, 3) := by decide +kernel
theorem dX7_cut_9 : decode cX7_cut 9 = .ok (.ifCond .ne 5, 3) := by decide +kernel
theorem dX7_cut_12 : decode cX7_cut 12 = .ok (.iconst 0, 1) := by decide +kernel
theorem dX7_cut_13 : decode cX7_cut 13 = .ok (.ireturn, 1) := by decide +kernel
theorem dX7_cut_14 : decode cX7_cut 14 = .ok (.aload_n 0, 1) := by decide +kernel
theorem dX7_cut_15 : decode cX7_cut 15 = .ok (.getfield 12, 3) := by decide +kernel
theorem dX7_cut_18 : decode cX7_cut 18 = .ok (.iload_n 1, 1) := by decide +kernel
theorem dX7_cut_19 : decode cX7_cut 19 = .ok (.iload_n 2, 1) := by decide +kernel
theorem dX7_cut_20 : decode cX7_cut 20 = .ok (.invokevirtual 92, 3) := by decide +kernel
theorem dX7_cut_23 : decode cX7_cut 23 = .ok (.aload_n 0, 1) := by decide +kernel
theorem dX7_cut_24 : decode cX7_cut 24 = .ok (.getfield 22, 3) := by decide +kernel
theorem dX7_cut_27 : decode cX7_cut 27 = .ok (.iload_n 2, 1) := by decide +kernel
theorem dX7_cut_28 : decode cX7_cut 28 = .ok (.invokevirtual 69, 3) := by decide +kernel
theorem dX7_cut_31 : decode cX7_cut 31 = .ok (.iconst 1, 1) := by decide +kernel
theorem dX7_cut_32 : decode cX7_cut 32 = .ok (.ireturn, 1) := by decide +kernel
theorem mz_i_wsX7_turn_7 : (.code yX2_leads cX2_leads 3 (some .boolean) : Cond) ∈ wsX7_turn := mz_mt (mz_ml (mz_ml (mz_ml (mz_ml (mz_mt (mz_mt (mz_mt (mz_mt (mz_mt (mz_mt mz_mh))))))))))
theorem mz_i_wsX7_turn_16 : (.code yX7_inHeap cX7_inHeap 2 (some .boolean) : Cond) ∈ wsX7_turn := mz_mt (mz_ml (mz_ml (mz_ml (mz_ml (mz_mt (mz_mt (mz_mt (mz_mt (mz_mt (mz_mt (mz_mt (mz_mt (mz_mt (mz_mt (mz_mt (mz_mt (mz_mt (mz_mt (mz_mt mz_mh)))))))))))))))))))
theorem mz_i_wsX7_turn_15 : (.initialized RX7 : Cond) ∈ wsX7_turn := mz_mt (mz_ml (mz_ml (mz_ml (mz_ml (mz_mt (mz_mt (mz_mt (mz_mt (mz_mt (mz_mt (mz_mt (mz_mt (mz_mt (mz_mt (mz_mt (mz_mt (mz_mt (mz_mt mz_mh))))))))))))))))))
theorem mz_i_wsX7_turn_14 : (.static yX7_inHeap : Cond) ∈ wsX7_turn := mz_mt (mz_ml (mz_ml (mz_ml (mz_ml (mz_mt (mz_mt (mz_mt (mz_mt (mz_mt (mz_mt (mz_mt (mz_mt (mz_mt (mz_mt (mz_mt (mz_mt (mz_mt mz_mh)))))))))))))))))
theorem mz_i_wsX7_turn_13 : (.fieldLink RX2 18 "MadeItSo$Drawing" "things" "I" : Cond) ∈ wsX7_turn := mz_mt (mz_ml (mz_ml (mz_ml (mz_ml (mz_mt (mz_mt (mz_mt (mz_mt (mz_mt (mz_mt (mz_mt (mz_mt (mz_mt (mz_mt (mz_mt (mz_mt mz_mh))))))))))))))))
theorem mz_i_wsX7_turn_12 : (.code yX2_has cX2_has 2 (some .boolean) : Cond) ∈ wsX7_turn := mz_mt (mz_ml (mz_ml (mz_ml (mz_ml (mz_mt (mz_mt (mz_mt (mz_mt (mz_mt (mz_mt (mz_mt (mz_mt (mz_mt (mz_mt (mz_mt mz_mh)))))))))))))))
theorem mz_i_wsX7_turn_6 : (.initialized RX2 : Cond) ∈ wsX7_turn := mz_mt (mz_ml (mz_ml (mz_ml (mz_ml (mz_mt (mz_mt (mz_mt (mz_mt (mz_mt mz_mh)))))))))
theorem mz_i_wsX7_turn_11 : (.selects RX2 yX2_has yX2_has : Cond) ∈ wsX7_turn := mz_mt (mz_ml (mz_ml (mz_ml (mz_ml (mz_mt (mz_mt (mz_mt (mz_mt (mz_mt (mz_mt (mz_mt (mz_mt (mz_mt (mz_mt mz_mh))))))))))))))
theorem mz_i_wsX7_turn_10 : (.instanceMethod yX2_has : Cond) ∈ wsX7_turn := mz_mt (mz_ml (mz_ml (mz_ml (mz_ml (mz_mt (mz_mt (mz_mt (mz_mt (mz_mt (mz_mt (mz_mt (mz_mt (mz_mt mz_mh)))))))))))))
theorem mz_i_wsX7_turn_9 : (.methodLink RX2 22 yX2_has : Cond) ∈ wsX7_turn := mz_mt (mz_ml (mz_ml (mz_ml (mz_ml (mz_mt (mz_mt (mz_mt (mz_mt (mz_mt (mz_mt (mz_mt (mz_mt mz_mh))))))))))))
theorem mz_i_wsX7_turn_8 : (.fieldLink RX2 15 "MadeItSo$Drawing" "children" "[I" : Cond) ∈ wsX7_turn := mz_mt (mz_ml (mz_ml (mz_ml (mz_ml (mz_mt (mz_mt (mz_mt (mz_mt (mz_mt (mz_mt (mz_mt mz_mh)))))))))))
theorem mz_f_wsX7_turn_wsX20 : ∀ w ∈ wsX20, w ∈ wsX7_turn := fun _ h => mz_mt (mz_ml (mz_mr h))
set_option maxRecDepth 20000 in
theorem ggX7_turn_X2_leads : GoodIn wsX7_turn wsX2_leads := goodIn_sub (mz_fc mz_i_wsX7_turn_7 (mz_fa (mz_fc mz_i_wsX7_turn_8 (mz_fc mz_i_wsX7_turn_9 (mz_fc mz_i_wsX7_turn_10 (mz_fc mz_i_wsX7_turn_11 (mz_fc mz_i_wsX7_turn_6 (mz_fc mz_i_wsX7_turn_12 (mz_fc mz_i_wsX7_turn_13 (mz_fc mz_i_wsX7_turn_14 (mz_fc mz_i_wsX7_turn_15 (mz_fc mz_i_wsX7_turn_16 mz_fn)))))))))) (mz_f_wsX7_turn_wsX20))) (by decide +kernel)
theorem mz_i_wsX7_turn_5 : (.selects RX2 yX2_leads yX2_leads : Cond) ∈ wsX7_turn := mz_mt (mz_ml (mz_ml (mz_ml (mz_ml (mz_mt (mz_mt (mz_mt (mz_mt mz_mh))))))))
theorem mz_i_wsX7_turn_4 : (.instanceMethod yX2_leads : Cond) ∈ wsX7_turn := mz_mt (mz_ml (mz_ml (mz_ml (mz_ml (mz_mt (mz_mt (mz_mt mz_mh)))))))
theorem mz_i_wsX7_turn_3 : (.methodLink RX7 89 yX2_leads : Cond) ∈ wsX7_turn := mz_mt (mz_ml (mz_ml (mz_ml (mz_ml (mz_mt (mz_mt mz_mh))))))
set_option maxRecDepth 20000 in
theorem gX7_turn_X2_leads : GoodIn wsX7_turn (wsV RX7 89 RX2 yX2_leads wsX2_leads) := goodIn_app (goodIn_sub (mz_fc mz_i_wsX7_turn_3 (mz_fc mz_i_wsX7_turn_4 (mz_fc mz_i_wsX7_turn_5 (mz_fc mz_i_wsX7_turn_6 mz_fn)))) (by decide +kernel)) ggX7_turn_X2_leads
theorem mz_i_wsX7_turn_20 : (.code yX2_part cX2_part 3 none : Cond) ∈ wsX7_turn := mz_mt (mz_ml (mz_ml (mz_ml (mz_ml (mz_mt (mz_mt (mz_mt (mz_mt (mz_mt (mz_mt (mz_mt (mz_mt (mz_mt (mz_mt (mz_mt (mz_mt (mz_mt (mz_mt (mz_mt (mz_mt (mz_mt (mz_mt (mz_mt mz_mh)))))))))))))))))))))))
theorem mz_i_wsX7_turn_23 : (.code yX7_bit cX7_bit 1 (some .int) : Cond) ∈ wsX7_turn := mz_mt (mz_ml (mz_ml (mz_ml (mz_ml (mz_mt (mz_mt (mz_mt (mz_mt (mz_mt (mz_mt (mz_mt (mz_mt (mz_mt (mz_mt (mz_mt (mz_mt (mz_mt (mz_mt (mz_mt (mz_mt (mz_mt (mz_mt (mz_mt (mz_mt (mz_mt (mz_mt mz_mh))))))))))))))))))))))))))
theorem mz_i_wsX7_turn_22 : (.static yX7_bit : Cond) ∈ wsX7_turn := mz_mt (mz_ml (mz_ml (mz_ml (mz_ml (mz_mt (mz_mt (mz_mt (mz_mt (mz_mt (mz_mt (mz_mt (mz_mt (mz_mt (mz_mt (mz_mt (mz_mt (mz_mt (mz_mt (mz_mt (mz_mt (mz_mt (mz_mt (mz_mt (mz_mt (mz_mt mz_mh)))))))))))))))))))))))))
theorem mz_i_wsX7_turn_21 : (.fieldLink RX2 9 "MadeItSo$Drawing" "parents" "[I" : Cond) ∈ wsX7_turn := mz_mt (mz_ml (mz_ml (mz_ml (mz_ml (mz_mt (mz_mt (mz_mt (mz_mt (mz_mt (mz_mt (mz_mt (mz_mt (mz_mt (mz_mt (mz_mt (mz_mt (mz_mt (mz_mt (mz_mt (mz_mt (mz_mt (mz_mt (mz_mt (mz_mt mz_mh))))))))))))))))))))))))
set_option maxRecDepth 20000 in
theorem ggX7_turn_X2_part : GoodIn wsX7_turn wsX2_part := goodIn_sub (mz_fc mz_i_wsX7_turn_20 (mz_fa (mz_fc mz_i_wsX7_turn_8 (mz_fc mz_i_wsX7_turn_21 (mz_fc mz_i_wsX7_turn_9 (mz_fc mz_i_wsX7_turn_10 (mz_fc mz_i_wsX7_turn_11 (mz_fc mz_i_wsX7_turn_6 (mz_fc mz_i_wsX7_turn_12 (mz_fc mz_i_wsX7_turn_13 (mz_fc mz_i_wsX7_turn_22 (mz_fc mz_i_wsX7_turn_15 (mz_fc mz_i_wsX7_turn_23 mz_fn))))))))))) (mz_f_wsX7_turn_wsX20))) (by decide +kernel)
theorem mz_i_wsX7_turn_19 : (.selects RX2 yX2_part yX2_part : Cond) ∈ wsX7_turn := mz_mt (mz_ml (mz_ml (mz_ml (mz_ml (mz_mt (mz_mt (mz_mt (mz_mt (mz_mt (mz_mt (mz_mt (mz_mt (mz_mt (mz_mt (mz_mt (mz_mt (mz_mt (mz_mt (mz_mt (mz_mt (mz_mt (mz_mt mz_mh))))))))))))))))))))))
theorem mz_i_wsX7_turn_18 : (.instanceMethod yX2_part : Cond) ∈ wsX7_turn := mz_mt (mz_ml (mz_ml (mz_ml (mz_ml (mz_mt (mz_mt (mz_mt (mz_mt (mz_mt (mz_mt (mz_mt (mz_mt (mz_mt (mz_mt (mz_mt (mz_mt (mz_mt (mz_mt (mz_mt (mz_mt (mz_mt mz_mh)))))))))))))))))))))
theorem mz_i_wsX7_turn_17 : (.methodLink RX7 92 yX2_part : Cond) ∈ wsX7_turn := mz_mt (mz_ml (mz_ml (mz_ml (mz_ml (mz_mt (mz_mt (mz_mt (mz_mt (mz_mt (mz_mt (mz_mt (mz_mt (mz_mt (mz_mt (mz_mt (mz_mt (mz_mt (mz_mt (mz_mt (mz_mt mz_mh))))))))))))))))))))
set_option maxRecDepth 20000 in
theorem gX7_turn_X2_part : GoodIn wsX7_turn (wsV RX7 92 RX2 yX2_part wsX2_part) := goodIn_app (goodIn_sub (mz_fc mz_i_wsX7_turn_17 (mz_fc mz_i_wsX7_turn_18 (mz_fc mz_i_wsX7_turn_19 (mz_fc mz_i_wsX7_turn_6 mz_fn)))) (by decide +kernel)) ggX7_turn_X2_part
theorem mz_i_wsX7_turn_27 : (.code yX2_canJoin cX2_canJoin 3 (some .boolean) : Cond) ∈ wsX7_turn := mz_mt (mz_ml (mz_ml (mz_ml (mz_mr (mz_ml (mz_mt (mz_mt mz_mh)))))))
theorem mz_i_wsX7_turn_40 : (.methodLink RX2 48 yX2_withAllBelow : Cond) ∈ wsX7_turn := mz_mt (mz_ml (mz_ml (mz_ml (mz_mr (mz_ml (mz_mt (mz_mt (mz_mt (mz_mt (mz_mt (mz_mt (mz_mt (mz_mt (mz_mt (mz_mt (mz_mt (mz_mt (mz_mt (mz_mt (mz_mt mz_mh))))))))))))))))))))
theorem mz_i_wsX7_turn_39 : (.code yX2_childrenOf cX2_childrenOf 2 (some .int) : Cond) ∈ wsX7_turn := mz_mt (mz_ml (mz_ml (mz_ml (mz_mr (mz_ml (mz_mt (mz_mt (mz_mt (mz_mt (mz_mt (mz_mt (mz_mt (mz_mt (mz_mt (mz_mt (mz_mt (mz_mt (mz_mt (mz_mt mz_mh)))))))))))))))))))
theorem mz_i_wsX7_turn_38 : (.selects RX2 yX2_childrenOf yX2_childrenOf : Cond) ∈ wsX7_turn := mz_mt (mz_ml (mz_ml (mz_ml (mz_mr (mz_ml (mz_mt (mz_mt (mz_mt (mz_mt (mz_mt (mz_mt (mz_mt (mz_mt (mz_mt (mz_mt (mz_mt (mz_mt (mz_mt mz_mh))))))))))))))))))
theorem mz_i_wsX7_turn_37 : (.instanceMethod yX2_childrenOf : Cond) ∈ wsX7_turn := mz_mt (mz_ml (mz_ml (mz_ml (mz_mr (mz_ml (mz_mt (mz_mt (mz_mt (mz_mt (mz_mt (mz_mt (mz_mt (mz_mt (mz_mt (mz_mt (mz_mt (mz_mt mz_mh)))))))))))))))))
theorem mz_i_wsX7_turn_36 : (.methodLink RX2 45 yX2_childrenOf : Cond) ∈ wsX7_turn := mz_mt (mz_ml (mz_ml (mz_ml (mz_mr (mz_ml (mz_mt (mz_mt (mz_mt (mz_mt (mz_mt (mz_mt (mz_mt (mz_mt (mz_mt (mz_mt (mz_mt mz_mh))))))))))))))))
theorem mz_i_wsX7_turn_35 : (.code yX2_allBelow cX2_allBelow 2 (some .int) : Cond) ∈ wsX7_turn := mz_mt (mz_ml (mz_ml (mz_ml (mz_mr (mz_ml (mz_mt (mz_mt (mz_mt (mz_mt (mz_mt (mz_mt (mz_mt (mz_mt (mz_mt (mz_mt mz_mh)))))))))))))))
theorem mz_i_wsX7_turn_34 : (.selects RX2 yX2_allBelow yX2_allBelow : Cond) ∈ wsX7_turn := mz_mt (mz_ml (mz_ml (mz_ml (mz_mr (mz_ml (mz_mt (mz_mt (mz_mt (mz_mt (mz_mt (mz_mt (mz_mt (mz_mt (mz_mt mz_mh))))))))))))))
theorem mz_i_wsX7_turn_33 : (.instanceMethod yX2_allBelow : Cond) ∈ wsX7_turn := mz_mt (mz_ml (mz_ml (mz_ml (mz_mr (mz_ml (mz_mt (mz_mt (mz_mt (mz_mt (mz_mt (mz_mt (mz_mt (mz_mt mz_mh)))))))))))))
theorem mz_i_wsX7_turn_32 : (.methodLink RX2 34 yX2_allBelow : Cond) ∈ wsX7_turn := mz_mt (mz_ml (mz_ml (mz_ml (mz_mr (mz_ml (mz_mt (mz_mt (mz_mt (mz_mt (mz_mt (mz_mt (mz_mt mz_mh))))))))))))
theorem mz_i_wsX7_turn_31 : (.code yX2_joinedTo cX2_joinedTo 2 (some .int) : Cond) ∈ wsX7_turn := mz_mt (mz_ml (mz_ml (mz_ml (mz_mr (mz_ml (mz_mt (mz_mt (mz_mt (mz_mt (mz_mt (mz_mt mz_mh)))))))))))
theorem mz_i_wsX7_turn_30 : (.selects RX2 yX2_joinedTo yX2_joinedTo : Cond) ∈ wsX7_turn := mz_mt (mz_ml (mz_ml (mz_ml (mz_mr (mz_ml (mz_mt (mz_mt (mz_mt (mz_mt (mz_mt mz_mh))))))))))
theorem mz_i_wsX7_turn_29 : (.instanceMethod yX2_joinedTo : Cond) ∈ wsX7_turn := mz_mt (mz_ml (mz_ml (mz_ml (mz_mr (mz_ml (mz_mt (mz_mt (mz_mt (mz_mt mz_mh)))))))))
theorem mz_i_wsX7_turn_28 : (.methodLink RX2 30 yX2_joinedTo : Cond) ∈ wsX7_turn := mz_mt (mz_ml (mz_ml (mz_ml (mz_mr (mz_ml (mz_mt (mz_mt (mz_mt mz_mh))))))))
theorem mz_i_wsX7_turn_50 : (.code yX2_gather cX2_gather 4 (some .int) : Cond) ∈ wsX7_turn := mz_mt (mz_ml (mz_ml (mz_ml (mz_mr (mz_mr (mz_mt mz_mh))))))
theorem mz_i_wsX7_turn_49 : (.static yX2_gather : Cond) ∈ wsX7_turn := mz_mt (mz_ml (mz_ml (mz_ml (mz_mr (mz_mr mz_mh)))))
theorem mz_i_wsX7_turn_48 : (.methodLink RX2 55 yX2_gather : Cond) ∈ wsX7_turn := mz_mt (mz_ml (mz_ml (mz_ml (mz_mr (mz_ml (mz_mt (mz_mt (mz_mt (mz_mt (mz_mt (mz_mt (mz_mt (mz_mt (mz_mt (mz_mt (mz_mt (mz_mt (mz_mt (mz_mt (mz_mt (mz_mt (mz_mt (mz_mt (mz_mt (mz_mt (mz_mt (mz_mt (mz_mt mz_mh))))))))))))))))))))))))))))
theorem mz_i_wsX7_turn_47 : (.code yX2_spread cX2_spread 6 (some .int) : Cond) ∈ wsX7_turn := mz_mt (mz_ml (mz_ml (mz_ml (mz_mr (mz_ml (mz_mt (mz_mt (mz_mt (mz_mt (mz_mt (mz_mt (mz_mt (mz_mt (mz_mt (mz_mt (mz_mt (mz_mt (mz_mt (mz_mt (mz_mt (mz_mt (mz_mt (mz_mt (mz_mt (mz_mt (mz_mt (mz_mt mz_mh)))))))))))))))))))))))))))
theorem mz_i_wsX7_turn_46 : (.selects RX2 yX2_spread yX2_spread : Cond) ∈ wsX7_turn := mz_mt (mz_ml (mz_ml (mz_ml (mz_mr (mz_ml (mz_mt (mz_mt (mz_mt (mz_mt (mz_mt (mz_mt (mz_mt (mz_mt (mz_mt (mz_mt (mz_mt (mz_mt (mz_mt (mz_mt (mz_mt (mz_mt (mz_mt (mz_mt (mz_mt (mz_mt (mz_mt mz_mh))))))))))))))))))))))))))
theorem mz_i_wsX7_turn_45 : (.instanceMethod yX2_spread : Cond) ∈ wsX7_turn := mz_mt (mz_ml (mz_ml (mz_ml (mz_mr (mz_ml (mz_mt (mz_mt (mz_mt (mz_mt (mz_mt (mz_mt (mz_mt (mz_mt (mz_mt (mz_mt (mz_mt (mz_mt (mz_mt (mz_mt (mz_mt (mz_mt (mz_mt (mz_mt (mz_mt (mz_mt mz_mh)))))))))))))))))))))))))
theorem mz_i_wsX7_turn_44 : (.methodLink RX2 51 yX2_spread : Cond) ∈ wsX7_turn := mz_mt (mz_ml (mz_ml (mz_ml (mz_mr (mz_ml (mz_mt (mz_mt (mz_mt (mz_mt (mz_mt (mz_mt (mz_mt (mz_mt (mz_mt (mz_mt (mz_mt (mz_mt (mz_mt (mz_mt (mz_mt (mz_mt (mz_mt (mz_mt (mz_mt mz_mh))))))))))))))))))))))))
theorem mz_i_wsX7_turn_43 : (.code yX2_withAllBelow cX2_withAllBelow 2 (some .int) : Cond) ∈ wsX7_turn := mz_mt (mz_ml (mz_ml (mz_ml (mz_mr (mz_ml (mz_mt (mz_mt (mz_mt (mz_mt (mz_mt (mz_mt (mz_mt (mz_mt (mz_mt (mz_mt (mz_mt (mz_mt (mz_mt (mz_mt (mz_mt (mz_mt (mz_mt (mz_mt mz_mh)))))))))))))))))))))))
theorem mz_i_wsX7_turn_42 : (.selects RX2 yX2_withAllBelow yX2_withAllBelow : Cond) ∈ wsX7_turn := mz_mt (mz_ml (mz_ml (mz_ml (mz_mr (mz_ml (mz_mt (mz_mt (mz_mt (mz_mt (mz_mt (mz_mt (mz_mt (mz_mt (mz_mt (mz_mt (mz_mt (mz_mt (mz_mt (mz_mt (mz_mt (mz_mt (mz_mt mz_mh))))))))))))))))))))))
theorem mz_i_wsX7_turn_41 : (.instanceMethod yX2_withAllBelow : Cond) ∈ wsX7_turn := mz_mt (mz_ml (mz_ml (mz_ml (mz_mr (mz_ml (mz_mt (mz_mt (mz_mt (mz_mt (mz_mt (mz_mt (mz_mt (mz_mt (mz_mt (mz_mt (mz_mt (mz_mt (mz_mt (mz_mt (mz_mt (mz_mt mz_mh)))))))))))))))))))))
set_option maxRecDepth 20000 in
theorem ggX7_turn_X2_canJoin : GoodIn wsX7_turn wsX2_canJoin := goodIn_sub (mz_fc mz_i_wsX7_turn_27 (mz_fa (mz_fa (mz_fc mz_i_wsX7_turn_28 (mz_fc mz_i_wsX7_turn_29 (mz_fc mz_i_wsX7_turn_30 (mz_fc mz_i_wsX7_turn_6 (mz_fc mz_i_wsX7_turn_31 (mz_fc mz_i_wsX7_turn_21 (mz_fc mz_i_wsX7_turn_8 (mz_fc mz_i_wsX7_turn_9 (mz_fc mz_i_wsX7_turn_10 (mz_fc mz_i_wsX7_turn_11 (mz_fc mz_i_wsX7_turn_12 (mz_fc mz_i_wsX7_turn_13 (mz_fc mz_i_wsX7_turn_14 (mz_fc mz_i_wsX7_turn_15 (mz_fc mz_i_wsX7_turn_16 (mz_fc mz_i_wsX7_turn_32 (mz_fc mz_i_wsX7_turn_33 (mz_fc mz_i_wsX7_turn_34 (mz_fc mz_i_wsX7_turn_35 (mz_fc mz_i_wsX7_turn_36 (mz_fc mz_i_wsX7_turn_37 (mz_fc mz_i_wsX7_turn_38 (mz_fc mz_i_wsX7_turn_39 (mz_fc mz_i_wsX7_turn_40 mz_fn)))))))))))))))))))))))) (mz_fc mz_i_wsX7_turn_41 (mz_fc mz_i_wsX7_turn_42 (mz_fc mz_i_wsX7_turn_43 (mz_fc mz_i_wsX7_turn_44 (mz_fc mz_i_wsX7_turn_45 (mz_fc mz_i_wsX7_turn_46 (mz_fc mz_i_wsX7_turn_47 (mz_fc mz_i_wsX7_turn_48 (mz_fc mz_i_wsX7_turn_49 (mz_fc mz_i_wsX7_turn_50 mz_fn))))))))))) (mz_f_wsX7_turn_wsX20))) (by decide +kernel)
theorem mz_i_wsX7_turn_26 : (.selects RX2 yX2_canJoin yX2_canJoin : Cond) ∈ wsX7_turn := mz_mt (mz_ml (mz_ml (mz_ml (mz_mr (mz_ml (mz_mt mz_mh))))))
theorem mz_i_wsX7_turn_25 : (.instanceMethod yX2_canJoin : Cond) ∈ wsX7_turn := mz_mt (mz_ml (mz_ml (mz_ml (mz_mr (mz_ml mz_mh)))))
theorem mz_i_wsX7_turn_24 : (.methodLink RX7 81 yX2_canJoin : Cond) ∈ wsX7_turn := mz_mt (mz_ml (mz_ml (mz_ml (mz_ml (mz_mt (mz_mt (mz_mt (mz_mt (mz_mt (mz_mt (mz_mt (mz_mt (mz_mt (mz_mt (mz_mt (mz_mt (mz_mt (mz_mt (mz_mt (mz_mt (mz_mt (mz_mt (mz_mt (mz_mt (mz_mt (mz_mt (mz_mt mz_mh)))))))))))))))))))))))))))
set_option maxRecDepth 20000 in
theorem gX7_turn_X2_canJoin : GoodIn wsX7_turn (wsV RX7 81 RX2 yX2_canJoin wsX2_canJoin) := goodIn_app (goodIn_sub (mz_fc mz_i_wsX7_turn_24 (mz_fc mz_i_wsX7_turn_25 (mz_fc mz_i_wsX7_turn_26 (mz_fc mz_i_wsX7_turn_6 mz_fn)))) (by decide +kernel)) ggX7_turn_X2_canJoin
theorem mz_i_wsX7_turn_54 : (.code yX2_join cX2_join 3 none : Cond) ∈ wsX7_turn := mz_mt (mz_ml (mz_ml (mz_ml (mz_mr (mz_mr (mz_mt (mz_mt (mz_mt (mz_mt (mz_mt mz_mh))))))))))
set_option maxRecDepth 20000 in
theorem ggX7_turn_X2_join : GoodIn wsX7_turn wsX2_join := goodIn_sub (mz_fc mz_i_wsX7_turn_54 (mz_fa (mz_fc mz_i_wsX7_turn_8 (mz_fc mz_i_wsX7_turn_21 (mz_fc mz_i_wsX7_turn_9 (mz_fc mz_i_wsX7_turn_10 (mz_fc mz_i_wsX7_turn_11 (mz_fc mz_i_wsX7_turn_6 (mz_fc mz_i_wsX7_turn_12 (mz_fc mz_i_wsX7_turn_13 (mz_fc mz_i_wsX7_turn_22 (mz_fc mz_i_wsX7_turn_15 (mz_fc mz_i_wsX7_turn_23 mz_fn))))))))))) (mz_f_wsX7_turn_wsX20))) (by decide +kernel)
theorem mz_i_wsX7_turn_53 : (.selects RX2 yX2_join yX2_join : Cond) ∈ wsX7_turn := mz_mt (mz_ml (mz_ml (mz_ml (mz_mr (mz_mr (mz_mt (mz_mt (mz_mt (mz_mt mz_mh)))))))))
theorem mz_i_wsX7_turn_52 : (.instanceMethod yX2_join : Cond) ∈ wsX7_turn := mz_mt (mz_ml (mz_ml (mz_ml (mz_mr (mz_mr (mz_mt (mz_mt (mz_mt mz_mh))))))))
theorem mz_i_wsX7_turn_51 : (.methodLink RX7 85 yX2_join : Cond) ∈ wsX7_turn := mz_mt (mz_ml (mz_ml (mz_ml (mz_mr (mz_mr (mz_mt (mz_mt mz_mh)))))))
set_option maxRecDepth 20000 in
theorem gX7_turn_X2_join : GoodIn wsX7_turn (wsV RX7 85 RX2 yX2_join wsX2_join) := goodIn_app (goodIn_sub (mz_fc mz_i_wsX7_turn_51 (mz_fc mz_i_wsX7_turn_52 (mz_fc mz_i_wsX7_turn_53 (mz_fc mz_i_wsX7_turn_6 mz_fn)))) (by decide +kernel)) ggX7_turn_X2_join
theorem mz_i_wsX7_turn_59 : (.code yX1_blank cX1_blank 3 none : Cond) ∈ wsX7_turn := mz_mt (mz_ml (mz_ml (mz_ml (mz_mr (mz_mr (mz_mt (mz_mt (mz_mt (mz_mt (mz_mt (mz_mt (mz_mt (mz_mt (mz_mt (mz_mt mz_mh)))))))))))))))
theorem mz_i_wsX7_turn_60 : (.fieldLink RX1 9 "MadeItSo$Books" "parts" "[I" : Cond) ∈ wsX7_turn := mz_mt (mz_ml (mz_ml (mz_ml (mz_mr (mz_mr (mz_mt (mz_mt (mz_mt (mz_mt (mz_mt (mz_mt (mz_mt (mz_mt (mz_mt (mz_mt (mz_mt mz_mh))))))))))))))))
theorem mz_f_wsX7_turn_wsX10 : ∀ w ∈ wsX10, w ∈ wsX7_turn := fun _ h => mz_mt (mz_mr h)
set_option maxRecDepth 20000 in
theorem ggX7_turn_X1_blank : GoodIn wsX7_turn wsX1_blank := goodIn_sub (mz_fc mz_i_wsX7_turn_59 (mz_fa (mz_fc mz_i_wsX7_turn_60 mz_fn) (mz_f_wsX7_turn_wsX10))) (by decide +kernel)
theorem mz_i_wsX7_turn_58 : (.initialized RX1 : Cond) ∈ wsX7_turn := mz_mt (mz_ml (mz_ml (mz_ml (mz_mr (mz_mr (mz_mt (mz_mt (mz_mt (mz_mt (mz_mt (mz_mt (mz_mt (mz_mt (mz_mt mz_mh))))))))))))))
theorem mz_i_wsX7_turn_57 : (.selects RX1 yX1_blank yX1_blank : Cond) ∈ wsX7_turn := mz_mt (mz_ml (mz_ml (mz_ml (mz_mr (mz_mr (mz_mt (mz_mt (mz_mt (mz_mt (mz_mt (mz_mt (mz_mt (mz_mt mz_mh)))))))))))))
theorem mz_i_wsX7_turn_56 : (.instanceMethod yX1_blank : Cond) ∈ wsX7_turn := mz_mt (mz_ml (mz_ml (mz_ml (mz_mr (mz_mr (mz_mt (mz_mt (mz_mt (mz_mt (mz_mt (mz_mt (mz_mt mz_mh))))))))))))
theorem mz_i_wsX7_turn_55 : (.methodLink RX7 69 yX1_blank : Cond) ∈ wsX7_turn := mz_mt (mz_ml (mz_ml (mz_ml (mz_mr (mz_mr (mz_mt (mz_mt (mz_mt (mz_mt (mz_mt (mz_mt mz_mh)))))))))))
set_option maxRecDepth 20000 in
theorem gX7_turn_X1_blank : GoodIn wsX7_turn (wsV RX7 69 RX1 yX1_blank wsX1_blank) := goodIn_app (goodIn_sub (mz_fc mz_i_wsX7_turn_55 (mz_fc mz_i_wsX7_turn_56 (mz_fc mz_i_wsX7_turn_57 (mz_fc mz_i_wsX7_turn_58 mz_fn)))) (by decide +kernel)) ggX7_turn_X1_blank
theorem dX7_turn_0 : decode cX7_turn 0 = .ok (.aload_n 0, 1) := by decide +kernel
theorem dX7_turn_1 : decode cX7_turn 1 = .ok (.getfield 12, 3) := by decide +kernel
theorem dX7_turn_4 : decode cX7_turn 4 = .ok (.iload_n 1, 1) := by decide +kernel
theorem dX7_turn_5 : decode cX7_turn 5 = .ok (.iload_n 2, 1) := by decide +kernel
theorem dX7_turn_6 : decode cX7_turn 6 = .ok (.invokevirtual 89, 3) := by decide +kernel
theorem dX7_turn_9 : decode cX7_turn 9 = .ok (.ifCond .ne 5, 3) := by decide +kernel
theorem dX7_turn_12 : decode cX7_turn 12 = .ok (.iconst 0, 1) := by decide +kernel
theorem dX7_turn_13 : decode cX7_turn 13 = .ok (.ireturn, 1) := by decide +kernel
theorem dX7_turn_14 : decode cX7_turn 14 = .ok (.aload_n 0, 1) := by decide +kernel
theorem dX7_turn_15 : decode cX7_turn 15 = .ok (.getfield 12, 3) := by decide +kernel
theorem dX7_turn_18 : decode cX7_turn 18 = .ok (.iload_n 1, 1) := by decide +kernel
theorem dX7_turn_19 : decode cX7_turn 19 = .ok (.iload_n 2, 1) := by decide +kernel
theorem dX7_turn_20 : decode cX7_turn 20 = .ok (.invokevirtual 92, 3) := by decide +kernel
theorem dX7_turn_23 : decode cX7_turn 23 = .ok (.aload_n 0, 1) := by decide +kernel
theorem dX7_turn_24 : decode cX7_turn 24 = .ok (.getfield 12, 3) := by decide +kernel
theorem dX7_turn_27 : decode cX7_turn 27 = .ok (.iload_n 2, 1) := by decide +kernel
theorem dX7_turn_28 : decode cX7_turn 28 = .ok (.iload_n 1, 1) := by decide +kernel
theorem dX7_turn_29 : decode cX7_turn 29 = .ok (.invokevirtual 81, 3) := by decide +kernel
theorem dX7_turn_32 : decode cX7_turn 32 = .ok (.ifCond .ne 14, 3) := by decide +kernel
theorem dX7_turn_35 : decode cX7_turn 35 = .ok (.aload_n 0, 1) := by decide +kernel
theorem dX7_turn_36 : decode cX7_turn 36 = .ok (.getfield 12, 3) := by decide +kernel
theorem dX7_turn_39 : decode cX7_turn 39 = .ok (.iload_n 1, 1) := by decide +kernel
theorem dX7_turn_40 : decode cX7_turn 40 = .ok (.iload_n 2, 1) := by decide +kernel
theorem dX7_turn_41 : decode cX7_turn 41 = .ok (.invokevirtual 85, 3) := by decide +kernel
theorem dX7_turn_44 : decode cX7_turn 44 = .ok (.iconst 0, 1) := by decide +kernel
theorem dX7_turn_45 : decode cX7_turn 45 = .ok (.ireturn, 1) := by decide +kernel
theorem dX7_turn_46 : decode cX7_turn 46 = .ok (.aload_n 0, 1) := by decide +kernel
theorem dX7_turn_47 : decode cX7_turn 47 = .ok (.getfield 12, 3) := by decide +kernel
theorem dX7_turn_50 : decode cX7_turn 50 = .ok (.iload_n 2, 1) := by decide +kernel
theorem dX7_turn_51 : decode cX7_turn 51 = .ok (.iload_n 1, 1) := by decide +kernel
theorem dX7_turn_52 : decode cX7_turn 52 = .ok (.invokevirtual 85, 3) := by decide +kernel
theorem dX7_turn_55 : decode cX7_turn 55 = .ok (.aload_n 0, 1) := by decide +kernel
theorem dX7_turn_56 : decode cX7_turn 56 = .ok (.getfield 22, 3) := by decide +kernel
theorem dX7_turn_59 : decode cX7_turn 59 = .ok (.iload_n 1, 1) := by decide +kernel
theorem dX7_turn_60 : decode cX7_turn 60 = .ok (.invokevirtual 69, 3) := by decide +kernel
theorem dX7_turn_63 : decode cX7_turn 63 = .ok (.aload_n 0, 1) := by decide +kernel
theorem dX7_turn_64 : decode cX7_turn 64 = .ok (.getfield 22, 3) := by decide +kernel
theorem dX7_turn_67 : decode cX7_turn 67 = .ok (.iload_n 2, 1) := by decide +kernel
theorem dX7_turn_68 : decode cX7_turn 68 = .ok (.invokevirtual 69, 3) := by decide +kernel
theorem dX7_turn_71 : decode cX7_turn 71 = .ok (.iconst 1, 1) := by decide +kernel
theorem dX7_turn_72 : decode cX7_turn 72 = .ok (.ireturn, 1) := by decide +kernel
theorem mz_i_wsX7_book_6 : (.code yX7_hasRow cX7_hasRow 3 (some .boolean) : Cond) ∈ wsX7_book := mz_mt (mz_ml (mz_ml (mz_ml (mz_ml (mz_mt (mz_mt (mz_mt (mz_mt (mz_mt mz_mh)))))))))
theorem mz_i_wsX7_book_29 : (.constant RJ6 267 (252645135) : Cond) ∈ wsX7_book := mz_mt (mz_ml (mz_ml (mz_ml (mz_mr (mz_mt (mz_mt (mz_mt (mz_mt mz_mh))))))))
theorem mz_i_wsX7_book_28 : (.constant RJ6 266 (858993459) : Cond) ∈ wsX7_book := mz_mt (mz_ml (mz_ml (mz_ml (mz_mr (mz_mt (mz_mt (mz_mt mz_mh)))))))
theorem mz_i_wsX7_book_27 : (.constant RJ6 265 (1431655765) : Cond) ∈ wsX7_book := mz_mt (mz_ml (mz_ml (mz_ml (mz_mr (mz_mt (mz_mt mz_mh))))))
theorem mz_i_wsX7_book_26 : (.code yJ6_bitCount_0f7a4 cJ6_bitCount_0f7a4 1 (some .int) : Cond) ∈ wsX7_book := mz_mt (mz_ml (mz_ml (mz_ml (mz_mr (mz_mt mz_mh)))))
theorem mz_i_wsX7_book_25 : (.initialized RJ6 : Cond) ∈ wsX7_book := mz_mt (mz_ml (mz_ml (mz_ml (mz_mr mz_mh))))
theorem mz_i_wsX7_book_24 : (.static yJ6_bitCount_0f7a4 : Cond) ∈ wsX7_book := mz_mt (mz_ml (mz_ml (mz_ml (mz_ml (mz_mt (mz_mt (mz_mt (mz_mt (mz_mt (mz_mt (mz_mt (mz_mt (mz_mt (mz_mt (mz_mt (mz_mt (mz_mt (mz_mt (mz_mt (mz_mt (mz_mt (mz_mt (mz_mt (mz_mt (mz_mt (mz_mt (mz_mt mz_mh)))))))))))))))))))))))))))
theorem mz_i_wsX7_book_23 : (.methodLink RX7 239 yJ6_bitCount_0f7a4 : Cond) ∈ wsX7_book := mz_mt (mz_ml (mz_ml (mz_ml (mz_ml (mz_mt (mz_mt (mz_mt (mz_mt (mz_mt (mz_mt (mz_mt (mz_mt (mz_mt (mz_mt (mz_mt (mz_mt (mz_mt (mz_mt (mz_mt (mz_mt (mz_mt (mz_mt (mz_mt (mz_mt (mz_mt (mz_mt mz_mh))))))))))))))))))))))))))
theorem mz_i_wsX7_book_22 : (.code yX7_partsOf cX7_partsOf 1 (some .int) : Cond) ∈ wsX7_book := mz_mt (mz_ml (mz_ml (mz_ml (mz_ml (mz_mt (mz_mt (mz_mt (mz_mt (mz_mt (mz_mt (mz_mt (mz_mt (mz_mt (mz_mt (mz_mt (mz_mt (mz_mt (mz_mt (mz_mt (mz_mt (mz_mt (mz_mt (mz_mt (mz_mt (mz_mt mz_mh)))))))))))))))))))))))))
theorem mz_i_wsX7_book_5 : (.initialized RX7 : Cond) ∈ wsX7_book := mz_mt (mz_ml (mz_ml (mz_ml (mz_ml (mz_mt (mz_mt (mz_mt (mz_mt mz_mh))))))))
theorem mz_i_wsX7_book_21 : (.static yX7_partsOf : Cond) ∈ wsX7_book := mz_mt (mz_ml (mz_ml (mz_ml (mz_ml (mz_mt (mz_mt (mz_mt (mz_mt (mz_mt (mz_mt (mz_mt (mz_mt (mz_mt (mz_mt (mz_mt (mz_mt (mz_mt (mz_mt (mz_mt (mz_mt (mz_mt (mz_mt (mz_mt (mz_mt mz_mh))))))))))))))))))))))))
theorem mz_i_wsX7_book_20 : (.methodLink RX7 220 yX7_partsOf : Cond) ∈ wsX7_book := mz_mt (mz_ml (mz_ml (mz_ml (mz_ml (mz_mt (mz_mt (mz_mt (mz_mt (mz_mt (mz_mt (mz_mt (mz_mt (mz_mt (mz_mt (mz_mt (mz_mt (mz_mt (mz_mt (mz_mt (mz_mt (mz_mt (mz_mt (mz_mt mz_mh)))))))))))))))))))))))
theorem mz_i_wsX7_book_19 : (.methodLink RX2 22 yX2_has : Cond) ∈ wsX7_book := mz_mt (mz_ml (mz_ml (mz_ml (mz_ml (mz_mt (mz_mt (mz_mt (mz_mt (mz_mt (mz_mt (mz_mt (mz_mt (mz_mt (mz_mt (mz_mt (mz_mt (mz_mt (mz_mt (mz_mt (mz_mt (mz_mt (mz_mt mz_mh))))))))))))))))))))))
theorem mz_i_wsX7_book_18 : (.fieldLink RX2 9 "MadeItSo$Drawing" "parents" "[I" : Cond) ∈ wsX7_book := mz_mt (mz_ml (mz_ml (mz_ml (mz_ml (mz_mt (mz_mt (mz_mt (mz_mt (mz_mt (mz_mt (mz_mt (mz_mt (mz_mt (mz_mt (mz_mt (mz_mt (mz_mt (mz_mt (mz_mt (mz_mt (mz_mt mz_mh)))))))))))))))))))))
theorem mz_i_wsX7_book_17 : (.code yX2_parentsOf cX2_parentsOf 2 (some .int) : Cond) ∈ wsX7_book := mz_mt (mz_ml (mz_ml (mz_ml (mz_ml (mz_mt (mz_mt (mz_mt (mz_mt (mz_mt (mz_mt (mz_mt (mz_mt (mz_mt (mz_mt (mz_mt (mz_mt (mz_mt (mz_mt (mz_mt (mz_mt mz_mh))))))))))))))))))))
theorem mz_i_wsX7_book_16 : (.selects RX2 yX2_parentsOf yX2_parentsOf : Cond) ∈ wsX7_book := mz_mt (mz_ml (mz_ml (mz_ml (mz_ml (mz_mt (mz_mt (mz_mt (mz_mt (mz_mt (mz_mt (mz_mt (mz_mt (mz_mt (mz_mt (mz_mt (mz_mt (mz_mt (mz_mt (mz_mt mz_mh)))))))))))))))))))
theorem mz_i_wsX7_book_15 : (.instanceMethod yX2_parentsOf : Cond) ∈ wsX7_book := mz_mt (mz_ml (mz_ml (mz_ml (mz_ml (mz_mt (mz_mt (mz_mt (mz_mt (mz_mt (mz_mt (mz_mt (mz_mt (mz_mt (mz_mt (mz_mt (mz_mt (mz_mt (mz_mt mz_mh))))))))))))))))))
theorem mz_i_wsX7_book_14 : (.methodLink RX7 109 yX2_parentsOf : Cond) ∈ wsX7_book := mz_mt (mz_ml (mz_ml (mz_ml (mz_ml (mz_mt (mz_mt (mz_mt (mz_mt (mz_mt (mz_mt (mz_mt (mz_mt (mz_mt (mz_mt (mz_mt (mz_mt (mz_mt mz_mh)))))))))))))))))
theorem mz_i_wsX7_book_13 : (.fieldLink RX2 18 "MadeItSo$Drawing" "things" "I" : Cond) ∈ wsX7_book := mz_mt (mz_ml (mz_ml (mz_ml (mz_ml (mz_mt (mz_mt (mz_mt (mz_mt (mz_mt (mz_mt (mz_mt (mz_mt (mz_mt (mz_mt (mz_mt (mz_mt mz_mh))))))))))))))))
theorem mz_i_wsX7_book_12 : (.code yX2_has cX2_has 2 (some .boolean) : Cond) ∈ wsX7_book := mz_mt (mz_ml (mz_ml (mz_ml (mz_ml (mz_mt (mz_mt (mz_mt (mz_mt (mz_mt (mz_mt (mz_mt (mz_mt (mz_mt (mz_mt (mz_mt mz_mh)))))))))))))))
theorem mz_i_wsX7_book_11 : (.initialized RX2 : Cond) ∈ wsX7_book := mz_mt (mz_ml (mz_ml (mz_ml (mz_ml (mz_mt (mz_mt (mz_mt (mz_mt (mz_mt (mz_mt (mz_mt (mz_mt (mz_mt (mz_mt mz_mh))))))))))))))
theorem mz_i_wsX7_book_10 : (.selects RX2 yX2_has yX2_has : Cond) ∈ wsX7_book := mz_mt (mz_ml (mz_ml (mz_ml (mz_ml (mz_mt (mz_mt (mz_mt (mz_mt (mz_mt (mz_mt (mz_mt (mz_mt (mz_mt mz_mh)))))))))))))
theorem mz_i_wsX7_book_9 : (.instanceMethod yX2_has : Cond) ∈ wsX7_book := mz_mt (mz_ml (mz_ml (mz_ml (mz_ml (mz_mt (mz_mt (mz_mt (mz_mt (mz_mt (mz_mt (mz_mt (mz_mt mz_mh))))))))))))
theorem mz_i_wsX7_book_8 : (.methodLink RX7 77 yX2_has : Cond) ∈ wsX7_book := mz_mt (mz_ml (mz_ml (mz_ml (mz_ml (mz_mt (mz_mt (mz_mt (mz_mt (mz_mt (mz_mt (mz_mt mz_mh)))))))))))
theorem mz_i_wsX7_book_7 : (.fieldLink RX7 12 "MadeItSo" "drawing" "LMadeItSo$Drawing;" : Cond) ∈ wsX7_book := mz_mt (mz_ml (mz_ml (mz_ml (mz_ml (mz_mt (mz_mt (mz_mt (mz_mt (mz_mt (mz_mt mz_mh))))))))))
theorem mz_f_wsX7_book_wsX70 : ∀ w ∈ wsX70, w ∈ wsX7_book := fun _ h => mz_mt (mz_ml (mz_ml (mz_mr h)))
theorem mz_f_wsX7_book_wsX20 : ∀ w ∈ wsX20, w ∈ wsX7_book := fun _ h => mz_mt (mz_ml (mz_mr h))
set_option maxRecDepth 20000 in
theorem ggX7_book_X7_hasRow : GoodIn wsX7_book wsX7_hasRow := goodIn_sub (mz_fc mz_i_wsX7_book_6 (mz_fa (mz_fa (mz_fc mz_i_wsX7_book_7 (mz_fc mz_i_wsX7_book_8 (mz_fc mz_i_wsX7_book_9 (mz_fc mz_i_wsX7_book_10 (mz_fc mz_i_wsX7_book_11 (mz_fc mz_i_wsX7_book_12 (mz_fc mz_i_wsX7_book_13 (mz_fc mz_i_wsX7_book_14 (mz_fc mz_i_wsX7_book_15 (mz_fc mz_i_wsX7_book_16 (mz_fc mz_i_wsX7_book_17 (mz_fc mz_i_wsX7_book_18 (mz_fc mz_i_wsX7_book_19 (mz_fc mz_i_wsX7_book_20 (mz_fc mz_i_wsX7_book_21 (mz_fc mz_i_wsX7_book_5 (mz_fc mz_i_wsX7_book_22 (mz_fc mz_i_wsX7_book_23 (mz_fc mz_i_wsX7_book_24 (mz_fc mz_i_wsX7_book_25 (mz_fc mz_i_wsX7_book_26 (mz_fc mz_i_wsX7_book_27 (mz_fc mz_i_wsX7_book_28 (mz_fc mz_i_wsX7_book_29 mz_fn)))))))))))))))))))))))) (mz_f_wsX7_book_wsX70)) (mz_f_wsX7_book_wsX20))) (by decide +kernel)
theorem mz_i_wsX7_book_4 : (.selects RX7 yX7_hasRow yX7_hasRow : Cond) ∈ wsX7_book := mz_mt (mz_ml (mz_ml (mz_ml (mz_ml (mz_mt (mz_mt (mz_mt mz_mh)))))))
theorem mz_i_wsX7_book_3 : (.instanceMethod yX7_hasRow : Cond) ∈ wsX7_book := mz_mt (mz_ml (mz_ml (mz_ml (mz_ml (mz_mt (mz_mt mz_mh))))))
theorem mz_i_wsX7_book_2 : (.methodLink RX7 95 yX7_hasRow : Cond) ∈ wsX7_book := mz_mt (mz_ml (mz_ml (mz_ml (mz_ml (mz_mt mz_mh)))))
set_option maxRecDepth 20000 in
theorem gX7_book_X7_hasRow : GoodIn wsX7_book (wsV RX7 95 RX7 yX7_hasRow wsX7_hasRow) := goodIn_app (goodIn_sub (mz_fc mz_i_wsX7_book_2 (mz_fc mz_i_wsX7_book_3 (mz_fc mz_i_wsX7_book_4 (mz_fc mz_i_wsX7_book_5 mz_fn)))) (by decide +kernel)) ggX7_book_X7_hasRow
theorem mz_i_wsX7_book_34 : (.code yX1_write cX1_write 4 none : Cond) ∈ wsX7_book := mz_mt (mz_ml (mz_ml (mz_ml (mz_mr (mz_mt (mz_mt (mz_mt (mz_mt (mz_mt (mz_mt (mz_mt (mz_mt (mz_mt mz_mh)))))))))))))
theorem mz_i_wsX7_book_38 : (.code yX1_isPlace cX1_isPlace 2 (some .boolean) : Cond) ∈ wsX7_book := mz_mt (mz_ml (mz_ml (mz_ml (mz_mr (mz_mt (mz_mt (mz_mt (mz_mt (mz_mt (mz_mt (mz_mt (mz_mt (mz_mt (mz_mt (mz_mt (mz_mt (mz_mt mz_mh)))))))))))))))))
theorem mz_i_wsX7_book_33 : (.initialized RX1 : Cond) ∈ wsX7_book := mz_mt (mz_ml (mz_ml (mz_ml (mz_mr (mz_mt (mz_mt (mz_mt (mz_mt (mz_mt (mz_mt (mz_mt (mz_mt mz_mh))))))))))))
theorem mz_i_wsX7_book_37 : (.static yX1_isPlace : Cond) ∈ wsX7_book := mz_mt (mz_ml (mz_ml (mz_ml (mz_mr (mz_mt (mz_mt (mz_mt (mz_mt (mz_mt (mz_mt (mz_mt (mz_mt (mz_mt (mz_mt (mz_mt (mz_mt mz_mh))))))))))))))))
theorem mz_i_wsX7_book_36 : (.methodLink RX1 15 yX1_isPlace : Cond) ∈ wsX7_book := mz_mt (mz_ml (mz_ml (mz_ml (mz_mr (mz_mt (mz_mt (mz_mt (mz_mt (mz_mt (mz_mt (mz_mt (mz_mt (mz_mt (mz_mt (mz_mt mz_mh)))))))))))))))
theorem mz_i_wsX7_book_35 : (.fieldLink RX1 9 "MadeItSo$Books" "parts" "[I" : Cond) ∈ wsX7_book := mz_mt (mz_ml (mz_ml (mz_ml (mz_mr (mz_mt (mz_mt (mz_mt (mz_mt (mz_mt (mz_mt (mz_mt (mz_mt (mz_mt (mz_mt mz_mh))))))))))))))
theorem mz_f_wsX7_book_wsX10 : ∀ w ∈ wsX10, w ∈ wsX7_book := fun _ h => mz_mt (mz_mr h)
set_option maxRecDepth 20000 in
theorem ggX7_book_X1_write : GoodIn wsX7_book wsX1_write := goodIn_sub (mz_fc mz_i_wsX7_book_34 (mz_fa (mz_fc mz_i_wsX7_book_35 (mz_fc mz_i_wsX7_book_36 (mz_fc mz_i_wsX7_book_37 (mz_fc mz_i_wsX7_book_33 (mz_fc mz_i_wsX7_book_38 mz_fn))))) (mz_f_wsX7_book_wsX10))) (by decide +kernel)
theorem mz_i_wsX7_book_32 : (.selects RX1 yX1_write yX1_write : Cond) ∈ wsX7_book := mz_mt (mz_ml (mz_ml (mz_ml (mz_mr (mz_mt (mz_mt (mz_mt (mz_mt (mz_mt (mz_mt (mz_mt mz_mh)))))))))))
theorem mz_i_wsX7_book_31 : (.instanceMethod yX1_write : Cond) ∈ wsX7_book := mz_mt (mz_ml (mz_ml (mz_ml (mz_mr (mz_mt (mz_mt (mz_mt (mz_mt (mz_mt (mz_mt mz_mh))))))))))
theorem mz_i_wsX7_book_30 : (.methodLink RX7 98 yX1_write : Cond) ∈ wsX7_book := mz_mt (mz_ml (mz_ml (mz_ml (mz_mr (mz_mt (mz_mt (mz_mt (mz_mt (mz_mt mz_mh)))))))))
set_option maxRecDepth 20000 in
theorem gX7_book_X1_write : GoodIn wsX7_book (wsV RX7 98 RX1 yX1_write wsX1_write) := goodIn_app (goodIn_sub (mz_fc mz_i_wsX7_book_30 (mz_fc mz_i_wsX7_book_31 (mz_fc mz_i_wsX7_book_32 (mz_fc mz_i_wsX7_book_33 mz_fn)))) (by decide +kernel)) ggX7_book_X1_write
theorem dX7_book_0 : decode cX7_book 0 = .ok (.aload_n 0, 1) := by decide +kernel
theorem dX7_book_1 : decode cX7_book 1 = .ok (.iload_n 1, 1) := by decide +kernel
theorem dX7_book_2 : decode cX7_book 2 = .ok (.iload_n 2, 1) := by decide +kernel
theorem dX7_book_3 : decode cX7_book 3 = .ok (.invokevirtual 95, 3) := by decide +kernel
theorem dX7_book_6 : decode cX7_book 6 = .ok (.ifCond .eq 13, 3) := by decide +kernel
theorem dX7_book_9 : decode cX7_book 9 = .ok (.iload_n 3, 1) := by decide +kernel
theorem dX7_book_10 : decode cX7_book 10 = .ok (.ifCond .lt 9, 3) := by decide +kernel
theorem dX7_book_13 : decode cX7_book 13 = .ok (.iload_n 3, 1) := by decide +kernel
theorem dX7_book_14 : decode cX7_book 14 = .ok (.bipush 100, 2) := by decide +kernel
theorem dX7_book_16 : decode cX7_book 16 = .ok (.if_icmp .le 5, 3) := by decide +kernel
theorem dX7_book_19 : decode cX7_book 19 = .ok (.iconst 0, 1) := by decide +kernel
theorem dX7_book_20 : decode cX7_book 20 = .ok (.ireturn, 1) := by decide +kernel
theorem dX7_book_21 : decode cX7_book 21 = .ok (.aload_n 0, 1) := by decide +kernel
theorem dX7_book_22 : decode cX7_book 22 = .ok (.getfield 22, 3) := by decide +kernel
theorem dX7_book_25 : decode cX7_book 25 = .ok (.iload_n 1, 1) := by decide +kernel
theorem dX7_book_26 : decode cX7_book 26 = .ok (.iload_n 2, 1) := by decide +kernel
theorem dX7_book_27 : decode cX7_book 27 = .ok (.iload_n 3, 1) := by decide +kernel
theorem dX7_book_28 : decode cX7_book 28 = .ok (.invokevirtual 98, 3) := by decide +kernel
theorem dX7_book_31 : decode cX7_book 31 = .ok (.iconst 1, 1) := by decide +kernel
theorem dX7_book_32 : decode cX7_book 32 = .ok (.ireturn, 1) := by decide +kernel
theorem mz_i_wsX7_booked_6 : (.code yX7_hasRow cX7_hasRow 3 (some .boolean) : Cond) ∈ wsX7_booked := mz_mt (mz_ml (mz_ml (mz_ml (mz_ml (mz_mt (mz_mt (mz_mt (mz_mt (mz_mt mz_mh)))))))))
theorem mz_i_wsX7_booked_29 : (.constant RJ6 267 (252645135) : Cond) ∈ wsX7_booked := mz_mt (mz_ml (mz_ml (mz_ml (mz_mr (mz_mt (mz_mt (mz_mt (mz_mt mz_mh))))))))
theorem mz_i_wsX7_booked_28 : (.constant RJ6 266 (858993459) : Cond) ∈ wsX7_booked := mz_mt (mz_ml (mz_ml (mz_ml (mz_mr (mz_mt (mz_mt (mz_mt mz_mh)))))))
theorem mz_i_wsX7_booked_27 : (.constant RJ6 265 (1431655765) : Cond) ∈ wsX7_booked := mz_mt (mz_ml (mz_ml (mz_ml (mz_mr (mz_mt (mz_mt mz_mh))))))
theorem mz_i_wsX7_booked_26 : (.code yJ6_bitCount_0f7a4 cJ6_bitCount_0f7a4 1 (some .int) : Cond) ∈ wsX7_booked := mz_mt (mz_ml (mz_ml (mz_ml (mz_mr (mz_mt mz_mh)))))
theorem mz_i_wsX7_booked_25 : (.initialized RJ6 : Cond) ∈ wsX7_booked := mz_mt (mz_ml (mz_ml (mz_ml (mz_mr mz_mh))))
theorem mz_i_wsX7_booked_24 : (.static yJ6_bitCount_0f7a4 : Cond) ∈ wsX7_booked := mz_mt (mz_ml (mz_ml (mz_ml (mz_ml (mz_mt (mz_mt (mz_mt (mz_mt (mz_mt (mz_mt (mz_mt (mz_mt (mz_mt (mz_mt (mz_mt (mz_mt (mz_mt (mz_mt (mz_mt (mz_mt (mz_mt (mz_mt (mz_mt (mz_mt (mz_mt (mz_mt (mz_mt mz_mh)))))))))))))))))))))))))))
theorem mz_i_wsX7_booked_23 : (.methodLink RX7 239 yJ6_bitCount_0f7a4 : Cond) ∈ wsX7_booked := mz_mt (mz_ml (mz_ml (mz_ml (mz_ml (mz_mt (mz_mt (mz_mt (mz_mt (mz_mt (mz_mt (mz_mt (mz_mt (mz_mt (mz_mt (mz_mt (mz_mt (mz_mt (mz_mt (mz_mt (mz_mt (mz_mt (mz_mt (mz_mt (mz_mt (mz_mt (mz_mt mz_mh))))))))))))))))))))))))))
theorem mz_i_wsX7_booked_22 : (.code yX7_partsOf cX7_partsOf 1 (some .int) : Cond) ∈ wsX7_booked := mz_mt (mz_ml (mz_ml (mz_ml (mz_ml (mz_mt (mz_mt (mz_mt (mz_mt (mz_mt (mz_mt (mz_mt (mz_mt (mz_mt (mz_mt (mz_mt (mz_mt (mz_mt (mz_mt (mz_mt (mz_mt (mz_mt (mz_mt (mz_mt (mz_mt (mz_mt mz_mh)))))))))))))))))))))))))
theorem mz_i_wsX7_booked_5 : (.initialized RX7 : Cond) ∈ wsX7_booked := mz_mt (mz_ml (mz_ml (mz_ml (mz_ml (mz_mt (mz_mt (mz_mt (mz_mt mz_mh))))))))
theorem mz_i_wsX7_booked_21 : (.static yX7_partsOf : Cond) ∈ wsX7_booked := mz_mt (mz_ml (mz_ml (mz_ml (mz_ml (mz_mt (mz_mt (mz_mt (mz_mt (mz_mt (mz_mt (mz_mt (mz_mt (mz_mt (mz_mt (mz_mt (mz_mt (mz_mt (mz_mt (mz_mt (mz_mt (mz_mt (mz_mt (mz_mt (mz_mt mz_mh))))))))))))))))))))))))
theorem mz_i_wsX7_booked_20 : (.methodLink RX7 220 yX7_partsOf : Cond) ∈ wsX7_booked := mz_mt (mz_ml (mz_ml (mz_ml (mz_ml (mz_mt (mz_mt (mz_mt (mz_mt (mz_mt (mz_mt (mz_mt (mz_mt (mz_mt (mz_mt (mz_mt (mz_mt (mz_mt (mz_mt (mz_mt (mz_mt (mz_mt (mz_mt (mz_mt mz_mh)))))))))))))))))))))))
theorem mz_i_wsX7_booked_19 : (.methodLink RX2 22 yX2_has : Cond) ∈ wsX7_booked := mz_mt (mz_ml (mz_ml (mz_ml (mz_ml (mz_mt (mz_mt (mz_mt (mz_mt (mz_mt (mz_mt (mz_mt (mz_mt (mz_mt (mz_mt (mz_mt (mz_mt (mz_mt (mz_mt (mz_mt (mz_mt (mz_mt (mz_mt mz_mh))))))))))))))))))))))
theorem mz_i_wsX7_booked_18 : (.fieldLink RX2 9 "MadeItSo$Drawing" "parents" "[I" : Cond) ∈ wsX7_booked := mz_mt (mz_ml (mz_ml (mz_ml (mz_ml (mz_mt (mz_mt (mz_mt (mz_mt (mz_mt (mz_mt (mz_mt (mz_mt (mz_mt (mz_mt (mz_mt (mz_mt (mz_mt (mz_mt (mz_mt (mz_mt (mz_mt mz_mh)))))))))))))))))))))
theorem mz_i_wsX7_booked_17 : (.code yX2_parentsOf cX2_parentsOf 2 (some .int) : Cond) ∈ wsX7_booked := mz_mt (mz_ml (mz_ml (mz_ml (mz_ml (mz_mt (mz_mt (mz_mt (mz_mt (mz_mt (mz_mt (mz_mt (mz_mt (mz_mt (mz_mt (mz_mt (mz_mt (mz_mt (mz_mt (mz_mt (mz_mt mz_mh))))))))))))))))))))
theorem mz_i_wsX7_booked_16 : (.selects RX2 yX2_parentsOf yX2_parentsOf : Cond) ∈ wsX7_booked := mz_mt (mz_ml (mz_ml (mz_ml (mz_ml (mz_mt (mz_mt (mz_mt (mz_mt (mz_mt (mz_mt (mz_mt (mz_mt (mz_mt (mz_mt (mz_mt (mz_mt (mz_mt (mz_mt (mz_mt mz_mh)))))))))))))))))))
theorem mz_i_wsX7_booked_15 : (.instanceMethod yX2_parentsOf : Cond) ∈ wsX7_booked := mz_mt (mz_ml (mz_ml (mz_ml (mz_ml (mz_mt (mz_mt (mz_mt (mz_mt (mz_mt (mz_mt (mz_mt (mz_mt (mz_mt (mz_mt (mz_mt (mz_mt (mz_mt (mz_mt mz_mh))))))))))))))))))
theorem mz_i_wsX7_booked_14 : (.methodLink RX7 109 yX2_parentsOf : Cond) ∈ wsX7_booked := mz_mt (mz_ml (mz_ml (mz_ml (mz_ml (mz_mt (mz_mt (mz_mt (mz_mt (mz_mt (mz_mt (mz_mt (mz_mt (mz_mt (mz_mt (mz_mt (mz_mt (mz_mt mz_mh)))))))))))))))))
theorem mz_i_wsX7_booked_13 : (.fieldLink RX2 18 "MadeItSo$Drawing" "things" "I" : Cond) ∈ wsX7_booked := mz_mt (mz_ml (mz_ml (mz_ml (mz_ml (mz_mt (mz_mt (mz_mt (mz_mt (mz_mt (mz_mt (mz_mt (mz_mt (mz_mt (mz_mt (mz_mt (mz_mt mz_mh))))))))))))))))
theorem mz_i_wsX7_booked_12 : (.code yX2_has cX2_has 2 (some .boolean) : Cond) ∈ wsX7_booked := mz_mt (mz_ml (mz_ml (mz_ml (mz_ml (mz_mt (mz_mt (mz_mt (mz_mt (mz_mt (mz_mt (mz_mt (mz_mt (mz_mt (mz_mt (mz_mt mz_mh)))))))))))))))
theorem mz_i_wsX7_booked_11 : (.initialized RX2 : Cond) ∈ wsX7_booked := mz_mt (mz_ml (mz_ml (mz_ml (mz_ml (mz_mt (mz_mt (mz_mt (mz_mt (mz_mt (mz_mt (mz_mt (mz_mt (mz_mt (mz_mt mz_mh))))))))))))))
theorem mz_i_wsX7_booked_10 : (.selects RX2 yX2_has yX2_has : Cond) ∈ wsX7_booked := mz_mt (mz_ml (mz_ml (mz_ml (mz_ml (mz_mt (mz_mt (mz_mt (mz_mt (mz_mt (mz_mt (mz_mt (mz_mt (mz_mt mz_mh)))))))))))))
theorem mz_i_wsX7_booked_9 : (.instanceMethod yX2_has : Cond) ∈ wsX7_booked := mz_mt (mz_ml (mz_ml (mz_ml (mz_ml (mz_mt (mz_mt (mz_mt (mz_mt (mz_mt (mz_mt (mz_mt (mz_mt mz_mh))))))))))))
theorem mz_i_wsX7_booked_8 : (.methodLink RX7 77 yX2_has : Cond) ∈ wsX7_booked := mz_mt (mz_ml (mz_ml (mz_ml (mz_ml (mz_mt (mz_mt (mz_mt (mz_mt (mz_mt (mz_mt (mz_mt mz_mh)))))))))))
theorem mz_i_wsX7_booked_7 : (.fieldLink RX7 12 "MadeItSo" "drawing" "LMadeItSo$Drawing;" : Cond) ∈ wsX7_booked := mz_mt (mz_ml (mz_ml (mz_ml (mz_ml (mz_mt (mz_mt (mz_mt (mz_mt (mz_mt (mz_mt mz_mh))))))))))
theorem mz_f_wsX7_booked_wsX70 : ∀ w ∈ wsX70, w ∈ wsX7_booked := fun _ h => mz_mt (mz_ml (mz_ml (mz_mr h)))
theorem mz_f_wsX7_booked_wsX20 : ∀ w ∈ wsX20, w ∈ wsX7_booked := fun _ h => mz_mt (mz_ml (mz_mr h))
set_option maxRecDepth 20000 in
theorem ggX7_booked_X7_hasRow : GoodIn wsX7_booked wsX7_hasRow := goodIn_sub (mz_fc mz_i_wsX7_booked_6 (mz_fa (mz_fa (mz_fc mz_i_wsX7_booked_7 (mz_fc mz_i_wsX7_booked_8 (mz_fc mz_i_wsX7_booked_9 (mz_fc mz_i_wsX7_booked_10 (mz_fc mz_i_wsX7_booked_11 (mz_fc mz_i_wsX7_booked_12 (mz_fc mz_i_wsX7_booked_13 (mz_fc mz_i_wsX7_booked_14 (mz_fc mz_i_wsX7_booked_15 (mz_fc mz_i_wsX7_booked_16 (mz_fc mz_i_wsX7_booked_17 (mz_fc mz_i_wsX7_booked_18 (mz_fc mz_i_wsX7_booked_19 (mz_fc mz_i_wsX7_booked_20 (mz_fc mz_i_wsX7_booked_21 (mz_fc mz_i_wsX7_booked_5 (mz_fc mz_i_wsX7_booked_22 (mz_fc mz_i_wsX7_booked_23 (mz_fc mz_i_wsX7_booked_24 (mz_fc mz_i_wsX7_booked_25 (mz_fc mz_i_wsX7_booked_26 (mz_fc mz_i_wsX7_booked_27 (mz_fc mz_i_wsX7_booked_28 (mz_fc mz_i_wsX7_booked_29 mz_fn)))))))))))))))))))))))) (mz_f_wsX7_booked_wsX70)) (mz_f_wsX7_booked_wsX20))) (by decide +kernel)
theorem mz_i_wsX7_booked_4 : (.selects RX7 yX7_hasRow yX7_hasRow : Cond) ∈ wsX7_booked := mz_mt (mz_ml (mz_ml (mz_ml (mz_ml (mz_mt (mz_mt (mz_mt mz_mh)))))))
theorem mz_i_wsX7_booked_3 : (.instanceMethod yX7_hasRow : Cond) ∈ wsX7_booked := mz_mt (mz_ml (mz_ml (mz_ml (mz_ml (mz_mt (mz_mt mz_mh))))))
theorem mz_i_wsX7_booked_2 : (.methodLink RX7 95 yX7_hasRow : Cond) ∈ wsX7_booked := mz_mt (mz_ml (mz_ml (mz_ml (mz_ml (mz_mt mz_mh)))))
set_option maxRecDepth 20000 in
theorem gX7_booked_X7_hasRow : GoodIn wsX7_booked (wsV RX7 95 RX7 yX7_hasRow wsX7_hasRow) := goodIn_app (goodIn_sub (mz_fc mz_i_wsX7_booked_2 (mz_fc mz_i_wsX7_booked_3 (mz_fc mz_i_wsX7_booked_4 (mz_fc mz_i_wsX7_booked_5 mz_fn)))) (by decide +kernel)) ggX7_booked_X7_hasRow
theorem mz_i_wsX7_booked_34 : (.code yX1_read cX1_read 3 (some .int) : Cond) ∈ wsX7_booked := mz_mt (mz_ml (mz_ml (mz_ml (mz_mr (mz_mt (mz_mt (mz_mt (mz_mt (mz_mt (mz_mt (mz_mt (mz_mt (mz_mt mz_mh)))))))))))))
theorem mz_i_wsX7_booked_38 : (.code yX1_isPlace cX1_isPlace 2 (some .boolean) : Cond) ∈ wsX7_booked := mz_mt (mz_ml (mz_ml (mz_ml (mz_mr (mz_mt (mz_mt (mz_mt (mz_mt (mz_mt (mz_mt (mz_mt (mz_mt (mz_mt (mz_mt (mz_mt (mz_mt (mz_mt mz_mh)))))))))))))))))
theorem mz_i_wsX7_booked_33 : (.initialized RX1 : Cond) ∈ wsX7_booked := mz_mt (mz_ml (mz_ml (mz_ml (mz_mr (mz_mt (mz_mt (mz_mt (mz_mt (mz_mt (mz_mt (mz_mt (mz_mt mz_mh))))))))))))
theorem mz_i_wsX7_booked_37 : (.static yX1_isPlace : Cond) ∈ wsX7_booked := mz_mt (mz_ml (mz_ml (mz_ml (mz_mr (mz_mt (mz_mt (mz_mt (mz_mt (mz_mt (mz_mt (mz_mt (mz_mt (mz_mt (mz_mt (mz_mt (mz_mt mz_mh))))))))))))))))
theorem mz_i_wsX7_booked_36 : (.methodLink RX1 15 yX1_isPlace : Cond) ∈ wsX7_booked := mz_mt (mz_ml (mz_ml (mz_ml (mz_mr (mz_mt (mz_mt (mz_mt (mz_mt (mz_mt (mz_mt (mz_mt (mz_mt (mz_mt (mz_mt (mz_mt mz_mh)))))))))))))))
theorem mz_i_wsX7_booked_35 : (.fieldLink RX1 9 "MadeItSo$Books" "parts" "[I" : Cond) ∈ wsX7_booked := mz_mt (mz_ml (mz_ml (mz_ml (mz_mr (mz_mt (mz_mt (mz_mt (mz_mt (mz_mt (mz_mt (mz_mt (mz_mt (mz_mt (mz_mt mz_mh))))))))))))))
theorem mz_f_wsX7_booked_wsX10 : ∀ w ∈ wsX10, w ∈ wsX7_booked := fun _ h => mz_mt (mz_mr h)
set_option maxRecDepth 20000 in
theorem ggX7_booked_X1_read : GoodIn wsX7_booked wsX1_read := goodIn_sub (mz_fc mz_i_wsX7_booked_34 (mz_fa (mz_fc mz_i_wsX7_booked_35 (mz_fc mz_i_wsX7_booked_36 (mz_fc mz_i_wsX7_booked_37 (mz_fc mz_i_wsX7_booked_33 (mz_fc mz_i_wsX7_booked_38 mz_fn))))) (mz_f_wsX7_booked_wsX10))) (by decide +kernel)
theorem mz_i_wsX7_booked_32 : (.selects RX1 yX1_read yX1_read : Cond) ∈ wsX7_booked := mz_mt (mz_ml (mz_ml (mz_ml (mz_mr (mz_mt (mz_mt (mz_mt (mz_mt (mz_mt (mz_mt (mz_mt mz_mh)))))))))))
theorem mz_i_wsX7_booked_31 : (.instanceMethod yX1_read : Cond) ∈ wsX7_booked := mz_mt (mz_ml (mz_ml (mz_ml (mz_mr (mz_mt (mz_mt (mz_mt (mz_mt (mz_mt (mz_mt mz_mh))))))))))
theorem mz_i_wsX7_booked_30 : (.methodLink RX7 102 yX1_read : Cond) ∈ wsX7_booked := mz_mt (mz_ml (mz_ml (mz_ml (mz_mr (mz_mt (mz_mt (mz_mt (mz_mt (mz_mt mz_mh)))))))))
set_option maxRecDepth 20000 in
theorem gX7_booked_X1_read : GoodIn wsX7_booked (wsV RX7 102 RX1 yX1_read wsX1_read) := goodIn_app (goodIn_sub (mz_fc mz_i_wsX7_booked_30 (mz_fc mz_i_wsX7_booked_31 (mz_fc mz_i_wsX7_booked_32 (mz_fc mz_i_wsX7_booked_33 mz_fn)))) (by decide +kernel)) ggX7_booked_X1_read
theorem dX7_booked_0 : decode cX7_booked 0 = .ok (.aload_n 0, 1) := by decide +kernel
theorem dX7_booked_1 : decode cX7_booked 1 = .ok (.iload_n 1, 1) := by decide +kernel
theorem dX7_booked_2 : decode cX7_booked 2 = .ok (.iload_n 2, 1) := by decide +kernel
theorem dX7_booked_3 : decode cX7_booked 3 = .ok (.invokevirtual 95, 3) := by decide +kernel
theorem dX7_booked_6 : decode cX7_booked 6 = .ok (.ifCond .eq 15, 3) := by decide +kernel
theorem dX7_booked_9 : decode cX7_booked 9 = .ok (.aload_n 0, 1) := by decide +kernel
theorem dX7_booked_10 : decode cX7_booked 10 = .ok (.getfield 22, 3) := by decide +kernel
theorem dX7_booked_13 : decode cX7_booked 13 = .ok (.iload_n 1, 1) := by decide +kernel
theorem dX7_booked_14 : decode cX7_booked 14 = .ok (.iload_n 2, 1) := by decide +kernel
theorem dX7_booked_15 : decode cX7_booked 15 = .ok (.invokevirtual 102, 3) := by decide +kernel
theorem dX7_booked_18 : decode cX7_booked 18 = .ok (.goto 4, 3) := by decide +kernel
theorem dX7_booked_21 : decode cX7_booked 21 = .ok (.iconst (-1), 1) := by decide +kernel
theorem dX7_booked_22 : decode cX7_booked 22 = .ok (.ireturn, 1) := by decide +kernel
theorem mz_i_wsX7_told_7 : (.code yX2_has cX2_has 2 (some .boolean) : Cond) ∈ wsX7_told := mz_mt (mz_ml (mz_ml (mz_ml (mz_mt (mz_mt (mz_mt (mz_mt (mz_mt (mz_mt mz_mh)))))))))
theorem mz_i_wsX7_told_8 : (.fieldLink RX2 18 "MadeItSo$Drawing" "things" "I" : Cond) ∈ wsX7_told := mz_mt (mz_ml (mz_ml (mz_ml (mz_mt (mz_mt (mz_mt (mz_mt (mz_mt (mz_mt (mz_mt mz_mh))))))))))
theorem mz_f_wsX7_told_wsX20 : ∀ w ∈ wsX20, w ∈ wsX7_told := fun _ h => mz_mt (mz_mr h)
set_option maxRecDepth 20000 in
theorem ggX7_told_X2_has : GoodIn wsX7_told wsX2_has := goodIn_sub (mz_fc mz_i_wsX7_told_7 (mz_fa (mz_fc mz_i_wsX7_told_8 mz_fn) (mz_f_wsX7_told_wsX20))) (by decide +kernel)
theorem mz_i_wsX7_told_6 : (.initialized RX2 : Cond) ∈ wsX7_told := mz_mt (mz_ml (mz_ml (mz_ml (mz_mt (mz_mt (mz_mt (mz_mt (mz_mt mz_mh))))))))
theorem mz_i_wsX7_told_5 : (.selects RX2 yX2_has yX2_has : Cond) ∈ wsX7_told := mz_mt (mz_ml (mz_ml (mz_ml (mz_mt (mz_mt (mz_mt (mz_mt mz_mh)))))))
theorem mz_i_wsX7_told_4 : (.instanceMethod yX2_has : Cond) ∈ wsX7_told := mz_mt (mz_ml (mz_ml (mz_ml (mz_mt (mz_mt (mz_mt mz_mh))))))
theorem mz_i_wsX7_told_3 : (.methodLink RX7 77 yX2_has : Cond) ∈ wsX7_told := mz_mt (mz_ml (mz_ml (mz_ml (mz_mt (mz_mt mz_mh)))))
set_option maxRecDepth 20000 in
theorem gX7_told_X2_has : GoodIn wsX7_told (wsV RX7 77 RX2 yX2_has wsX2_has) := goodIn_app (goodIn_sub (mz_fc mz_i_wsX7_told_3 (mz_fc mz_i_wsX7_told_4 (mz_fc mz_i_wsX7_told_5 (mz_fc mz_i_wsX7_told_6 mz_fn)))) (by decide +kernel)) ggX7_told_X2_has
theorem mz_i_wsX7_told_12 : (.code yX7_inHeap cX7_inHeap 2 (some .boolean) : Cond) ∈ wsX7_told := mz_mt (mz_ml (mz_ml (mz_ml (mz_mt (mz_mt (mz_mt (mz_mt (mz_mt (mz_mt (mz_mt (mz_mt (mz_mt (mz_mt (mz_mt mz_mh))))))))))))))
set_option maxRecDepth 20000 in
theorem ggX7_told_X7_inHeap : GoodIn wsX7_told wsX7_inHeap := goodIn_sub (mz_fc mz_i_wsX7_told_12 (mz_fn)) (by decide +kernel)
theorem mz_i_wsX7_told_11 : (.initialized RX7 : Cond) ∈ wsX7_told := mz_mt (mz_ml (mz_ml (mz_ml (mz_mt (mz_mt (mz_mt (mz_mt (mz_mt (mz_mt (mz_mt (mz_mt (mz_mt (mz_mt mz_mh)))))))))))))
theorem mz_i_wsX7_told_10 : (.static yX7_inHeap : Cond) ∈ wsX7_told := mz_mt (mz_ml (mz_ml (mz_ml (mz_mt (mz_mt (mz_mt (mz_mt (mz_mt (mz_mt (mz_mt (mz_mt (mz_mt mz_mh))))))))))))
theorem mz_i_wsX7_told_9 : (.methodLink RX7 106 yX7_inHeap : Cond) ∈ wsX7_told := mz_mt (mz_ml (mz_ml (mz_ml (mz_mt (mz_mt (mz_mt (mz_mt (mz_mt (mz_mt (mz_mt (mz_mt mz_mh)))))))))))
set_option maxRecDepth 20000 in
theorem gX7_told_X7_inHeap : GoodIn wsX7_told (va_wsS RX7 106 yX7_inHeap wsX7_inHeap) := goodIn_app (goodIn_sub (mz_fc mz_i_wsX7_told_9 (mz_fc mz_i_wsX7_told_10 (mz_fc mz_i_wsX7_told_11 mz_fn))) (by decide +kernel)) ggX7_told_X7_inHeap
theorem mz_i_wsX7_told_16 : (.code yX2_parentsOf cX2_parentsOf 2 (some .int) : Cond) ∈ wsX7_told := mz_mt (mz_ml (mz_ml (mz_ml (mz_mt (mz_mt (mz_mt (mz_mt (mz_mt (mz_mt (mz_mt (mz_mt (mz_mt (mz_mt (mz_mt (mz_mt (mz_mt (mz_mt (mz_mt mz_mh))))))))))))))))))
theorem mz_i_wsX7_told_18 : (.methodLink RX2 22 yX2_has : Cond) ∈ wsX7_told := mz_mt (mz_ml (mz_ml (mz_ml (mz_mt (mz_mt (mz_mt (mz_mt (mz_mt (mz_mt (mz_mt (mz_mt (mz_mt (mz_mt (mz_mt (mz_mt (mz_mt (mz_mt (mz_mt (mz_mt (mz_mt mz_mh))))))))))))))))))))
theorem mz_i_wsX7_told_17 : (.fieldLink RX2 9 "MadeItSo$Drawing" "parents" "[I" : Cond) ∈ wsX7_told := mz_mt (mz_ml (mz_ml (mz_ml (mz_mt (mz_mt (mz_mt (mz_mt (mz_mt (mz_mt (mz_mt (mz_mt (mz_mt (mz_mt (mz_mt (mz_mt (mz_mt (mz_mt (mz_mt (mz_mt mz_mh)))))))))))))))))))
set_option maxRecDepth 20000 in
theorem ggX7_told_X2_parentsOf : GoodIn wsX7_told wsX2_parentsOf := goodIn_sub (mz_fc mz_i_wsX7_told_16 (mz_fa (mz_fc mz_i_wsX7_told_17 (mz_fc mz_i_wsX7_told_18 (mz_fc mz_i_wsX7_told_4 (mz_fc mz_i_wsX7_told_5 (mz_fc mz_i_wsX7_told_6 (mz_fc mz_i_wsX7_told_7 (mz_fc mz_i_wsX7_told_8 mz_fn))))))) (mz_f_wsX7_told_wsX20))) (by decide +kernel)
theorem mz_i_wsX7_told_15 : (.selects RX2 yX2_parentsOf yX2_parentsOf : Cond) ∈ wsX7_told := mz_mt (mz_ml (mz_ml (mz_ml (mz_mt (mz_mt (mz_mt (mz_mt (mz_mt (mz_mt (mz_mt (mz_mt (mz_mt (mz_mt (mz_mt (mz_mt (mz_mt (mz_mt mz_mh)))))))))))))))))
theorem mz_i_wsX7_told_14 : (.instanceMethod yX2_parentsOf : Cond) ∈ wsX7_told := mz_mt (mz_ml (mz_ml (mz_ml (mz_mt (mz_mt (mz_mt (mz_mt (mz_mt (mz_mt (mz_mt (mz_mt (mz_mt (mz_mt (mz_mt (mz_mt (mz_mt mz_mh))))))))))))))))
theorem mz_i_wsX7_told_13 : (.methodLink RX7 109 yX2_parentsOf : Cond) ∈ wsX7_told := mz_mt (mz_ml (mz_ml (mz_ml (mz_mt (mz_mt (mz_mt (mz_mt (mz_mt (mz_mt (mz_mt (mz_mt (mz_mt (mz_mt (mz_mt (mz_mt mz_mh)))))))))))))))
set_option maxRecDepth 20000 in
theorem gX7_told_X2_parentsOf : GoodIn wsX7_told (wsV RX7 109 RX2 yX2_parentsOf wsX2_parentsOf) := goodIn_app (goodIn_sub (mz_fc mz_i_wsX7_told_13 (mz_fc mz_i_wsX7_told_14 (mz_fc mz_i_wsX7_told_15 (mz_fc mz_i_wsX7_told_6 mz_fn)))) (by decide +kernel)) ggX7_told_X2_parentsOf
theorem mz_i_wsX7_told_22 : (.code yX2_childrenOf cX2_childrenOf 2 (some .int) : Cond) ∈ wsX7_told := mz_mt (mz_ml (mz_ml (mz_ml (mz_mt (mz_mt (mz_mt (mz_mt (mz_mt (mz_mt (mz_mt (mz_mt (mz_mt (mz_mt (mz_mt (mz_mt (mz_mt (mz_mt (mz_mt (mz_mt (mz_mt (mz_mt (mz_mt (mz_mt (mz_mt mz_mh))))))))))))))))))))))))
theorem mz_i_wsX7_told_23 : (.fieldLink RX2 15 "MadeItSo$Drawing" "children" "[I" : Cond) ∈ wsX7_told := mz_mt (mz_ml (mz_ml (mz_ml (mz_mt (mz_mt (mz_mt (mz_mt (mz_mt (mz_mt (mz_mt (mz_mt (mz_mt (mz_mt (mz_mt (mz_mt (mz_mt (mz_mt (mz_mt (mz_mt (mz_mt (mz_mt (mz_mt (mz_mt (mz_mt (mz_mt mz_mh)))))))))))))))))))))))))
set_option maxRecDepth 20000 in
theorem ggX7_told_X2_childrenOf : GoodIn wsX7_told wsX2_childrenOf := goodIn_sub (mz_fc mz_i_wsX7_told_22 (mz_fa (mz_fc mz_i_wsX7_told_23 (mz_fc mz_i_wsX7_told_18 (mz_fc mz_i_wsX7_told_4 (mz_fc mz_i_wsX7_told_5 (mz_fc mz_i_wsX7_told_6 (mz_fc mz_i_wsX7_told_7 (mz_fc mz_i_wsX7_told_8 mz_fn))))))) (mz_f_wsX7_told_wsX20))) (by decide +kernel)
theorem mz_i_wsX7_told_21 : (.selects RX2 yX2_childrenOf yX2_childrenOf : Cond) ∈ wsX7_told := mz_mt (mz_ml (mz_ml (mz_ml (mz_mt (mz_mt (mz_mt (mz_mt (mz_mt (mz_mt (mz_mt (mz_mt (mz_mt (mz_mt (mz_mt (mz_mt (mz_mt (mz_mt (mz_mt (mz_mt (mz_mt (mz_mt (mz_mt (mz_mt mz_mh)))))))))))))))))))))))
theorem mz_i_wsX7_told_20 : (.instanceMethod yX2_childrenOf : Cond) ∈ wsX7_told := mz_mt (mz_ml (mz_ml (mz_ml (mz_mt (mz_mt (mz_mt (mz_mt (mz_mt (mz_mt (mz_mt (mz_mt (mz_mt (mz_mt (mz_mt (mz_mt (mz_mt (mz_mt (mz_mt (mz_mt (mz_mt (mz_mt (mz_mt mz_mh))))))))))))))))))))))
theorem mz_i_wsX7_told_19 : (.methodLink RX7 112 yX2_childrenOf : Cond) ∈ wsX7_told := mz_mt (mz_ml (mz_ml (mz_ml (mz_mt (mz_mt (mz_mt (mz_mt (mz_mt (mz_mt (mz_mt (mz_mt (mz_mt (mz_mt (mz_mt (mz_mt (mz_mt (mz_mt (mz_mt (mz_mt (mz_mt (mz_mt mz_mh)))))))))))))))))))))
set_option maxRecDepth 20000 in
theorem gX7_told_X2_childrenOf : GoodIn wsX7_told (wsV RX7 112 RX2 yX2_childrenOf wsX2_childrenOf) := goodIn_app (goodIn_sub (mz_fc mz_i_wsX7_told_19 (mz_fc mz_i_wsX7_told_20 (mz_fc mz_i_wsX7_told_21 (mz_fc mz_i_wsX7_told_6 mz_fn)))) (by decide +kernel)) ggX7_told_X2_childrenOf
theorem mz_i_wsX7_told_27 : (.code yX2_allBelow cX2_allBelow 2 (some .int) : Cond) ∈ wsX7_told := mz_mt (mz_ml (mz_ml (mz_mr (mz_mt (mz_mt mz_mh)))))
theorem mz_i_wsX7_told_39 : (.code yX2_gather cX2_gather 4 (some .int) : Cond) ∈ wsX7_told := mz_mt (mz_ml (mz_ml (mz_mr (mz_mt (mz_mt (mz_mt (mz_mt (mz_mt (mz_mt (mz_mt (mz_mt (mz_mt (mz_mt (mz_mt (mz_mt (mz_mt (mz_mt mz_mh)))))))))))))))))
theorem mz_i_wsX7_told_38 : (.static yX2_gather : Cond) ∈ wsX7_told := mz_mt (mz_ml (mz_ml (mz_mr (mz_mt (mz_mt (mz_mt (mz_mt (mz_mt (mz_mt (mz_mt (mz_mt (mz_mt (mz_mt (mz_mt (mz_mt (mz_mt mz_mh))))))))))))))))
theorem mz_i_wsX7_told_37 : (.methodLink RX2 55 yX2_gather : Cond) ∈ wsX7_told := mz_mt (mz_ml (mz_ml (mz_mr (mz_mt (mz_mt (mz_mt (mz_mt (mz_mt (mz_mt (mz_mt (mz_mt (mz_mt (mz_mt (mz_mt (mz_mt mz_mh)))))))))))))))
theorem mz_i_wsX7_told_36 : (.code yX2_spread cX2_spread 6 (some .int) : Cond) ∈ wsX7_told := mz_mt (mz_ml (mz_ml (mz_mr (mz_mt (mz_mt (mz_mt (mz_mt (mz_mt (mz_mt (mz_mt (mz_mt (mz_mt (mz_mt (mz_mt mz_mh))))))))))))))
theorem mz_i_wsX7_told_35 : (.selects RX2 yX2_spread yX2_spread : Cond) ∈ wsX7_told := mz_mt (mz_ml (mz_ml (mz_mr (mz_mt (mz_mt (mz_mt (mz_mt (mz_mt (mz_mt (mz_mt (mz_mt (mz_mt (mz_mt mz_mh)))))))))))))
theorem mz_i_wsX7_told_34 : (.instanceMethod yX2_spread : Cond) ∈ wsX7_told := mz_mt (mz_ml (mz_ml (mz_mr (mz_mt (mz_mt (mz_mt (mz_mt (mz_mt (mz_mt (mz_mt (mz_mt (mz_mt mz_mh))))))))))))
theorem mz_i_wsX7_told_33 : (.methodLink RX2 51 yX2_spread : Cond) ∈ wsX7_told := mz_mt (mz_ml (mz_ml (mz_mr (mz_mt (mz_mt (mz_mt (mz_mt (mz_mt (mz_mt (mz_mt (mz_mt mz_mh)))))))))))
theorem mz_i_wsX7_told_32 : (.code yX2_withAllBelow cX2_withAllBelow 2 (some .int) : Cond) ∈ wsX7_told := mz_mt (mz_ml (mz_ml (mz_mr (mz_mt (mz_mt (mz_mt (mz_mt (mz_mt (mz_mt (mz_mt mz_mh))))))))))
theorem mz_i_wsX7_told_31 : (.selects RX2 yX2_withAllBelow yX2_withAllBelow : Cond) ∈ wsX7_told := mz_mt (mz_ml (mz_ml (mz_mr (mz_mt (mz_mt (mz_mt (mz_mt (mz_mt (mz_mt mz_mh)))))))))
theorem mz_i_wsX7_told_30 : (.instanceMethod yX2_withAllBelow : Cond) ∈ wsX7_told := mz_mt (mz_ml (mz_ml (mz_mr (mz_mt (mz_mt (mz_mt (mz_mt (mz_mt mz_mh))))))))
theorem mz_i_wsX7_told_29 : (.methodLink RX2 48 yX2_withAllBelow : Cond) ∈ wsX7_told := mz_mt (mz_ml (mz_ml (mz_mr (mz_mt (mz_mt (mz_mt (mz_mt mz_mh)))))))
theorem mz_i_wsX7_told_28 : (.methodLink RX2 45 yX2_childrenOf : Cond) ∈ wsX7_told := mz_mt (mz_ml (mz_ml (mz_mr (mz_mt (mz_mt (mz_mt mz_mh))))))
set_option maxRecDepth 20000 in
theorem ggX7_told_X2_allBelow : GoodIn wsX7_told wsX2_allBelow := goodIn_sub (mz_fc mz_i_wsX7_told_27 (mz_fa (mz_fa (mz_fc mz_i_wsX7_told_28 (mz_fc mz_i_wsX7_told_20 (mz_fc mz_i_wsX7_told_21 (mz_fc mz_i_wsX7_told_6 (mz_fc mz_i_wsX7_told_22 (mz_fc mz_i_wsX7_told_23 (mz_fc mz_i_wsX7_told_18 (mz_fc mz_i_wsX7_told_4 (mz_fc mz_i_wsX7_told_5 (mz_fc mz_i_wsX7_told_7 (mz_fc mz_i_wsX7_told_8 (mz_fc mz_i_wsX7_told_29 (mz_fc mz_i_wsX7_told_30 (mz_fc mz_i_wsX7_told_31 (mz_fc mz_i_wsX7_told_32 (mz_fc mz_i_wsX7_told_33 (mz_fc mz_i_wsX7_told_34 (mz_fc mz_i_wsX7_told_35 (mz_fc mz_i_wsX7_told_36 (mz_fc mz_i_wsX7_told_37 (mz_fc mz_i_wsX7_told_38 (mz_fc mz_i_wsX7_told_39 (mz_fc mz_i_wsX7_told_10 (mz_fc mz_i_wsX7_told_11 mz_fn)))))))))))))))))))))))) (mz_fc mz_i_wsX7_told_12 mz_fn)) (mz_f_wsX7_told_wsX20))) (by decide +kernel)
theorem mz_i_wsX7_told_26 : (.selects RX2 yX2_allBelow yX2_allBelow : Cond) ∈ wsX7_told := mz_mt (mz_ml (mz_ml (mz_mr (mz_mt mz_mh))))
theorem mz_i_wsX7_told_25 : (.instanceMethod yX2_allBelow : Cond) ∈ wsX7_told := mz_mt (mz_ml (mz_ml (mz_mr mz_mh)))
theorem mz_i_wsX7_told_24 : (.methodLink RX7 115 yX2_allBelow : Cond) ∈ wsX7_told := mz_mt (mz_ml (mz_ml (mz_ml (mz_mt (mz_mt (mz_mt (mz_mt (mz_mt (mz_mt (mz_mt (mz_mt (mz_mt (mz_mt (mz_mt (mz_mt (mz_mt (mz_mt (mz_mt (mz_mt (mz_mt (mz_mt (mz_mt (mz_mt (mz_mt (mz_mt (mz_mt mz_mh))))))))))))))))))))))))))
set_option maxRecDepth 20000 in
theorem gX7_told_X2_allBelow : GoodIn wsX7_told (wsV RX7 115 RX2 yX2_allBelow wsX2_allBelow) := goodIn_app (goodIn_sub (mz_fc mz_i_wsX7_told_24 (mz_fc mz_i_wsX7_told_25 (mz_fc mz_i_wsX7_told_26 (mz_fc mz_i_wsX7_told_6 mz_fn)))) (by decide +kernel)) ggX7_told_X2_allBelow
theorem dX7_told_0 : decode cX7_told 0 = .ok (.aload_n 0, 1) := by decide +kernel
theorem dX7_told_1 : decode cX7_told 1 = .ok (.getfield 12, 3) := by decide +kernel
theorem dX7_told_4 : decode cX7_told 4 = .ok (.iload_n 1, 1) := by decide +kernel
theorem dX7_told_5 : decode cX7_told 5 = .ok (.invokevirtual 77, 3) := by decide +kernel
theorem dX7_told_8 : decode cX7_told 8 = .ok (.ifCond .ne 5, 3) := by decide +kernel
theorem dX7_told_11 : decode cX7_told 11 = .ok (.iconst (-1), 1) := by decide +kernel
theorem dX7_told_12 : decode cX7_told 12 = .ok (.ireturn, 1) := by decide +kernel
theorem dX7_told_13 : decode cX7_told 13 = .ok (.iload_n 2, 1) := by decide +kernel
theorem dX7_told_14 : decode cX7_told 14 = .ok (.tableswitch 74 0 3 #[30, 47, 56, 65], 30) := by decide +kernel
theorem dX7_told_44 : decode cX7_told 44 = .ok (.aload_n 0, 1) := by decide +kernel
theorem dX7_told_45 : decode cX7_told 45 = .ok (.getfield 54, 3) := by decide +kernel
theorem dX7_told_48 : decode cX7_told 48 = .ok (.iload_n 1, 1) := by decide +kernel
theorem dX7_told_49 : decode cX7_told 49 = .ok (.invokestatic 106, 3) := by decide +kernel
theorem dX7_told_52 : decode cX7_told 52 = .ok (.ifCond .eq 7, 3) := by decide +kernel
theorem dX7_told_55 : decode cX7_told 55 = .ok (.iconst 1, 1) := by decide +kernel
theorem dX7_told_56 : decode cX7_told 56 = .ok (.goto 4, 3) := by decide +kernel
theorem dX7_told_59 : decode cX7_told 59 = .ok (.iconst 0, 1) := by decide +kernel
theorem dX7_told_60 : decode cX7_told 60 = .ok (.ireturn, 1) := by decide +kernel
theorem dX7_told_61 : decode cX7_told 61 = .ok (.aload_n 0, 1) := by decide +kernel
theorem dX7_told_62 : decode cX7_told 62 = .ok (.getfield 12, 3) := by decide +kernel
theorem dX7_told_65 : decode cX7_told 65 = .ok (.iload_n 1, 1) := by decide +kernel
theorem dX7_told_66 : decode cX7_told 66 = .ok (.invokevirtual 109, 3) := by decide +kernel
theorem dX7_told_69 : decode cX7_told 69 = .ok (.ireturn, 1) := by decide +kernel
theorem dX7_told_70 : decode cX7_told 70 = .ok (.aload_n 0, 1) := by decide +kernel
theorem dX7_told_71 : decode cX7_told 71 = .ok (.getfield 12, 3) := by decide +kernel
theorem dX7_told_74 : decode cX7_told 74 = .ok (.iload_n 1, 1) := by decide +kernel
theorem dX7_told_75 : decode cX7_told 75 = .ok (.invokevirtual 112, 3) := by decide +kernel
theorem dX7_told_78 : decode cX7_told 78 = .ok (.ireturn, 1) := by decide +kernel
theorem dX7_told_79 : decode cX7_told 79 = .ok (.aload_n 0, 1) := by decide +kernel
theorem dX7_told_80 : decode cX7_told 80 = .ok (.getfield 12, 3) := by decide +kernel
theorem dX7_told_83 : decode cX7_told 83 = .ok (.iload_n 1, 1) := by decide +kernel
theorem dX7_told_84 : decode cX7_told 84 = .ok (.invokevirtual 115, 3) := by decide +kernel
theorem dX7_told_87 : decode cX7_told 87 = .ok (.ireturn, 1) := by decide +kernel
theorem dX7_told_88 : decode cX7_told 88 = .ok (.iconst (-1), 1) := by decide +kernel
theorem dX7_told_89 : decode cX7_told 89 = .ok (.ireturn, 1) := by decide +kernel
theorem mz_i_wsX7_weight_9 : (.code yX7_isSetting cX7_isSetting 2 (some .boolean) : Cond) ∈ wsX7_weight := mz_mt (mz_ml (mz_ml (mz_ml (mz_ml (mz_ml (mz_mt (mz_mt (mz_mt (mz_mt (mz_mt (mz_mt (mz_mt (mz_mt mz_mh)))))))))))))
theorem mz_i_wsX7_weight_25 : (.code yX7_onesOf cX7_onesOf 1 (some .int) : Cond) ∈ wsX7_weight := mz_mt (mz_ml (mz_ml (mz_ml (mz_ml (mz_mr (mz_ml mz_mh))))))
theorem mz_i_wsX7_weight_24 : (.static yX7_onesOf : Cond) ∈ wsX7_weight := mz_mt (mz_ml (mz_ml (mz_ml (mz_ml (mz_ml (mz_mt (mz_mt (mz_mt (mz_mt (mz_mt (mz_mt (mz_mt (mz_mt (mz_mt (mz_mt (mz_mt (mz_mt (mz_mt (mz_mt (mz_mt (mz_mt (mz_mt (mz_mt (mz_mt (mz_mt (mz_mt (mz_mt (mz_mt mz_mh))))))))))))))))))))))))))))
theorem mz_i_wsX7_weight_23 : (.methodLink RX7 130 yX7_onesOf : Cond) ∈ wsX7_weight := mz_mt (mz_ml (mz_ml (mz_ml (mz_ml (mz_ml (mz_mt (mz_mt (mz_mt (mz_mt (mz_mt (mz_mt (mz_mt (mz_mt (mz_mt (mz_mt (mz_mt (mz_mt (mz_mt (mz_mt (mz_mt (mz_mt (mz_mt (mz_mt (mz_mt (mz_mt (mz_mt (mz_mt mz_mh)))))))))))))))))))))))))))
theorem mz_i_wsX7_weight_22 : (.fieldLink RX2 18 "MadeItSo$Drawing" "things" "I" : Cond) ∈ wsX7_weight := mz_mt (mz_ml (mz_ml (mz_ml (mz_ml (mz_ml (mz_mt (mz_mt (mz_mt (mz_mt (mz_mt (mz_mt (mz_mt (mz_mt (mz_mt (mz_mt (mz_mt (mz_mt (mz_mt (mz_mt (mz_mt (mz_mt (mz_mt (mz_mt (mz_mt (mz_mt (mz_mt mz_mh))))))))))))))))))))))))))
theorem mz_i_wsX7_weight_21 : (.code yX2_everything cX2_everything 1 (some .int) : Cond) ∈ wsX7_weight := mz_mt (mz_ml (mz_ml (mz_ml (mz_ml (mz_ml (mz_mt (mz_mt (mz_mt (mz_mt (mz_mt (mz_mt (mz_mt (mz_mt (mz_mt (mz_mt (mz_mt (mz_mt (mz_mt (mz_mt (mz_mt (mz_mt (mz_mt (mz_mt (mz_mt (mz_mt mz_mh)))))))))))))))))))))))))
theorem mz_i_wsX7_weight_20 : (.initialized RX2 : Cond) ∈ wsX7_weight := mz_mt (mz_ml (mz_ml (mz_ml (mz_ml (mz_ml (mz_mt (mz_mt (mz_mt (mz_mt (mz_mt (mz_mt (mz_mt (mz_mt (mz_mt (mz_mt (mz_mt (mz_mt (mz_mt (mz_mt (mz_mt (mz_mt (mz_mt (mz_mt (mz_mt mz_mh))))))))))))))))))))))))
theorem mz_i_wsX7_weight_19 : (.selects RX2 yX2_everything yX2_everything : Cond) ∈ wsX7_weight := mz_mt (mz_ml (mz_ml (mz_ml (mz_ml (mz_ml (mz_mt (mz_mt (mz_mt (mz_mt (mz_mt (mz_mt (mz_mt (mz_mt (mz_mt (mz_mt (mz_mt (mz_mt (mz_mt (mz_mt (mz_mt (mz_mt (mz_mt (mz_mt mz_mh)))))))))))))))))))))))
theorem mz_i_wsX7_weight_18 : (.instanceMethod yX2_everything : Cond) ∈ wsX7_weight := mz_mt (mz_ml (mz_ml (mz_ml (mz_ml (mz_ml (mz_mt (mz_mt (mz_mt (mz_mt (mz_mt (mz_mt (mz_mt (mz_mt (mz_mt (mz_mt (mz_mt (mz_mt (mz_mt (mz_mt (mz_mt (mz_mt (mz_mt mz_mh))))))))))))))))))))))
theorem mz_i_wsX7_weight_17 : (.methodLink RX7 223 yX2_everything : Cond) ∈ wsX7_weight := mz_mt (mz_ml (mz_ml (mz_ml (mz_ml (mz_ml (mz_mt (mz_mt (mz_mt (mz_mt (mz_mt (mz_mt (mz_mt (mz_mt (mz_mt (mz_mt (mz_mt (mz_mt (mz_mt (mz_mt (mz_mt (mz_mt mz_mh)))))))))))))))))))))
theorem mz_i_wsX7_weight_3 : (.fieldLink RX7 12 "MadeItSo" "drawing" "LMadeItSo$Drawing;" : Cond) ∈ wsX7_weight := mz_mt (mz_ml (mz_ml (mz_ml (mz_ml (mz_ml (mz_mt (mz_mt mz_mh)))))))
theorem mz_i_wsX7_weight_16 : (.code yX7_isHeap cX7_isHeap 2 (some .boolean) : Cond) ∈ wsX7_weight := mz_mt (mz_ml (mz_ml (mz_ml (mz_ml (mz_ml (mz_mt (mz_mt (mz_mt (mz_mt (mz_mt (mz_mt (mz_mt (mz_mt (mz_mt (mz_mt (mz_mt (mz_mt (mz_mt (mz_mt (mz_mt mz_mh))))))))))))))))))))
theorem mz_i_wsX7_weight_15 : (.selects RX7 yX7_isHeap yX7_isHeap : Cond) ∈ wsX7_weight := mz_mt (mz_ml (mz_ml (mz_ml (mz_ml (mz_ml (mz_mt (mz_mt (mz_mt (mz_mt (mz_mt (mz_mt (mz_mt (mz_mt (mz_mt (mz_mt (mz_mt (mz_mt (mz_mt (mz_mt mz_mh)))))))))))))))))))
theorem mz_i_wsX7_weight_14 : (.instanceMethod yX7_isHeap : Cond) ∈ wsX7_weight := mz_mt (mz_ml (mz_ml (mz_ml (mz_ml (mz_ml (mz_mt (mz_mt (mz_mt (mz_mt (mz_mt (mz_mt (mz_mt (mz_mt (mz_mt (mz_mt (mz_mt (mz_mt (mz_mt mz_mh))))))))))))))))))
theorem mz_i_wsX7_weight_13 : (.methodLink RX7 144 yX7_isHeap : Cond) ∈ wsX7_weight := mz_mt (mz_ml (mz_ml (mz_ml (mz_ml (mz_ml (mz_mt (mz_mt (mz_mt (mz_mt (mz_mt (mz_mt (mz_mt (mz_mt (mz_mt (mz_mt (mz_mt (mz_mt mz_mh)))))))))))))))))
theorem mz_i_wsX7_weight_12 : (.code yX7_heapOf cX7_heapOf 1 (some .int) : Cond) ∈ wsX7_weight := mz_mt (mz_ml (mz_ml (mz_ml (mz_ml (mz_ml (mz_mt (mz_mt (mz_mt (mz_mt (mz_mt (mz_mt (mz_mt (mz_mt (mz_mt (mz_mt (mz_mt mz_mh))))))))))))))))
theorem mz_i_wsX7_weight_8 : (.initialized RX7 : Cond) ∈ wsX7_weight := mz_mt (mz_ml (mz_ml (mz_ml (mz_ml (mz_ml (mz_mt (mz_mt (mz_mt (mz_mt (mz_mt (mz_mt (mz_mt mz_mh))))))))))))
theorem mz_i_wsX7_weight_11 : (.static yX7_heapOf : Cond) ∈ wsX7_weight := mz_mt (mz_ml (mz_ml (mz_ml (mz_ml (mz_ml (mz_mt (mz_mt (mz_mt (mz_mt (mz_mt (mz_mt (mz_mt (mz_mt (mz_mt (mz_mt mz_mh)))))))))))))))
theorem mz_i_wsX7_weight_10 : (.methodLink RX7 127 yX7_heapOf : Cond) ∈ wsX7_weight := mz_mt (mz_ml (mz_ml (mz_ml (mz_ml (mz_ml (mz_mt (mz_mt (mz_mt (mz_mt (mz_mt (mz_mt (mz_mt (mz_mt (mz_mt mz_mh))))))))))))))
theorem mz_f_wsX7_weight_wsX70 : ∀ w ∈ wsX70, w ∈ wsX7_weight := fun _ h => mz_mt (mz_ml (mz_ml (mz_ml (mz_mr h))))
theorem mz_f_wsX7_weight_wsX20 : ∀ w ∈ wsX20, w ∈ wsX7_weight := fun _ h => mz_mt (mz_ml (mz_ml (mz_mr h)))
set_option maxRecDepth 20000 in
theorem ggX7_weight_X7_isSetting : GoodIn wsX7_weight wsX7_isSetting := goodIn_sub (mz_fc mz_i_wsX7_weight_9 (mz_fa (mz_fa (mz_fc mz_i_wsX7_weight_10 (mz_fc mz_i_wsX7_weight_11 (mz_fc mz_i_wsX7_weight_8 (mz_fc mz_i_wsX7_weight_12 (mz_fc mz_i_wsX7_weight_13 (mz_fc mz_i_wsX7_weight_14 (mz_fc mz_i_wsX7_weight_15 (mz_fc mz_i_wsX7_weight_16 (mz_fc mz_i_wsX7_weight_3 (mz_fc mz_i_wsX7_weight_17 (mz_fc mz_i_wsX7_weight_18 (mz_fc mz_i_wsX7_weight_19 (mz_fc mz_i_wsX7_weight_20 (mz_fc mz_i_wsX7_weight_21 (mz_fc mz_i_wsX7_weight_22 (mz_fc mz_i_wsX7_weight_23 (mz_fc mz_i_wsX7_weight_24 (mz_fc mz_i_wsX7_weight_25 mz_fn)))))))))))))))))) (mz_f_wsX7_weight_wsX70)) (mz_f_wsX7_weight_wsX20))) (by decide +kernel)
theorem mz_i_wsX7_weight_7 : (.selects RX7 yX7_isSetting yX7_isSetting : Cond) ∈ wsX7_weight := mz_mt (mz_ml (mz_ml (mz_ml (mz_ml (mz_ml (mz_mt (mz_mt (mz_mt (mz_mt (mz_mt (mz_mt mz_mh)))))))))))
theorem mz_i_wsX7_weight_6 : (.instanceMethod yX7_isSetting : Cond) ∈ wsX7_weight := mz_mt (mz_ml (mz_ml (mz_ml (mz_ml (mz_ml (mz_mt (mz_mt (mz_mt (mz_mt (mz_mt mz_mh))))))))))
theorem mz_i_wsX7_weight_5 : (.methodLink RX7 118 yX7_isSetting : Cond) ∈ wsX7_weight := mz_mt (mz_ml (mz_ml (mz_ml (mz_ml (mz_ml (mz_mt (mz_mt (mz_mt (mz_mt mz_mh)))))))))
set_option maxRecDepth 20000 in
theorem gX7_weight_X7_isSetting : GoodIn wsX7_weight (wsV RX7 118 RX7 yX7_isSetting wsX7_isSetting) := goodIn_app (goodIn_sub (mz_fc mz_i_wsX7_weight_5 (mz_fc mz_i_wsX7_weight_6 (mz_fc mz_i_wsX7_weight_7 (mz_fc mz_i_wsX7_weight_8 mz_fn)))) (by decide +kernel)) ggX7_weight_X7_isSetting
theorem mz_i_wsX7_weight_30 : (.code yX6_weigh cX6_weigh 10 none : Cond) ∈ wsX7_weight := mz_mt (mz_ml (mz_ml (mz_ml (mz_ml (mz_mr (mz_ml (mz_mt (mz_mt (mz_mt (mz_mt (mz_mt mz_mh)))))))))))
theorem mz_i_wsX7_weight_48 : (.static yJ6_bitCount_0f7a4 : Cond) ∈ wsX7_weight := mz_mt (mz_ml (mz_ml (mz_ml (mz_ml (mz_mr (mz_ml (mz_mt (mz_mt (mz_mt (mz_mt (mz_mt (mz_mt (mz_mt (mz_mt (mz_mt (mz_mt (mz_mt (mz_mt (mz_mt (mz_mt (mz_mt (mz_mt (mz_mt (mz_mt (mz_mt (mz_mt (mz_mt (mz_mt (mz_mt mz_mh)))))))))))))))))))))))))))))
theorem mz_i_wsX7_weight_47 : (.methodLink RX7 239 yJ6_bitCount_0f7a4 : Cond) ∈ wsX7_weight := mz_mt (mz_ml (mz_ml (mz_ml (mz_ml (mz_mr (mz_ml (mz_mt (mz_mt (mz_mt (mz_mt (mz_mt (mz_mt (mz_mt (mz_mt (mz_mt (mz_mt (mz_mt (mz_mt (mz_mt (mz_mt (mz_mt (mz_mt (mz_mt (mz_mt (mz_mt (mz_mt (mz_mt (mz_mt mz_mh))))))))))))))))))))))))))))
theorem mz_i_wsX7_weight_46 : (.code yX7_partsOf cX7_partsOf 1 (some .int) : Cond) ∈ wsX7_weight := mz_mt (mz_ml (mz_ml (mz_ml (mz_ml (mz_mr (mz_ml (mz_mt (mz_mt (mz_mt (mz_mt (mz_mt (mz_mt (mz_mt (mz_mt (mz_mt (mz_mt (mz_mt (mz_mt (mz_mt (mz_mt (mz_mt (mz_mt (mz_mt (mz_mt (mz_mt (mz_mt (mz_mt mz_mh)))))))))))))))))))))))))))
theorem mz_i_wsX7_weight_45 : (.static yX7_partsOf : Cond) ∈ wsX7_weight := mz_mt (mz_ml (mz_ml (mz_ml (mz_ml (mz_mr (mz_ml (mz_mt (mz_mt (mz_mt (mz_mt (mz_mt (mz_mt (mz_mt (mz_mt (mz_mt (mz_mt (mz_mt (mz_mt (mz_mt (mz_mt (mz_mt (mz_mt (mz_mt (mz_mt (mz_mt (mz_mt mz_mh))))))))))))))))))))))))))
theorem mz_i_wsX7_weight_44 : (.code yX7_inHeap cX7_inHeap 2 (some .boolean) : Cond) ∈ wsX7_weight := mz_mt (mz_ml (mz_ml (mz_ml (mz_ml (mz_mr (mz_ml (mz_mt (mz_mt (mz_mt (mz_mt (mz_mt (mz_mt (mz_mt (mz_mt (mz_mt (mz_mt (mz_mt (mz_mt (mz_mt (mz_mt (mz_mt (mz_mt (mz_mt (mz_mt (mz_mt mz_mh)))))))))))))))))))))))))
theorem mz_i_wsX7_weight_43 : (.static yX7_inHeap : Cond) ∈ wsX7_weight := mz_mt (mz_ml (mz_ml (mz_ml (mz_ml (mz_mr (mz_ml (mz_mt (mz_mt (mz_mt (mz_mt (mz_mt (mz_mt (mz_mt (mz_mt (mz_mt (mz_mt (mz_mt (mz_mt (mz_mt (mz_mt (mz_mt (mz_mt (mz_mt (mz_mt mz_mh))))))))))))))))))))))))
theorem mz_i_wsX7_weight_42 : (.fieldLink RX2 9 "MadeItSo$Drawing" "parents" "[I" : Cond) ∈ wsX7_weight := mz_mt (mz_ml (mz_ml (mz_ml (mz_ml (mz_mr (mz_ml (mz_mt (mz_mt (mz_mt (mz_mt (mz_mt (mz_mt (mz_mt (mz_mt (mz_mt (mz_mt (mz_mt (mz_mt (mz_mt (mz_mt (mz_mt (mz_mt (mz_mt mz_mh)))))))))))))))))))))))
theorem mz_i_wsX7_weight_41 : (.code yX2_nextAfter cX2_nextAfter 3 (some .int) : Cond) ∈ wsX7_weight := mz_mt (mz_ml (mz_ml (mz_ml (mz_ml (mz_mr (mz_ml (mz_mt (mz_mt (mz_mt (mz_mt (mz_mt (mz_mt (mz_mt (mz_mt (mz_mt (mz_mt (mz_mt (mz_mt (mz_mt (mz_mt (mz_mt (mz_mt mz_mh))))))))))))))))))))))
theorem mz_i_wsX7_weight_40 : (.selects RX2 yX2_nextAfter yX2_nextAfter : Cond) ∈ wsX7_weight := mz_mt (mz_ml (mz_ml (mz_ml (mz_ml (mz_mr (mz_ml (mz_mt (mz_mt (mz_mt (mz_mt (mz_mt (mz_mt (mz_mt (mz_mt (mz_mt (mz_mt (mz_mt (mz_mt (mz_mt (mz_mt (mz_mt mz_mh)))))))))))))))))))))
theorem mz_i_wsX7_weight_39 : (.instanceMethod yX2_nextAfter : Cond) ∈ wsX7_weight := mz_mt (mz_ml (mz_ml (mz_ml (mz_ml (mz_mr (mz_ml (mz_mt (mz_mt (mz_mt (mz_mt (mz_mt (mz_mt (mz_mt (mz_mt (mz_mt (mz_mt (mz_mt (mz_mt (mz_mt (mz_mt mz_mh))))))))))))))))))))
theorem mz_i_wsX7_weight_38 : (.methodLink RX6 27 yX2_nextAfter : Cond) ∈ wsX7_weight := mz_mt (mz_ml (mz_ml (mz_ml (mz_ml (mz_mr (mz_ml (mz_mt (mz_mt (mz_mt (mz_mt (mz_mt (mz_mt (mz_mt (mz_mt (mz_mt (mz_mt (mz_mt (mz_mt (mz_mt mz_mh)))))))))))))))))))
theorem mz_i_wsX7_weight_37 : (.code yX2_size cX2_size 1 (some .int) : Cond) ∈ wsX7_weight := mz_mt (mz_ml (mz_ml (mz_ml (mz_ml (mz_mr (mz_ml (mz_mt (mz_mt (mz_mt (mz_mt (mz_mt (mz_mt (mz_mt (mz_mt (mz_mt (mz_mt (mz_mt (mz_mt mz_mh))))))))))))))))))
theorem mz_i_wsX7_weight_36 : (.selects RX2 yX2_size yX2_size : Cond) ∈ wsX7_weight := mz_mt (mz_ml (mz_ml (mz_ml (mz_ml (mz_mr (mz_ml (mz_mt (mz_mt (mz_mt (mz_mt (mz_mt (mz_mt (mz_mt (mz_mt (mz_mt (mz_mt (mz_mt mz_mh)))))))))))))))))
theorem mz_i_wsX7_weight_35 : (.instanceMethod yX2_size : Cond) ∈ wsX7_weight := mz_mt (mz_ml (mz_ml (mz_ml (mz_ml (mz_mr (mz_ml (mz_mt (mz_mt (mz_mt (mz_mt (mz_mt (mz_mt (mz_mt (mz_mt (mz_mt (mz_mt mz_mh))))))))))))))))
theorem mz_i_wsX7_weight_34 : (.methodLink RX6 24 yX2_size : Cond) ∈ wsX7_weight := mz_mt (mz_ml (mz_ml (mz_ml (mz_ml (mz_mr (mz_ml (mz_mt (mz_mt (mz_mt (mz_mt (mz_mt (mz_mt (mz_mt (mz_mt (mz_mt mz_mh)))))))))))))))
theorem mz_i_wsX7_weight_33 : (.methodLink RX6 19 yX2_everything : Cond) ∈ wsX7_weight := mz_mt (mz_ml (mz_ml (mz_ml (mz_ml (mz_mr (mz_ml (mz_mt (mz_mt (mz_mt (mz_mt (mz_mt (mz_mt (mz_mt (mz_mt mz_mh))))))))))))))
theorem mz_i_wsX7_weight_32 : (.fieldLink RX6 9 "MadeItSo$Weights" "ofCase" "[J" : Cond) ∈ wsX7_weight := mz_mt (mz_ml (mz_ml (mz_ml (mz_ml (mz_mr (mz_ml (mz_mt (mz_mt (mz_mt (mz_mt (mz_mt (mz_mt (mz_mt mz_mh)))))))))))))
theorem mz_i_wsX7_weight_31 : (.fieldLink RX6 15 "MadeItSo$Weights" "everything" "I" : Cond) ∈ wsX7_weight := mz_mt (mz_ml (mz_ml (mz_ml (mz_ml (mz_mr (mz_ml (mz_mt (mz_mt (mz_mt (mz_mt (mz_mt (mz_mt mz_mh))))))))))))
theorem mz_i_wsX7_weight_68 : (.code yX2_has cX2_has 2 (some .boolean) : Cond) ∈ wsX7_weight := mz_mt (mz_ml (mz_ml (mz_ml (mz_ml (mz_mr (mz_mr (mz_ml (mz_mt (mz_mt (mz_mt (mz_mt (mz_mt (mz_mt (mz_mt (mz_mt (mz_mt (mz_mt (mz_mt (mz_mt (mz_mt (mz_mt (mz_mt (mz_mt (mz_mt (mz_mt (mz_mt mz_mh))))))))))))))))))))))))))
theorem mz_i_wsX7_weight_67 : (.selects RX2 yX2_has yX2_has : Cond) ∈ wsX7_weight := mz_mt (mz_ml (mz_ml (mz_ml (mz_ml (mz_mr (mz_mr (mz_ml (mz_mt (mz_mt (mz_mt (mz_mt (mz_mt (mz_mt (mz_mt (mz_mt (mz_mt (mz_mt (mz_mt (mz_mt (mz_mt (mz_mt (mz_mt (mz_mt (mz_mt (mz_mt mz_mh)))))))))))))))))))))))))
theorem mz_i_wsX7_weight_66 : (.instanceMethod yX2_has : Cond) ∈ wsX7_weight := mz_mt (mz_ml (mz_ml (mz_ml (mz_ml (mz_mr (mz_mr (mz_ml (mz_mt (mz_mt (mz_mt (mz_mt (mz_mt (mz_mt (mz_mt (mz_mt (mz_mt (mz_mt (mz_mt (mz_mt (mz_mt (mz_mt (mz_mt (mz_mt (mz_mt mz_mh))))))))))))))))))))))))
theorem mz_i_wsX7_weight_65 : (.methodLink RX2 22 yX2_has : Cond) ∈ wsX7_weight := mz_mt (mz_ml (mz_ml (mz_ml (mz_ml (mz_mr (mz_mr (mz_ml (mz_mt (mz_mt (mz_mt (mz_mt (mz_mt (mz_mt (mz_mt (mz_mt (mz_mt (mz_mt (mz_mt (mz_mt (mz_mt (mz_mt (mz_mt (mz_mt mz_mh)))))))))))))))))))))))
theorem mz_i_wsX7_weight_64 : (.code yX2_parentsOf cX2_parentsOf 2 (some .int) : Cond) ∈ wsX7_weight := mz_mt (mz_ml (mz_ml (mz_ml (mz_ml (mz_mr (mz_mr (mz_ml (mz_mt (mz_mt (mz_mt (mz_mt (mz_mt (mz_mt (mz_mt (mz_mt (mz_mt (mz_mt (mz_mt (mz_mt (mz_mt (mz_mt (mz_mt mz_mh))))))))))))))))))))))
theorem mz_i_wsX7_weight_63 : (.selects RX2 yX2_parentsOf yX2_parentsOf : Cond) ∈ wsX7_weight := mz_mt (mz_ml (mz_ml (mz_ml (mz_ml (mz_mr (mz_mr (mz_ml (mz_mt (mz_mt (mz_mt (mz_mt (mz_mt (mz_mt (mz_mt (mz_mt (mz_mt (mz_mt (mz_mt (mz_mt (mz_mt (mz_mt mz_mh)))))))))))))))))))))
theorem mz_i_wsX7_weight_62 : (.instanceMethod yX2_parentsOf : Cond) ∈ wsX7_weight := mz_mt (mz_ml (mz_ml (mz_ml (mz_ml (mz_mr (mz_mr (mz_ml (mz_mt (mz_mt (mz_mt (mz_mt (mz_mt (mz_mt (mz_mt (mz_mt (mz_mt (mz_mt (mz_mt (mz_mt (mz_mt mz_mh))))))))))))))))))))
theorem mz_i_wsX7_weight_61 : (.methodLink RX1 29 yX2_parentsOf : Cond) ∈ wsX7_weight := mz_mt (mz_ml (mz_ml (mz_ml (mz_ml (mz_mr (mz_mr (mz_ml (mz_mt (mz_mt (mz_mt (mz_mt (mz_mt (mz_mt (mz_mt (mz_mt (mz_mt (mz_mt (mz_mt (mz_mt mz_mh)))))))))))))))))))
theorem mz_i_wsX7_weight_60 : (.code yX1_partsUnder cX1_partsUnder 5 (some .int) : Cond) ∈ wsX7_weight := mz_mt (mz_ml (mz_ml (mz_ml (mz_ml (mz_mr (mz_mr (mz_ml (mz_mt (mz_mt (mz_mt (mz_mt (mz_mt (mz_mt (mz_mt (mz_mt (mz_mt (mz_mt (mz_mt mz_mh))))))))))))))))))
theorem mz_i_wsX7_weight_59 : (.initialized RX1 : Cond) ∈ wsX7_weight := mz_mt (mz_ml (mz_ml (mz_ml (mz_ml (mz_mr (mz_mr (mz_ml (mz_mt (mz_mt (mz_mt (mz_mt (mz_mt (mz_mt (mz_mt (mz_mt (mz_mt (mz_mt mz_mh)))))))))))))))))
theorem mz_i_wsX7_weight_58 : (.selects RX1 yX1_partsUnder yX1_partsUnder : Cond) ∈ wsX7_weight := mz_mt (mz_ml (mz_ml (mz_ml (mz_ml (mz_mr (mz_mr (mz_ml (mz_mt (mz_mt (mz_mt (mz_mt (mz_mt (mz_mt (mz_mt (mz_mt (mz_mt mz_mh))))))))))))))))
theorem mz_i_wsX7_weight_57 : (.instanceMethod yX1_partsUnder : Cond) ∈ wsX7_weight := mz_mt (mz_ml (mz_ml (mz_ml (mz_ml (mz_mr (mz_mr (mz_ml (mz_mt (mz_mt (mz_mt (mz_mt (mz_mt (mz_mt (mz_mt (mz_mt mz_mh)))))))))))))))
theorem mz_i_wsX7_weight_56 : (.methodLink RX6 37 yX1_partsUnder : Cond) ∈ wsX7_weight := mz_mt (mz_ml (mz_ml (mz_ml (mz_ml (mz_mr (mz_mr (mz_ml (mz_mt (mz_mt (mz_mt (mz_mt (mz_mt (mz_mt (mz_mt mz_mh))))))))))))))
theorem mz_i_wsX7_weight_55 : (.code yX7_bit cX7_bit 1 (some .int) : Cond) ∈ wsX7_weight := mz_mt (mz_ml (mz_ml (mz_ml (mz_ml (mz_mr (mz_mr (mz_ml (mz_mt (mz_mt (mz_mt (mz_mt (mz_mt (mz_mt mz_mh)))))))))))))
theorem mz_i_wsX7_weight_54 : (.static yX7_bit : Cond) ∈ wsX7_weight := mz_mt (mz_ml (mz_ml (mz_ml (mz_ml (mz_mr (mz_mr (mz_ml (mz_mt (mz_mt (mz_mt (mz_mt (mz_mt mz_mh))))))))))))
theorem mz_i_wsX7_weight_53 : (.constant RJ6 267 (252645135) : Cond) ∈ wsX7_weight := mz_mt (mz_ml (mz_ml (mz_ml (mz_ml (mz_mr (mz_mr (mz_ml (mz_mt (mz_mt (mz_mt (mz_mt mz_mh)))))))))))
theorem mz_i_wsX7_weight_52 : (.constant RJ6 266 (858993459) : Cond) ∈ wsX7_weight := mz_mt (mz_ml (mz_ml (mz_ml (mz_ml (mz_mr (mz_mr (mz_ml (mz_mt (mz_mt (mz_mt mz_mh))))))))))
theorem mz_i_wsX7_weight_51 : (.constant RJ6 265 (1431655765) : Cond) ∈ wsX7_weight := mz_mt (mz_ml (mz_ml (mz_ml (mz_ml (mz_mr (mz_mr (mz_ml (mz_mt (mz_mt mz_mh)))))))))
theorem mz_i_wsX7_weight_50 : (.code yJ6_bitCount_0f7a4 cJ6_bitCount_0f7a4 1 (some .int) : Cond) ∈ wsX7_weight := mz_mt (mz_ml (mz_ml (mz_ml (mz_ml (mz_mr (mz_mr (mz_ml (mz_mt mz_mh))))))))
theorem mz_i_wsX7_weight_49 : (.initialized RJ6 : Cond) ∈ wsX7_weight := mz_mt (mz_ml (mz_ml (mz_ml (mz_ml (mz_mr (mz_mr (mz_ml mz_mh)))))))
theorem mz_i_wsX7_weight_85 : (.code yX7_nextPart cX7_nextPart 2 (some .int) : Cond) ∈ wsX7_weight := mz_mt (mz_ml (mz_ml (mz_ml (mz_ml (mz_mr (mz_mr (mz_mr (mz_mt (mz_mt (mz_mt (mz_mt (mz_mt (mz_mt (mz_mt (mz_mt (mz_mt (mz_mt (mz_mt (mz_mt mz_mh)))))))))))))))))))
theorem mz_i_wsX7_weight_84 : (.static yX7_nextPart : Cond) ∈ wsX7_weight := mz_mt (mz_ml (mz_ml (mz_ml (mz_ml (mz_mr (mz_mr (mz_mr (mz_mt (mz_mt (mz_mt (mz_mt (mz_mt (mz_mt (mz_mt (mz_mt (mz_mt (mz_mt (mz_mt mz_mh))))))))))))))))))
theorem mz_i_wsX7_weight_83 : (.code yX6_split cX6_split 6 none : Cond) ∈ wsX7_weight := mz_mt (mz_ml (mz_ml (mz_ml (mz_ml (mz_mr (mz_mr (mz_mr (mz_mt (mz_mt (mz_mt (mz_mt (mz_mt (mz_mt (mz_mt (mz_mt (mz_mt (mz_mt mz_mh)))))))))))))))))
theorem mz_i_wsX7_weight_29 : (.initialized RX6 : Cond) ∈ wsX7_weight := mz_mt (mz_ml (mz_ml (mz_ml (mz_ml (mz_mr (mz_ml (mz_mt (mz_mt (mz_mt (mz_mt mz_mh))))))))))
theorem mz_i_wsX7_weight_82 : (.selects RX6 yX6_split yX6_split : Cond) ∈ wsX7_weight := mz_mt (mz_ml (mz_ml (mz_ml (mz_ml (mz_mr (mz_mr (mz_mr (mz_mt (mz_mt (mz_mt (mz_mt (mz_mt (mz_mt (mz_mt (mz_mt (mz_mt mz_mh))))))))))))))))
theorem mz_i_wsX7_weight_81 : (.instanceMethod yX6_split : Cond) ∈ wsX7_weight := mz_mt (mz_ml (mz_ml (mz_ml (mz_ml (mz_mr (mz_mr (mz_mr (mz_mt (mz_mt (mz_mt (mz_mt (mz_mt (mz_mt (mz_mt (mz_mt mz_mh)))))))))))))))
theorem mz_i_wsX7_weight_80 : (.methodLink RX6 43 yX6_split : Cond) ∈ wsX7_weight := mz_mt (mz_ml (mz_ml (mz_ml (mz_ml (mz_mr (mz_mr (mz_mr (mz_mt (mz_mt (mz_mt (mz_mt (mz_mt (mz_mt (mz_mt mz_mh))))))))))))))
theorem mz_i_wsX7_weight_79 : (.code yX1_isPlace cX1_isPlace 2 (some .boolean) : Cond) ∈ wsX7_weight := mz_mt (mz_ml (mz_ml (mz_ml (mz_ml (mz_mr (mz_mr (mz_mr (mz_mt (mz_mt (mz_mt (mz_mt (mz_mt (mz_mt mz_mh)))))))))))))
theorem mz_i_wsX7_weight_78 : (.static yX1_isPlace : Cond) ∈ wsX7_weight := mz_mt (mz_ml (mz_ml (mz_ml (mz_ml (mz_mr (mz_mr (mz_mr (mz_mt (mz_mt (mz_mt (mz_mt (mz_mt mz_mh))))))))))))
theorem mz_i_wsX7_weight_77 : (.methodLink RX1 15 yX1_isPlace : Cond) ∈ wsX7_weight := mz_mt (mz_ml (mz_ml (mz_ml (mz_ml (mz_mr (mz_mr (mz_mr (mz_mt (mz_mt (mz_mt (mz_mt mz_mh)))))))))))
theorem mz_i_wsX7_weight_76 : (.fieldLink RX1 9 "MadeItSo$Books" "parts" "[I" : Cond) ∈ wsX7_weight := mz_mt (mz_ml (mz_ml (mz_ml (mz_ml (mz_mr (mz_mr (mz_mr (mz_mt (mz_mt (mz_mt mz_mh))))))))))
theorem mz_i_wsX7_weight_75 : (.code yX1_read cX1_read 3 (some .int) : Cond) ∈ wsX7_weight := mz_mt (mz_ml (mz_ml (mz_ml (mz_ml (mz_mr (mz_mr (mz_mr (mz_mt (mz_mt mz_mh)))))))))
theorem mz_i_wsX7_weight_74 : (.selects RX1 yX1_read yX1_read : Cond) ∈ wsX7_weight := mz_mt (mz_ml (mz_ml (mz_ml (mz_ml (mz_mr (mz_mr (mz_mr (mz_mt mz_mh))))))))
theorem mz_i_wsX7_weight_73 : (.instanceMethod yX1_read : Cond) ∈ wsX7_weight := mz_mt (mz_ml (mz_ml (mz_ml (mz_ml (mz_mr (mz_mr (mz_mr mz_mh)))))))
theorem mz_i_wsX7_weight_72 : (.methodLink RX1 38 yX1_read : Cond) ∈ wsX7_weight := mz_mt (mz_ml (mz_ml (mz_ml (mz_ml (mz_mr (mz_mr (mz_ml (mz_mt (mz_mt (mz_mt (mz_mt (mz_mt (mz_mt (mz_mt (mz_mt (mz_mt (mz_mt (mz_mt (mz_mt (mz_mt (mz_mt (mz_mt (mz_mt (mz_mt (mz_mt (mz_mt (mz_mt (mz_mt (mz_mt (mz_mt mz_mh))))))))))))))))))))))))))))))
theorem mz_i_wsX7_weight_71 : (.code yX1_rowOf cX1_rowOf 5 (some .int) : Cond) ∈ wsX7_weight := mz_mt (mz_ml (mz_ml (mz_ml (mz_ml (mz_mr (mz_mr (mz_ml (mz_mt (mz_mt (mz_mt (mz_mt (mz_mt (mz_mt (mz_mt (mz_mt (mz_mt (mz_mt (mz_mt (mz_mt (mz_mt (mz_mt (mz_mt (mz_mt (mz_mt (mz_mt (mz_mt (mz_mt (mz_mt (mz_mt mz_mh)))))))))))))))))))))))))))))
theorem mz_i_wsX7_weight_70 : (.static yX1_rowOf : Cond) ∈ wsX7_weight := mz_mt (mz_ml (mz_ml (mz_ml (mz_ml (mz_mr (mz_mr (mz_ml (mz_mt (mz_mt (mz_mt (mz_mt (mz_mt (mz_mt (mz_mt (mz_mt (mz_mt (mz_mt (mz_mt (mz_mt (mz_mt (mz_mt (mz_mt (mz_mt (mz_mt (mz_mt (mz_mt (mz_mt (mz_mt mz_mh))))))))))))))))))))))))))))
theorem mz_i_wsX7_weight_69 : (.methodLink RX1 34 yX1_rowOf : Cond) ∈ wsX7_weight := mz_mt (mz_ml (mz_ml (mz_ml (mz_ml (mz_mr (mz_mr (mz_ml (mz_mt (mz_mt (mz_mt (mz_mt (mz_mt (mz_mt (mz_mt (mz_mt (mz_mt (mz_mt (mz_mt (mz_mt (mz_mt (mz_mt (mz_mt (mz_mt (mz_mt (mz_mt (mz_mt (mz_mt mz_mh)))))))))))))))))))))))))))
theorem mz_f_wsX7_weight_wsX60 : ∀ w ∈ wsX60, w ∈ wsX7_weight := fun _ h => mz_mt (mz_ml (mz_mr h))
theorem mz_f_wsX7_weight_wsX10 : ∀ w ∈ wsX10, w ∈ wsX7_weight := fun _ h => mz_mt (mz_mr h)
set_option maxRecDepth 20000 in
theorem ggX7_weight_X6_weigh : GoodIn wsX7_weight wsX6_weigh := goodIn_sub (mz_fc mz_i_wsX7_weight_30 (mz_fa (mz_fa (mz_fa (mz_fa (mz_fc mz_i_wsX7_weight_31 (mz_fc mz_i_wsX7_weight_32 (mz_fc mz_i_wsX7_weight_33 (mz_fc mz_i_wsX7_weight_18 (mz_fc mz_i_wsX7_weight_19 (mz_fc mz_i_wsX7_weight_20 (mz_fc mz_i_wsX7_weight_21 (mz_fc mz_i_wsX7_weight_22 (mz_fc mz_i_wsX7_weight_34 (mz_fc mz_i_wsX7_weight_35 (mz_fc mz_i_wsX7_weight_36 (mz_fc mz_i_wsX7_weight_37 (mz_fc mz_i_wsX7_weight_38 (mz_fc mz_i_wsX7_weight_39 (mz_fc mz_i_wsX7_weight_40 (mz_fc mz_i_wsX7_weight_41 (mz_fc mz_i_wsX7_weight_42 (mz_fc mz_i_wsX7_weight_43 (mz_fc mz_i_wsX7_weight_8 (mz_fc mz_i_wsX7_weight_44 (mz_fc mz_i_wsX7_weight_45 (mz_fc mz_i_wsX7_weight_46 (mz_fc mz_i_wsX7_weight_47 (mz_fc mz_i_wsX7_weight_48 mz_fn)))))))))))))))))))))))) (mz_fa (mz_fc mz_i_wsX7_weight_49 (mz_fc mz_i_wsX7_weight_50 (mz_fc mz_i_wsX7_weight_51 (mz_fc mz_i_wsX7_weight_52 (mz_fc mz_i_wsX7_weight_53 (mz_fc mz_i_wsX7_weight_54 (mz_fc mz_i_wsX7_weight_55 (mz_fc mz_i_wsX7_weight_56 (mz_fc mz_i_wsX7_weight_57 (mz_fc mz_i_wsX7_weight_58 (mz_fc mz_i_wsX7_weight_59 (mz_fc mz_i_wsX7_weight_60 (mz_fc mz_i_wsX7_weight_11 (mz_fc mz_i_wsX7_weight_12 (mz_fc mz_i_wsX7_weight_24 (mz_fc mz_i_wsX7_weight_25 (mz_fc mz_i_wsX7_weight_61 (mz_fc mz_i_wsX7_weight_62 (mz_fc mz_i_wsX7_weight_63 (mz_fc mz_i_wsX7_weight_64 (mz_fc mz_i_wsX7_weight_65 (mz_fc mz_i_wsX7_weight_66 (mz_fc mz_i_wsX7_weight_67 (mz_fc mz_i_wsX7_weight_68 mz_fn)))))))))))))))))))))))) (mz_fc mz_i_wsX7_weight_69 (mz_fc mz_i_wsX7_weight_70 (mz_fc mz_i_wsX7_weight_71 (mz_fc mz_i_wsX7_weight_72 (mz_fc mz_i_wsX7_weight_73 (mz_fc mz_i_wsX7_weight_74 (mz_fc mz_i_wsX7_weight_75 (mz_fc mz_i_wsX7_weight_76 (mz_fc mz_i_wsX7_weight_77 (mz_fc mz_i_wsX7_weight_78 (mz_fc mz_i_wsX7_weight_79 (mz_fc mz_i_wsX7_weight_80 (mz_fc mz_i_wsX7_weight_81 (mz_fc mz_i_wsX7_weight_82 (mz_fc mz_i_wsX7_weight_29 (mz_fc mz_i_wsX7_weight_83 (mz_fc mz_i_wsX7_weight_84 (mz_fc mz_i_wsX7_weight_85 mz_fn)))))))))))))))))))) (mz_f_wsX7_weight_wsX60)) (mz_f_wsX7_weight_wsX20)) (mz_f_wsX7_weight_wsX10))) (by decide +kernel)
theorem mz_i_wsX7_weight_28 : (.selects RX6 yX6_weigh yX6_weigh : Cond) ∈ wsX7_weight := mz_mt (mz_ml (mz_ml (mz_ml (mz_ml (mz_mr (mz_ml (mz_mt (mz_mt (mz_mt mz_mh)))))))))
theorem mz_i_wsX7_weight_27 : (.instanceMethod yX6_weigh : Cond) ∈ wsX7_weight := mz_mt (mz_ml (mz_ml (mz_ml (mz_ml (mz_mr (mz_ml (mz_mt (mz_mt mz_mh))))))))
theorem mz_i_wsX7_weight_26 : (.methodLink RX7 123 yX6_weigh : Cond) ∈ wsX7_weight := mz_mt (mz_ml (mz_ml (mz_ml (mz_ml (mz_mr (mz_ml (mz_mt mz_mh)))))))
set_option maxRecDepth 20000 in
theorem gX7_weight_X6_weigh : GoodIn wsX7_weight (wsV RX7 123 RX6 yX6_weigh wsX6_weigh) := goodIn_app (goodIn_sub (mz_fc mz_i_wsX7_weight_26 (mz_fc mz_i_wsX7_weight_27 (mz_fc mz_i_wsX7_weight_28 (mz_fc mz_i_wsX7_weight_29 mz_fn)))) (by decide +kernel)) ggX7_weight_X6_weigh
set_option maxRecDepth 20000 in
theorem ggX7_weight_X7_heapOf : GoodIn wsX7_weight wsX7_heapOf := goodIn_sub (mz_fc mz_i_wsX7_weight_12 (mz_fn)) (by decide +kernel)
set_option maxRecDepth 20000 in
theorem gX7_weight_X7_heapOf : GoodIn wsX7_weight (va_wsS RX7 127 yX7_heapOf wsX7_heapOf) := goodIn_app (goodIn_sub (mz_fc mz_i_wsX7_weight_10 (mz_fc mz_i_wsX7_weight_11 (mz_fc mz_i_wsX7_weight_8 mz_fn))) (by decide +kernel)) ggX7_weight_X7_heapOf
set_option maxRecDepth 20000 in
theorem ggX7_weight_X7_onesOf : GoodIn wsX7_weight wsX7_onesOf := goodIn_sub (mz_fc mz_i_wsX7_weight_25 (mz_fn)) (by decide +kernel)
set_option maxRecDepth 20000 in
theorem gX7_weight_X7_onesOf : GoodIn wsX7_weight (va_wsS RX7 130 yX7_onesOf wsX7_onesOf) := goodIn_app (goodIn_sub (mz_fc mz_i_wsX7_weight_23 (mz_fc mz_i_wsX7_weight_24 (mz_fc mz_i_wsX7_weight_8 mz_fn))) (by decide +kernel)) ggX7_weight_X7_onesOf
theorem mz_i_wsX7_weight_89 : (.code yX6_having cX6_having 9 (some .long) : Cond) ∈ wsX7_weight := mz_mt (mz_ml (mz_ml (mz_ml (mz_ml (mz_mr (mz_mr (mz_mr (mz_mt (mz_mt (mz_mt (mz_mt (mz_mt (mz_mt (mz_mt (mz_mt (mz_mt (mz_mt (mz_mt (mz_mt (mz_mt (mz_mt (mz_mt (mz_mt mz_mh)))))))))))))))))))))))
set_option maxRecDepth 20000 in
theorem ggX7_weight_X6_having : GoodIn wsX7_weight wsX6_having := goodIn_sub (mz_fc mz_i_wsX7_weight_89 (mz_fa (mz_fc mz_i_wsX7_weight_31 (mz_fc mz_i_wsX7_weight_32 (mz_fc mz_i_wsX7_weight_45 (mz_fc mz_i_wsX7_weight_8 (mz_fc mz_i_wsX7_weight_46 (mz_fc mz_i_wsX7_weight_47 (mz_fc mz_i_wsX7_weight_48 (mz_fc mz_i_wsX7_weight_49 (mz_fc mz_i_wsX7_weight_50 (mz_fc mz_i_wsX7_weight_51 (mz_fc mz_i_wsX7_weight_52 (mz_fc mz_i_wsX7_weight_53 (mz_fc mz_i_wsX7_weight_84 (mz_fc mz_i_wsX7_weight_85 mz_fn)))))))))))))) (mz_f_wsX7_weight_wsX60))) (by decide +kernel)
theorem mz_i_wsX7_weight_88 : (.selects RX6 yX6_having yX6_having : Cond) ∈ wsX7_weight := mz_mt (mz_ml (mz_ml (mz_ml (mz_ml (mz_mr (mz_mr (mz_mr (mz_mt (mz_mt (mz_mt (mz_mt (mz_mt (mz_mt (mz_mt (mz_mt (mz_mt (mz_mt (mz_mt (mz_mt (mz_mt (mz_mt (mz_mt mz_mh))))))))))))))))))))))
theorem mz_i_wsX7_weight_87 : (.instanceMethod yX6_having : Cond) ∈ wsX7_weight := mz_mt (mz_ml (mz_ml (mz_ml (mz_ml (mz_mr (mz_mr (mz_mr (mz_mt (mz_mt (mz_mt (mz_mt (mz_mt (mz_mt (mz_mt (mz_mt (mz_mt (mz_mt (mz_mt (mz_mt (mz_mt (mz_mt mz_mh)))))))))))))))))))))
theorem mz_i_wsX7_weight_86 : (.methodLink RX7 133 yX6_having : Cond) ∈ wsX7_weight := mz_mt (mz_ml (mz_ml (mz_ml (mz_ml (mz_mr (mz_mr (mz_mr (mz_mt (mz_mt (mz_mt (mz_mt (mz_mt (mz_mt (mz_mt (mz_mt (mz_mt (mz_mt (mz_mt (mz_mt (mz_mt mz_mh))))))))))))))))))))
set_option maxRecDepth 20000 in
theorem gX7_weight_X6_having : GoodIn wsX7_weight (wsV RX7 133 RX6 yX6_having wsX6_having) := goodIn_app (goodIn_sub (mz_fc mz_i_wsX7_weight_86 (mz_fc mz_i_wsX7_weight_87 (mz_fc mz_i_wsX7_weight_88 (mz_fc mz_i_wsX7_weight_29 mz_fn)))) (by decide +kernel)) ggX7_weight_X6_having
theorem dX7_weight_0 : decode cX7_weight 0 = .ok (.aload_n 0, 1) := by decide +kernel
theorem dX7_weight_1 : decode cX7_weight 1 = .ok (.iload_n 1, 1) := by decide +kernel
theorem dX7_weight_2 : decode cX7_weight 2 = .ok (.invokevirtual 118, 3) := by decide +kernel
theorem dX7_weight_5 : decode cX7_weight 5 = .ok (.ifCond .eq 11, 3) := by decide +kernel
theorem dX7_weight_8 : decode cX7_weight 8 = .ok (.aload_n 0, 1) := by decide +kernel
theorem dX7_weight_9 : decode cX7_weight 9 = .ok (.iload_n 2, 1) := by decide +kernel
theorem dX7_weight_10 : decode cX7_weight 10 = .ok (.invokevirtual 118, 3) := by decide +kernel
theorem dX7_weight_13 : decode cX7_weight 13 = .ok (.ifCond .ne 7, 3) := by decide +kernel
theorem dX7_weight_16 : decode cX7_weight 16 = .ok (.ldc2_w 121, 3) := by decide +kernel
theorem dX7_weight_19 : decode cX7_weight 19 = .ok (.lreturn, 1) := by decide +kernel
theorem dX7_weight_20 : decode cX7_weight 20 = .ok (.aload_n 0, 1) := by decide +kernel
theorem dX7_weight_21 : decode cX7_weight 21 = .ok (.getfield 29, 3) := by decide +kernel
theorem dX7_weight_24 : decode cX7_weight 24 = .ok (.aload_n 0, 1) := by decide +kernel
theorem dX7_weight_25 : decode cX7_weight 25 = .ok (.getfield 12, 3) := by decide +kernel
theorem dX7_weight_28 : decode cX7_weight 28 = .ok (.aload_n 0, 1) := by decide +kernel
theorem dX7_weight_29 : decode cX7_weight 29 = .ok (.getfield 22, 3) := by decide +kernel
theorem dX7_weight_32 : decode cX7_weight 32 = .ok (.iload_n 2, 1) := by decide +kernel
theorem dX7_weight_33 : decode cX7_weight 33 = .ok (.invokevirtual 123, 3) := by decide +kernel
theorem dX7_weight_36 : decode cX7_weight 36 = .ok (.aload_n 0, 1) := by decide +kernel
theorem dX7_weight_37 : decode cX7_weight 37 = .ok (.getfield 29, 3) := by decide +kernel
theorem dX7_weight_40 : decode cX7_weight 40 = .ok (.iload_n 1, 1) := by decide +kernel
theorem dX7_weight_41 : decode cX7_weight 41 = .ok (.invokestatic 127, 3) := by decide +kernel
theorem dX7_weight_44 : decode cX7_weight 44 = .ok (.iload_n 1, 1) := by decide +kernel
theorem dX7_weight_45 : decode cX7_weight 45 = .ok (.invokestatic 130, 3) := by decide +kernel
theorem dX7_weight_48 : decode cX7_weight 48 = .ok (.invokevirtual 133, 3) := by decide +kernel
theorem dX7_weight_51 : decode cX7_weight 51 = .ok (.lreturn, 1) := by decide +kernel
theorem mz_i_wsX7_chance_10 : (.code yX7_isSetting cX7_isSetting 2 (some .boolean) : Cond) ∈ wsX7_chance := mz_mt (mz_ml (mz_ml (mz_ml (mz_ml (mz_ml (mz_mt (mz_mt (mz_mt (mz_mt (mz_mt (mz_mt (mz_mt (mz_mt (mz_mt mz_mh))))))))))))))
theorem mz_i_wsX7_chance_26 : (.code yX7_onesOf cX7_onesOf 1 (some .int) : Cond) ∈ wsX7_chance := mz_mt (mz_ml (mz_ml (mz_ml (mz_ml (mz_mr (mz_ml (mz_mt mz_mh)))))))
theorem mz_i_wsX7_chance_25 : (.static yX7_onesOf : Cond) ∈ wsX7_chance := mz_mt (mz_ml (mz_ml (mz_ml (mz_ml (mz_mr (mz_ml mz_mh))))))
theorem mz_i_wsX7_chance_24 : (.methodLink RX7 130 yX7_onesOf : Cond) ∈ wsX7_chance := mz_mt (mz_ml (mz_ml (mz_ml (mz_ml (mz_ml (mz_mt (mz_mt (mz_mt (mz_mt (mz_mt (mz_mt (mz_mt (mz_mt (mz_mt (mz_mt (mz_mt (mz_mt (mz_mt (mz_mt (mz_mt (mz_mt (mz_mt (mz_mt (mz_mt (mz_mt (mz_mt (mz_mt (mz_mt mz_mh))))))))))))))))))))))))))))
theorem mz_i_wsX7_chance_23 : (.fieldLink RX2 18 "MadeItSo$Drawing" "things" "I" : Cond) ∈ wsX7_chance := mz_mt (mz_ml (mz_ml (mz_ml (mz_ml (mz_ml (mz_mt (mz_mt (mz_mt (mz_mt (mz_mt (mz_mt (mz_mt (mz_mt (mz_mt (mz_mt (mz_mt (mz_mt (mz_mt (mz_mt (mz_mt (mz_mt (mz_mt (mz_mt (mz_mt (mz_mt (mz_mt (mz_mt mz_mh)))))))))))))))))))))))))))
theorem mz_i_wsX7_chance_22 : (.code yX2_everything cX2_everything 1 (some .int) : Cond) ∈ wsX7_chance := mz_mt (mz_ml (mz_ml (mz_ml (mz_ml (mz_ml (mz_mt (mz_mt (mz_mt (mz_mt (mz_mt (mz_mt (mz_mt (mz_mt (mz_mt (mz_mt (mz_mt (mz_mt (mz_mt (mz_mt (mz_mt (mz_mt (mz_mt (mz_mt (mz_mt (mz_mt (mz_mt mz_mh))))))))))))))))))))))))))
theorem mz_i_wsX7_chance_21 : (.initialized RX2 : Cond) ∈ wsX7_chance := mz_mt (mz_ml (mz_ml (mz_ml (mz_ml (mz_ml (mz_mt (mz_mt (mz_mt (mz_mt (mz_mt (mz_mt (mz_mt (mz_mt (mz_mt (mz_mt (mz_mt (mz_mt (mz_mt (mz_mt (mz_mt (mz_mt (mz_mt (mz_mt (mz_mt (mz_mt mz_mh)))))))))))))))))))))))))
theorem mz_i_wsX7_chance_20 : (.selects RX2 yX2_everything yX2_everything : Cond) ∈ wsX7_chance := mz_mt (mz_ml (mz_ml (mz_ml (mz_ml (mz_ml (mz_mt (mz_mt (mz_mt (mz_mt (mz_mt (mz_mt (mz_mt (mz_mt (mz_mt (mz_mt (mz_mt (mz_mt (mz_mt (mz_mt (mz_mt (mz_mt (mz_mt (mz_mt (mz_mt mz_mh))))))))))))))))))))))))
theorem mz_i_wsX7_chance_19 : (.instanceMethod yX2_everything : Cond) ∈ wsX7_chance := mz_mt (mz_ml (mz_ml (mz_ml (mz_ml (mz_ml (mz_mt (mz_mt (mz_mt (mz_mt (mz_mt (mz_mt (mz_mt (mz_mt (mz_mt (mz_mt (mz_mt (mz_mt (mz_mt (mz_mt (mz_mt (mz_mt (mz_mt (mz_mt mz_mh)))))))))))))))))))))))
theorem mz_i_wsX7_chance_18 : (.methodLink RX7 223 yX2_everything : Cond) ∈ wsX7_chance := mz_mt (mz_ml (mz_ml (mz_ml (mz_ml (mz_ml (mz_mt (mz_mt (mz_mt (mz_mt (mz_mt (mz_mt (mz_mt (mz_mt (mz_mt (mz_mt (mz_mt (mz_mt (mz_mt (mz_mt (mz_mt (mz_mt (mz_mt mz_mh))))))))))))))))))))))
theorem mz_i_wsX7_chance_4 : (.fieldLink RX7 12 "MadeItSo" "drawing" "LMadeItSo$Drawing;" : Cond) ∈ wsX7_chance := mz_mt (mz_ml (mz_ml (mz_ml (mz_ml (mz_ml (mz_mt (mz_mt (mz_mt mz_mh))))))))
theorem mz_i_wsX7_chance_17 : (.code yX7_isHeap cX7_isHeap 2 (some .boolean) : Cond) ∈ wsX7_chance := mz_mt (mz_ml (mz_ml (mz_ml (mz_ml (mz_ml (mz_mt (mz_mt (mz_mt (mz_mt (mz_mt (mz_mt (mz_mt (mz_mt (mz_mt (mz_mt (mz_mt (mz_mt (mz_mt (mz_mt (mz_mt (mz_mt mz_mh)))))))))))))))))))))
theorem mz_i_wsX7_chance_16 : (.selects RX7 yX7_isHeap yX7_isHeap : Cond) ∈ wsX7_chance := mz_mt (mz_ml (mz_ml (mz_ml (mz_ml (mz_ml (mz_mt (mz_mt (mz_mt (mz_mt (mz_mt (mz_mt (mz_mt (mz_mt (mz_mt (mz_mt (mz_mt (mz_mt (mz_mt (mz_mt (mz_mt mz_mh))))))))))))))))))))
theorem mz_i_wsX7_chance_15 : (.instanceMethod yX7_isHeap : Cond) ∈ wsX7_chance := mz_mt (mz_ml (mz_ml (mz_ml (mz_ml (mz_ml (mz_mt (mz_mt (mz_mt (mz_mt (mz_mt (mz_mt (mz_mt (mz_mt (mz_mt (mz_mt (mz_mt (mz_mt (mz_mt (mz_mt mz_mh)))))))))))))))))))
theorem mz_i_wsX7_chance_14 : (.methodLink RX7 144 yX7_isHeap : Cond) ∈ wsX7_chance := mz_mt (mz_ml (mz_ml (mz_ml (mz_ml (mz_ml (mz_mt (mz_mt (mz_mt (mz_mt (mz_mt (mz_mt (mz_mt (mz_mt (mz_mt (mz_mt (mz_mt (mz_mt (mz_mt mz_mh))))))))))))))))))
theorem mz_i_wsX7_chance_13 : (.code yX7_heapOf cX7_heapOf 1 (some .int) : Cond) ∈ wsX7_chance := mz_mt (mz_ml (mz_ml (mz_ml (mz_ml (mz_ml (mz_mt (mz_mt (mz_mt (mz_mt (mz_mt (mz_mt (mz_mt (mz_mt (mz_mt (mz_mt (mz_mt (mz_mt mz_mh)))))))))))))))))
theorem mz_i_wsX7_chance_9 : (.initialized RX7 : Cond) ∈ wsX7_chance := mz_mt (mz_ml (mz_ml (mz_ml (mz_ml (mz_ml (mz_mt (mz_mt (mz_mt (mz_mt (mz_mt (mz_mt (mz_mt (mz_mt mz_mh)))))))))))))
theorem mz_i_wsX7_chance_12 : (.static yX7_heapOf : Cond) ∈ wsX7_chance := mz_mt (mz_ml (mz_ml (mz_ml (mz_ml (mz_ml (mz_mt (mz_mt (mz_mt (mz_mt (mz_mt (mz_mt (mz_mt (mz_mt (mz_mt (mz_mt (mz_mt mz_mh))))))))))))))))
theorem mz_i_wsX7_chance_11 : (.methodLink RX7 127 yX7_heapOf : Cond) ∈ wsX7_chance := mz_mt (mz_ml (mz_ml (mz_ml (mz_ml (mz_ml (mz_mt (mz_mt (mz_mt (mz_mt (mz_mt (mz_mt (mz_mt (mz_mt (mz_mt (mz_mt mz_mh)))))))))))))))
theorem mz_f_wsX7_chance_wsX70 : ∀ w ∈ wsX70, w ∈ wsX7_chance := fun _ h => mz_mt (mz_ml (mz_ml (mz_ml (mz_mr h))))
theorem mz_f_wsX7_chance_wsX20 : ∀ w ∈ wsX20, w ∈ wsX7_chance := fun _ h => mz_mt (mz_ml (mz_ml (mz_mr h)))
set_option maxRecDepth 20000 in
theorem ggX7_chance_X7_isSetting : GoodIn wsX7_chance wsX7_isSetting := goodIn_sub (mz_fc mz_i_wsX7_chance_10 (mz_fa (mz_fa (mz_fc mz_i_wsX7_chance_11 (mz_fc mz_i_wsX7_chance_12 (mz_fc mz_i_wsX7_chance_9 (mz_fc mz_i_wsX7_chance_13 (mz_fc mz_i_wsX7_chance_14 (mz_fc mz_i_wsX7_chance_15 (mz_fc mz_i_wsX7_chance_16 (mz_fc mz_i_wsX7_chance_17 (mz_fc mz_i_wsX7_chance_4 (mz_fc mz_i_wsX7_chance_18 (mz_fc mz_i_wsX7_chance_19 (mz_fc mz_i_wsX7_chance_20 (mz_fc mz_i_wsX7_chance_21 (mz_fc mz_i_wsX7_chance_22 (mz_fc mz_i_wsX7_chance_23 (mz_fc mz_i_wsX7_chance_24 (mz_fc mz_i_wsX7_chance_25 (mz_fc mz_i_wsX7_chance_26 mz_fn)))))))))))))))))) (mz_f_wsX7_chance_wsX70)) (mz_f_wsX7_chance_wsX20))) (by decide +kernel)
theorem mz_i_wsX7_chance_8 : (.selects RX7 yX7_isSetting yX7_isSetting : Cond) ∈ wsX7_chance := mz_mt (mz_ml (mz_ml (mz_ml (mz_ml (mz_ml (mz_mt (mz_mt (mz_mt (mz_mt (mz_mt (mz_mt (mz_mt mz_mh))))))))))))
theorem mz_i_wsX7_chance_7 : (.instanceMethod yX7_isSetting : Cond) ∈ wsX7_chance := mz_mt (mz_ml (mz_ml (mz_ml (mz_ml (mz_ml (mz_mt (mz_mt (mz_mt (mz_mt (mz_mt (mz_mt mz_mh)))))))))))
theorem mz_i_wsX7_chance_6 : (.methodLink RX7 118 yX7_isSetting : Cond) ∈ wsX7_chance := mz_mt (mz_ml (mz_ml (mz_ml (mz_ml (mz_ml (mz_mt (mz_mt (mz_mt (mz_mt (mz_mt mz_mh))))))))))
set_option maxRecDepth 20000 in
theorem gX7_chance_X7_isSetting : GoodIn wsX7_chance (wsV RX7 118 RX7 yX7_isSetting wsX7_isSetting) := goodIn_app (goodIn_sub (mz_fc mz_i_wsX7_chance_6 (mz_fc mz_i_wsX7_chance_7 (mz_fc mz_i_wsX7_chance_8 (mz_fc mz_i_wsX7_chance_9 mz_fn)))) (by decide +kernel)) ggX7_chance_X7_isSetting
theorem mz_i_wsX7_chance_31 : (.code yX6_weigh cX6_weigh 10 none : Cond) ∈ wsX7_chance := mz_mt (mz_ml (mz_ml (mz_ml (mz_ml (mz_mr (mz_ml (mz_mt (mz_mt (mz_mt (mz_mt (mz_mt (mz_mt mz_mh))))))))))))
theorem mz_i_wsX7_chance_49 : (.static yJ6_bitCount_0f7a4 : Cond) ∈ wsX7_chance := mz_mt (mz_ml (mz_ml (mz_ml (mz_ml (mz_mr (mz_mr (mz_ml mz_mh)))))))
theorem mz_i_wsX7_chance_48 : (.methodLink RX7 239 yJ6_bitCount_0f7a4 : Cond) ∈ wsX7_chance := mz_mt (mz_ml (mz_ml (mz_ml (mz_ml (mz_mr (mz_ml (mz_mt (mz_mt (mz_mt (mz_mt (mz_mt (mz_mt (mz_mt (mz_mt (mz_mt (mz_mt (mz_mt (mz_mt (mz_mt (mz_mt (mz_mt (mz_mt (mz_mt (mz_mt (mz_mt (mz_mt (mz_mt (mz_mt (mz_mt mz_mh)))))))))))))))))))))))))))))
theorem mz_i_wsX7_chance_47 : (.code yX7_partsOf cX7_partsOf 1 (some .int) : Cond) ∈ wsX7_chance := mz_mt (mz_ml (mz_ml (mz_ml (mz_ml (mz_mr (mz_ml (mz_mt (mz_mt (mz_mt (mz_mt (mz_mt (mz_mt (mz_mt (mz_mt (mz_mt (mz_mt (mz_mt (mz_mt (mz_mt (mz_mt (mz_mt (mz_mt (mz_mt (mz_mt (mz_mt (mz_mt (mz_mt (mz_mt mz_mh))))))))))))))))))))))))))))
theorem mz_i_wsX7_chance_46 : (.static yX7_partsOf : Cond) ∈ wsX7_chance := mz_mt (mz_ml (mz_ml (mz_ml (mz_ml (mz_mr (mz_ml (mz_mt (mz_mt (mz_mt (mz_mt (mz_mt (mz_mt (mz_mt (mz_mt (mz_mt (mz_mt (mz_mt (mz_mt (mz_mt (mz_mt (mz_mt (mz_mt (mz_mt (mz_mt (mz_mt (mz_mt (mz_mt mz_mh)))))))))))))))))))))))))))
theorem mz_i_wsX7_chance_45 : (.code yX7_inHeap cX7_inHeap 2 (some .boolean) : Cond) ∈ wsX7_chance := mz_mt (mz_ml (mz_ml (mz_ml (mz_ml (mz_mr (mz_ml (mz_mt (mz_mt (mz_mt (mz_mt (mz_mt (mz_mt (mz_mt (mz_mt (mz_mt (mz_mt (mz_mt (mz_mt (mz_mt (mz_mt (mz_mt (mz_mt (mz_mt (mz_mt (mz_mt (mz_mt mz_mh))))))))))))))))))))))))))
theorem mz_i_wsX7_chance_44 : (.static yX7_inHeap : Cond) ∈ wsX7_chance := mz_mt (mz_ml (mz_ml (mz_ml (mz_ml (mz_mr (mz_ml (mz_mt (mz_mt (mz_mt (mz_mt (mz_mt (mz_mt (mz_mt (mz_mt (mz_mt (mz_mt (mz_mt (mz_mt (mz_mt (mz_mt (mz_mt (mz_mt (mz_mt (mz_mt (mz_mt mz_mh)))))))))))))))))))))))))
theorem mz_i_wsX7_chance_43 : (.fieldLink RX2 9 "MadeItSo$Drawing" "parents" "[I" : Cond) ∈ wsX7_chance := mz_mt (mz_ml (mz_ml (mz_ml (mz_ml (mz_mr (mz_ml (mz_mt (mz_mt (mz_mt (mz_mt (mz_mt (mz_mt (mz_mt (mz_mt (mz_mt (mz_mt (mz_mt (mz_mt (mz_mt (mz_mt (mz_mt (mz_mt (mz_mt (mz_mt mz_mh))))))))))))))))))))))))
theorem mz_i_wsX7_chance_42 : (.code yX2_nextAfter cX2_nextAfter 3 (some .int) : Cond) ∈ wsX7_chance := mz_mt (mz_ml (mz_ml (mz_ml (mz_ml (mz_mr (mz_ml (mz_mt (mz_mt (mz_mt (mz_mt (mz_mt (mz_mt (mz_mt (mz_mt (mz_mt (mz_mt (mz_mt (mz_mt (mz_mt (mz_mt (mz_mt (mz_mt (mz_mt mz_mh)))))))))))))))))))))))
theorem mz_i_wsX7_chance_41 : (.selects RX2 yX2_nextAfter yX2_nextAfter : Cond) ∈ wsX7_chance := mz_mt (mz_ml (mz_ml (mz_ml (mz_ml (mz_mr (mz_ml (mz_mt (mz_mt (mz_mt (mz_mt (mz_mt (mz_mt (mz_mt (mz_mt (mz_mt (mz_mt (mz_mt (mz_mt (mz_mt (mz_mt (mz_mt (mz_mt mz_mh))))))))))))))))))))))
theorem mz_i_wsX7_chance_40 : (.instanceMethod yX2_nextAfter : Cond) ∈ wsX7_chance := mz_mt (mz_ml (mz_ml (mz_ml (mz_ml (mz_mr (mz_ml (mz_mt (mz_mt (mz_mt (mz_mt (mz_mt (mz_mt (mz_mt (mz_mt (mz_mt (mz_mt (mz_mt (mz_mt (mz_mt (mz_mt (mz_mt mz_mh)))))))))))))))))))))
theorem mz_i_wsX7_chance_39 : (.methodLink RX6 27 yX2_nextAfter : Cond) ∈ wsX7_chance := mz_mt (mz_ml (mz_ml (mz_ml (mz_ml (mz_mr (mz_ml (mz_mt (mz_mt (mz_mt (mz_mt (mz_mt (mz_mt (mz_mt (mz_mt (mz_mt (mz_mt (mz_mt (mz_mt (mz_mt (mz_mt mz_mh))))))))))))))))))))
theorem mz_i_wsX7_chance_38 : (.code yX2_size cX2_size 1 (some .int) : Cond) ∈ wsX7_chance := mz_mt (mz_ml (mz_ml (mz_ml (mz_ml (mz_mr (mz_ml (mz_mt (mz_mt (mz_mt (mz_mt (mz_mt (mz_mt (mz_mt (mz_mt (mz_mt (mz_mt (mz_mt (mz_mt (mz_mt mz_mh)))))))))))))))))))
theorem mz_i_wsX7_chance_37 : (.selects RX2 yX2_size yX2_size : Cond) ∈ wsX7_chance := mz_mt (mz_ml (mz_ml (mz_ml (mz_ml (mz_mr (mz_ml (mz_mt (mz_mt (mz_mt (mz_mt (mz_mt (mz_mt (mz_mt (mz_mt (mz_mt (mz_mt (mz_mt (mz_mt mz_mh))))))))))))))))))
theorem mz_i_wsX7_chance_36 : (.instanceMethod yX2_size : Cond) ∈ wsX7_chance := mz_mt (mz_ml (mz_ml (mz_ml (mz_ml (mz_mr (mz_ml (mz_mt (mz_mt (mz_mt (mz_mt (mz_mt (mz_mt (mz_mt (mz_mt (mz_mt (mz_mt (mz_mt mz_mh)))))))))))))))))
theorem mz_i_wsX7_chance_35 : (.methodLink RX6 24 yX2_size : Cond) ∈ wsX7_chance := mz_mt (mz_ml (mz_ml (mz_ml (mz_ml (mz_mr (mz_ml (mz_mt (mz_mt (mz_mt (mz_mt (mz_mt (mz_mt (mz_mt (mz_mt (mz_mt (mz_mt mz_mh))))))))))))))))
theorem mz_i_wsX7_chance_34 : (.methodLink RX6 19 yX2_everything : Cond) ∈ wsX7_chance := mz_mt (mz_ml (mz_ml (mz_ml (mz_ml (mz_mr (mz_ml (mz_mt (mz_mt (mz_mt (mz_mt (mz_mt (mz_mt (mz_mt (mz_mt (mz_mt mz_mh)))))))))))))))
theorem mz_i_wsX7_chance_33 : (.fieldLink RX6 9 "MadeItSo$Weights" "ofCase" "[J" : Cond) ∈ wsX7_chance := mz_mt (mz_ml (mz_ml (mz_ml (mz_ml (mz_mr (mz_ml (mz_mt (mz_mt (mz_mt (mz_mt (mz_mt (mz_mt (mz_mt (mz_mt mz_mh))))))))))))))
theorem mz_i_wsX7_chance_32 : (.fieldLink RX6 15 "MadeItSo$Weights" "everything" "I" : Cond) ∈ wsX7_chance := mz_mt (mz_ml (mz_ml (mz_ml (mz_ml (mz_mr (mz_ml (mz_mt (mz_mt (mz_mt (mz_mt (mz_mt (mz_mt (mz_mt mz_mh)))))))))))))
theorem mz_i_wsX7_chance_69 : (.code yX2_has cX2_has 2 (some .boolean) : Cond) ∈ wsX7_chance := mz_mt (mz_ml (mz_ml (mz_ml (mz_ml (mz_mr (mz_mr (mz_ml (mz_mt (mz_mt (mz_mt (mz_mt (mz_mt (mz_mt (mz_mt (mz_mt (mz_mt (mz_mt (mz_mt (mz_mt (mz_mt (mz_mt (mz_mt (mz_mt (mz_mt (mz_mt (mz_mt (mz_mt mz_mh)))))))))))))))))))))))))))
theorem mz_i_wsX7_chance_68 : (.selects RX2 yX2_has yX2_has : Cond) ∈ wsX7_chance := mz_mt (mz_ml (mz_ml (mz_ml (mz_ml (mz_mr (mz_mr (mz_ml (mz_mt (mz_mt (mz_mt (mz_mt (mz_mt (mz_mt (mz_mt (mz_mt (mz_mt (mz_mt (mz_mt (mz_mt (mz_mt (mz_mt (mz_mt (mz_mt (mz_mt (mz_mt (mz_mt mz_mh))))))))))))))))))))))))))
theorem mz_i_wsX7_chance_67 : (.instanceMethod yX2_has : Cond) ∈ wsX7_chance := mz_mt (mz_ml (mz_ml (mz_ml (mz_ml (mz_mr (mz_mr (mz_ml (mz_mt (mz_mt (mz_mt (mz_mt (mz_mt (mz_mt (mz_mt (mz_mt (mz_mt (mz_mt (mz_mt (mz_mt (mz_mt (mz_mt (mz_mt (mz_mt (mz_mt (mz_mt mz_mh)))))))))))))))))))))))))
theorem mz_i_wsX7_chance_66 : (.methodLink RX2 22 yX2_has : Cond) ∈ wsX7_chance := mz_mt (mz_ml (mz_ml (mz_ml (mz_ml (mz_mr (mz_mr (mz_ml (mz_mt (mz_mt (mz_mt (mz_mt (mz_mt (mz_mt (mz_mt (mz_mt (mz_mt (mz_mt (mz_mt (mz_mt (mz_mt (mz_mt (mz_mt (mz_mt (mz_mt mz_mh))))))))))))))))))))))))
theorem mz_i_wsX7_chance_65 : (.code yX2_parentsOf cX2_parentsOf 2 (some .int) : Cond) ∈ wsX7_chance := mz_mt (mz_ml (mz_ml (mz_ml (mz_ml (mz_mr (mz_mr (mz_ml (mz_mt (mz_mt (mz_mt (mz_mt (mz_mt (mz_mt (mz_mt (mz_mt (mz_mt (mz_mt (mz_mt (mz_mt (mz_mt (mz_mt (mz_mt (mz_mt mz_mh)))))))))))))))))))))))
theorem mz_i_wsX7_chance_64 : (.selects RX2 yX2_parentsOf yX2_parentsOf : Cond) ∈ wsX7_chance := mz_mt (mz_ml (mz_ml (mz_ml (mz_ml (mz_mr (mz_mr (mz_ml (mz_mt (mz_mt (mz_mt (mz_mt (mz_mt (mz_mt (mz_mt (mz_mt (mz_mt (mz_mt (mz_mt (mz_mt (mz_mt (mz_mt (mz_mt mz_mh))))))))))))))))))))))
theorem mz_i_wsX7_chance_63 : (.instanceMethod yX2_parentsOf : Cond) ∈ wsX7_chance := mz_mt (mz_ml (mz_ml (mz_ml (mz_ml (mz_mr (mz_mr (mz_ml (mz_mt (mz_mt (mz_mt (mz_mt (mz_mt (mz_mt (mz_mt (mz_mt (mz_mt (mz_mt (mz_mt (mz_mt (mz_mt (mz_mt mz_mh)))))))))))))))))))))
theorem mz_i_wsX7_chance_62 : (.methodLink RX1 29 yX2_parentsOf : Cond) ∈ wsX7_chance := mz_mt (mz_ml (mz_ml (mz_ml (mz_ml (mz_mr (mz_mr (mz_ml (mz_mt (mz_mt (mz_mt (mz_mt (mz_mt (mz_mt (mz_mt (mz_mt (mz_mt (mz_mt (mz_mt (mz_mt (mz_mt mz_mh))))))))))))))))))))
theorem mz_i_wsX7_chance_61 : (.code yX1_partsUnder cX1_partsUnder 5 (some .int) : Cond) ∈ wsX7_chance := mz_mt (mz_ml (mz_ml (mz_ml (mz_ml (mz_mr (mz_mr (mz_ml (mz_mt (mz_mt (mz_mt (mz_mt (mz_mt (mz_mt (mz_mt (mz_mt (mz_mt (mz_mt (mz_mt (mz_mt mz_mh)))))))))))))))))))
theorem mz_i_wsX7_chance_60 : (.initialized RX1 : Cond) ∈ wsX7_chance := mz_mt (mz_ml (mz_ml (mz_ml (mz_ml (mz_mr (mz_mr (mz_ml (mz_mt (mz_mt (mz_mt (mz_mt (mz_mt (mz_mt (mz_mt (mz_mt (mz_mt (mz_mt (mz_mt mz_mh))))))))))))))))))
theorem mz_i_wsX7_chance_59 : (.selects RX1 yX1_partsUnder yX1_partsUnder : Cond) ∈ wsX7_chance := mz_mt (mz_ml (mz_ml (mz_ml (mz_ml (mz_mr (mz_mr (mz_ml (mz_mt (mz_mt (mz_mt (mz_mt (mz_mt (mz_mt (mz_mt (mz_mt (mz_mt (mz_mt mz_mh)))))))))))))))))
theorem mz_i_wsX7_chance_58 : (.instanceMethod yX1_partsUnder : Cond) ∈ wsX7_chance := mz_mt (mz_ml (mz_ml (mz_ml (mz_ml (mz_mr (mz_mr (mz_ml (mz_mt (mz_mt (mz_mt (mz_mt (mz_mt (mz_mt (mz_mt (mz_mt (mz_mt mz_mh))))))))))))))))
theorem mz_i_wsX7_chance_57 : (.methodLink RX6 37 yX1_partsUnder : Cond) ∈ wsX7_chance := mz_mt (mz_ml (mz_ml (mz_ml (mz_ml (mz_mr (mz_mr (mz_ml (mz_mt (mz_mt (mz_mt (mz_mt (mz_mt (mz_mt (mz_mt (mz_mt mz_mh)))))))))))))))
theorem mz_i_wsX7_chance_56 : (.code yX7_bit cX7_bit 1 (some .int) : Cond) ∈ wsX7_chance := mz_mt (mz_ml (mz_ml (mz_ml (mz_ml (mz_mr (mz_mr (mz_ml (mz_mt (mz_mt (mz_mt (mz_mt (mz_mt (mz_mt (mz_mt mz_mh))))))))))))))
theorem mz_i_wsX7_chance_55 : (.static yX7_bit : Cond) ∈ wsX7_chance := mz_mt (mz_ml (mz_ml (mz_ml (mz_ml (mz_mr (mz_mr (mz_ml (mz_mt (mz_mt (mz_mt (mz_mt (mz_mt (mz_mt mz_mh)))))))))))))
theorem mz_i_wsX7_chance_54 : (.constant RJ6 267 (252645135) : Cond) ∈ wsX7_chance := mz_mt (mz_ml (mz_ml (mz_ml (mz_ml (mz_mr (mz_mr (mz_ml (mz_mt (mz_mt (mz_mt (mz_mt (mz_mt mz_mh))))))))))))
theorem mz_i_wsX7_chance_53 : (.constant RJ6 266 (858993459) : Cond) ∈ wsX7_chance := mz_mt (mz_ml (mz_ml (mz_ml (mz_ml (mz_mr (mz_mr (mz_ml (mz_mt (mz_mt (mz_mt (mz_mt mz_mh)))))))))))
theorem mz_i_wsX7_chance_52 : (.constant RJ6 265 (1431655765) : Cond) ∈ wsX7_chance := mz_mt (mz_ml (mz_ml (mz_ml (mz_ml (mz_mr (mz_mr (mz_ml (mz_mt (mz_mt (mz_mt mz_mh))))))))))
theorem mz_i_wsX7_chance_51 : (.code yJ6_bitCount_0f7a4 cJ6_bitCount_0f7a4 1 (some .int) : Cond) ∈ wsX7_chance := mz_mt (mz_ml (mz_ml (mz_ml (mz_ml (mz_mr (mz_mr (mz_ml (mz_mt (mz_mt mz_mh)))))))))
theorem mz_i_wsX7_chance_50 : (.initialized RJ6 : Cond) ∈ wsX7_chance := mz_mt (mz_ml (mz_ml (mz_ml (mz_ml (mz_mr (mz_mr (mz_ml (mz_mt mz_mh))))))))
theorem mz_i_wsX7_chance_86 : (.code yX7_nextPart cX7_nextPart 2 (some .int) : Cond) ∈ wsX7_chance := mz_mt (mz_ml (mz_ml (mz_ml (mz_ml (mz_mr (mz_mr (mz_mr (mz_ml (mz_mt (mz_mt (mz_mt (mz_mt (mz_mt (mz_mt (mz_mt (mz_mt (mz_mt (mz_mt (mz_mt (mz_mt (mz_mt mz_mh)))))))))))))))))))))
theorem mz_i_wsX7_chance_85 : (.static yX7_nextPart : Cond) ∈ wsX7_chance := mz_mt (mz_ml (mz_ml (mz_ml (mz_ml (mz_mr (mz_mr (mz_mr (mz_ml (mz_mt (mz_mt (mz_mt (mz_mt (mz_mt (mz_mt (mz_mt (mz_mt (mz_mt (mz_mt (mz_mt (mz_mt mz_mh))))))))))))))))))))
theorem mz_i_wsX7_chance_84 : (.code yX6_split cX6_split 6 none : Cond) ∈ wsX7_chance := mz_mt (mz_ml (mz_ml (mz_ml (mz_ml (mz_mr (mz_mr (mz_mr (mz_ml (mz_mt (mz_mt (mz_mt (mz_mt (mz_mt (mz_mt (mz_mt (mz_mt (mz_mt (mz_mt (mz_mt mz_mh)))))))))))))))))))
theorem mz_i_wsX7_chance_30 : (.initialized RX6 : Cond) ∈ wsX7_chance := mz_mt (mz_ml (mz_ml (mz_ml (mz_ml (mz_mr (mz_ml (mz_mt (mz_mt (mz_mt (mz_mt (mz_mt mz_mh)))))))))))
theorem mz_i_wsX7_chance_83 : (.selects RX6 yX6_split yX6_split : Cond) ∈ wsX7_chance := mz_mt (mz_ml (mz_ml (mz_ml (mz_ml (mz_mr (mz_mr (mz_mr (mz_ml (mz_mt (mz_mt (mz_mt (mz_mt (mz_mt (mz_mt (mz_mt (mz_mt (mz_mt (mz_mt mz_mh))))))))))))))))))
theorem mz_i_wsX7_chance_82 : (.instanceMethod yX6_split : Cond) ∈ wsX7_chance := mz_mt (mz_ml (mz_ml (mz_ml (mz_ml (mz_mr (mz_mr (mz_mr (mz_ml (mz_mt (mz_mt (mz_mt (mz_mt (mz_mt (mz_mt (mz_mt (mz_mt (mz_mt mz_mh)))))))))))))))))
theorem mz_i_wsX7_chance_81 : (.methodLink RX6 43 yX6_split : Cond) ∈ wsX7_chance := mz_mt (mz_ml (mz_ml (mz_ml (mz_ml (mz_mr (mz_mr (mz_mr (mz_ml (mz_mt (mz_mt (mz_mt (mz_mt (mz_mt (mz_mt (mz_mt (mz_mt mz_mh))))))))))))))))
theorem mz_i_wsX7_chance_80 : (.code yX1_isPlace cX1_isPlace 2 (some .boolean) : Cond) ∈ wsX7_chance := mz_mt (mz_ml (mz_ml (mz_ml (mz_ml (mz_mr (mz_mr (mz_mr (mz_ml (mz_mt (mz_mt (mz_mt (mz_mt (mz_mt (mz_mt (mz_mt mz_mh)))))))))))))))
theorem mz_i_wsX7_chance_79 : (.static yX1_isPlace : Cond) ∈ wsX7_chance := mz_mt (mz_ml (mz_ml (mz_ml (mz_ml (mz_mr (mz_mr (mz_mr (mz_ml (mz_mt (mz_mt (mz_mt (mz_mt (mz_mt (mz_mt mz_mh))))))))))))))
theorem mz_i_wsX7_chance_78 : (.methodLink RX1 15 yX1_isPlace : Cond) ∈ wsX7_chance := mz_mt (mz_ml (mz_ml (mz_ml (mz_ml (mz_mr (mz_mr (mz_mr (mz_ml (mz_mt (mz_mt (mz_mt (mz_mt (mz_mt mz_mh)))))))))))))
theorem mz_i_wsX7_chance_77 : (.fieldLink RX1 9 "MadeItSo$Books" "parts" "[I" : Cond) ∈ wsX7_chance := mz_mt (mz_ml (mz_ml (mz_ml (mz_ml (mz_mr (mz_mr (mz_mr (mz_ml (mz_mt (mz_mt (mz_mt (mz_mt mz_mh))))))))))))
theorem mz_i_wsX7_chance_76 : (.code yX1_read cX1_read 3 (some .int) : Cond) ∈ wsX7_chance := mz_mt (mz_ml (mz_ml (mz_ml (mz_ml (mz_mr (mz_mr (mz_mr (mz_ml (mz_mt (mz_mt (mz_mt mz_mh)))))))))))
theorem mz_i_wsX7_chance_75 : (.selects RX1 yX1_read yX1_read : Cond) ∈ wsX7_chance := mz_mt (mz_ml (mz_ml (mz_ml (mz_ml (mz_mr (mz_mr (mz_mr (mz_ml (mz_mt (mz_mt mz_mh))))))))))
theorem mz_i_wsX7_chance_74 : (.instanceMethod yX1_read : Cond) ∈ wsX7_chance := mz_mt (mz_ml (mz_ml (mz_ml (mz_ml (mz_mr (mz_mr (mz_mr (mz_ml (mz_mt mz_mh)))))))))
theorem mz_i_wsX7_chance_73 : (.methodLink RX1 38 yX1_read : Cond) ∈ wsX7_chance := mz_mt (mz_ml (mz_ml (mz_ml (mz_ml (mz_mr (mz_mr (mz_mr (mz_ml mz_mh))))))))
theorem mz_i_wsX7_chance_72 : (.code yX1_rowOf cX1_rowOf 5 (some .int) : Cond) ∈ wsX7_chance := mz_mt (mz_ml (mz_ml (mz_ml (mz_ml (mz_mr (mz_mr (mz_ml (mz_mt (mz_mt (mz_mt (mz_mt (mz_mt (mz_mt (mz_mt (mz_mt (mz_mt (mz_mt (mz_mt (mz_mt (mz_mt (mz_mt (mz_mt (mz_mt (mz_mt (mz_mt (mz_mt (mz_mt (mz_mt (mz_mt (mz_mt mz_mh))))))))))))))))))))))))))))))
theorem mz_i_wsX7_chance_71 : (.static yX1_rowOf : Cond) ∈ wsX7_chance := mz_mt (mz_ml (mz_ml (mz_ml (mz_ml (mz_mr (mz_mr (mz_ml (mz_mt (mz_mt (mz_mt (mz_mt (mz_mt (mz_mt (mz_mt (mz_mt (mz_mt (mz_mt (mz_mt (mz_mt (mz_mt (mz_mt (mz_mt (mz_mt (mz_mt (mz_mt (mz_mt (mz_mt (mz_mt (mz_mt mz_mh)))))))))))))))))))))))))))))
theorem mz_i_wsX7_chance_70 : (.methodLink RX1 34 yX1_rowOf : Cond) ∈ wsX7_chance := mz_mt (mz_ml (mz_ml (mz_ml (mz_ml (mz_mr (mz_mr (mz_ml (mz_mt (mz_mt (mz_mt (mz_mt (mz_mt (mz_mt (mz_mt (mz_mt (mz_mt (mz_mt (mz_mt (mz_mt (mz_mt (mz_mt (mz_mt (mz_mt (mz_mt (mz_mt (mz_mt (mz_mt (mz_mt mz_mh))))))))))))))))))))))))))))
theorem mz_f_wsX7_chance_wsX60 : ∀ w ∈ wsX60, w ∈ wsX7_chance := fun _ h => mz_mt (mz_ml (mz_mr h))
theorem mz_f_wsX7_chance_wsX10 : ∀ w ∈ wsX10, w ∈ wsX7_chance := fun _ h => mz_mt (mz_mr h)
set_option maxRecDepth 20000 in
theorem ggX7_chance_X6_weigh : GoodIn wsX7_chance wsX6_weigh := goodIn_sub (mz_fc mz_i_wsX7_chance_31 (mz_fa (mz_fa (mz_fa (mz_fa (mz_fc mz_i_wsX7_chance_32 (mz_fc mz_i_wsX7_chance_33 (mz_fc mz_i_wsX7_chance_34 (mz_fc mz_i_wsX7_chance_19 (mz_fc mz_i_wsX7_chance_20 (mz_fc mz_i_wsX7_chance_21 (mz_fc mz_i_wsX7_chance_22 (mz_fc mz_i_wsX7_chance_23 (mz_fc mz_i_wsX7_chance_35 (mz_fc mz_i_wsX7_chance_36 (mz_fc mz_i_wsX7_chance_37 (mz_fc mz_i_wsX7_chance_38 (mz_fc mz_i_wsX7_chance_39 (mz_fc mz_i_wsX7_chance_40 (mz_fc mz_i_wsX7_chance_41 (mz_fc mz_i_wsX7_chance_42 (mz_fc mz_i_wsX7_chance_43 (mz_fc mz_i_wsX7_chance_44 (mz_fc mz_i_wsX7_chance_9 (mz_fc mz_i_wsX7_chance_45 (mz_fc mz_i_wsX7_chance_46 (mz_fc mz_i_wsX7_chance_47 (mz_fc mz_i_wsX7_chance_48 (mz_fc mz_i_wsX7_chance_49 mz_fn)))))))))))))))))))))))) (mz_fa (mz_fc mz_i_wsX7_chance_50 (mz_fc mz_i_wsX7_chance_51 (mz_fc mz_i_wsX7_chance_52 (mz_fc mz_i_wsX7_chance_53 (mz_fc mz_i_wsX7_chance_54 (mz_fc mz_i_wsX7_chance_55 (mz_fc mz_i_wsX7_chance_56 (mz_fc mz_i_wsX7_chance_57 (mz_fc mz_i_wsX7_chance_58 (mz_fc mz_i_wsX7_chance_59 (mz_fc mz_i_wsX7_chance_60 (mz_fc mz_i_wsX7_chance_61 (mz_fc mz_i_wsX7_chance_12 (mz_fc mz_i_wsX7_chance_13 (mz_fc mz_i_wsX7_chance_25 (mz_fc mz_i_wsX7_chance_26 (mz_fc mz_i_wsX7_chance_62 (mz_fc mz_i_wsX7_chance_63 (mz_fc mz_i_wsX7_chance_64 (mz_fc mz_i_wsX7_chance_65 (mz_fc mz_i_wsX7_chance_66 (mz_fc mz_i_wsX7_chance_67 (mz_fc mz_i_wsX7_chance_68 (mz_fc mz_i_wsX7_chance_69 mz_fn)))))))))))))))))))))))) (mz_fc mz_i_wsX7_chance_70 (mz_fc mz_i_wsX7_chance_71 (mz_fc mz_i_wsX7_chance_72 (mz_fc mz_i_wsX7_chance_73 (mz_fc mz_i_wsX7_chance_74 (mz_fc mz_i_wsX7_chance_75 (mz_fc mz_i_wsX7_chance_76 (mz_fc mz_i_wsX7_chance_77 (mz_fc mz_i_wsX7_chance_78 (mz_fc mz_i_wsX7_chance_79 (mz_fc mz_i_wsX7_chance_80 (mz_fc mz_i_wsX7_chance_81 (mz_fc mz_i_wsX7_chance_82 (mz_fc mz_i_wsX7_chance_83 (mz_fc mz_i_wsX7_chance_30 (mz_fc mz_i_wsX7_chance_84 (mz_fc mz_i_wsX7_chance_85 (mz_fc mz_i_wsX7_chance_86 mz_fn)))))))))))))))))))) (mz_f_wsX7_chance_wsX60)) (mz_f_wsX7_chance_wsX20)) (mz_f_wsX7_chance_wsX10))) (by decide +kernel)
theorem mz_i_wsX7_chance_29 : (.selects RX6 yX6_weigh yX6_weigh : Cond) ∈ wsX7_chance := mz_mt (mz_ml (mz_ml (mz_ml (mz_ml (mz_mr (mz_ml (mz_mt (mz_mt (mz_mt (mz_mt mz_mh))))))))))
theorem mz_i_wsX7_chance_28 : (.instanceMethod yX6_weigh : Cond) ∈ wsX7_chance := mz_mt (mz_ml (mz_ml (mz_ml (mz_ml (mz_mr (mz_ml (mz_mt (mz_mt (mz_mt mz_mh)))))))))
theorem mz_i_wsX7_chance_27 : (.methodLink RX7 123 yX6_weigh : Cond) ∈ wsX7_chance := mz_mt (mz_ml (mz_ml (mz_ml (mz_ml (mz_mr (mz_ml (mz_mt (mz_mt mz_mh))))))))
set_option maxRecDepth 20000 in
theorem gX7_chance_X6_weigh : GoodIn wsX7_chance (wsV RX7 123 RX6 yX6_weigh wsX6_weigh) := goodIn_app (goodIn_sub (mz_fc mz_i_wsX7_chance_27 (mz_fc mz_i_wsX7_chance_28 (mz_fc mz_i_wsX7_chance_29 (mz_fc mz_i_wsX7_chance_30 mz_fn)))) (by decide +kernel)) ggX7_chance_X6_weigh
set_option maxRecDepth 20000 in
theorem ggX7_chance_X7_heapOf : GoodIn wsX7_chance wsX7_heapOf := goodIn_sub (mz_fc mz_i_wsX7_chance_13 (mz_fn)) (by decide +kernel)
set_option maxRecDepth 20000 in
theorem gX7_chance_X7_heapOf : GoodIn wsX7_chance (va_wsS RX7 127 yX7_heapOf wsX7_heapOf) := goodIn_app (goodIn_sub (mz_fc mz_i_wsX7_chance_11 (mz_fc mz_i_wsX7_chance_12 (mz_fc mz_i_wsX7_chance_9 mz_fn))) (by decide +kernel)) ggX7_chance_X7_heapOf
set_option maxRecDepth 20000 in
theorem ggX7_chance_X7_onesOf : GoodIn wsX7_chance wsX7_onesOf := goodIn_sub (mz_fc mz_i_wsX7_chance_26 (mz_fn)) (by decide +kernel)
set_option maxRecDepth 20000 in
theorem gX7_chance_X7_onesOf : GoodIn wsX7_chance (va_wsS RX7 130 yX7_onesOf wsX7_onesOf) := goodIn_app (goodIn_sub (mz_fc mz_i_wsX7_chance_24 (mz_fc mz_i_wsX7_chance_25 (mz_fc mz_i_wsX7_chance_9 mz_fn))) (by decide +kernel)) ggX7_chance_X7_onesOf
theorem mz_i_wsX7_chance_90 : (.code yX6_having cX6_having 9 (some .long) : Cond) ∈ wsX7_chance := mz_mt (mz_ml (mz_ml (mz_ml (mz_ml (mz_mr (mz_mr (mz_mr (mz_ml (mz_mt (mz_mt (mz_mt (mz_mt (mz_mt (mz_mt (mz_mt (mz_mt (mz_mt (mz_mt (mz_mt (mz_mt (mz_mt (mz_mt (mz_mt (mz_mt (mz_mt mz_mh)))))))))))))))))))))))))
set_option maxRecDepth 20000 in
theorem ggX7_chance_X6_having : GoodIn wsX7_chance wsX6_having := goodIn_sub (mz_fc mz_i_wsX7_chance_90 (mz_fa (mz_fc mz_i_wsX7_chance_32 (mz_fc mz_i_wsX7_chance_33 (mz_fc mz_i_wsX7_chance_46 (mz_fc mz_i_wsX7_chance_9 (mz_fc mz_i_wsX7_chance_47 (mz_fc mz_i_wsX7_chance_48 (mz_fc mz_i_wsX7_chance_49 (mz_fc mz_i_wsX7_chance_50 (mz_fc mz_i_wsX7_chance_51 (mz_fc mz_i_wsX7_chance_52 (mz_fc mz_i_wsX7_chance_53 (mz_fc mz_i_wsX7_chance_54 (mz_fc mz_i_wsX7_chance_85 (mz_fc mz_i_wsX7_chance_86 mz_fn)))))))))))))) (mz_f_wsX7_chance_wsX60))) (by decide +kernel)
theorem mz_i_wsX7_chance_89 : (.selects RX6 yX6_having yX6_having : Cond) ∈ wsX7_chance := mz_mt (mz_ml (mz_ml (mz_ml (mz_ml (mz_mr (mz_mr (mz_mr (mz_ml (mz_mt (mz_mt (mz_mt (mz_mt (mz_mt (mz_mt (mz_mt (mz_mt (mz_mt (mz_mt (mz_mt (mz_mt (mz_mt (mz_mt (mz_mt (mz_mt mz_mh))))))))))))))))))))))))
theorem mz_i_wsX7_chance_88 : (.instanceMethod yX6_having : Cond) ∈ wsX7_chance := mz_mt (mz_ml (mz_ml (mz_ml (mz_ml (mz_mr (mz_mr (mz_mr (mz_ml (mz_mt (mz_mt (mz_mt (mz_mt (mz_mt (mz_mt (mz_mt (mz_mt (mz_mt (mz_mt (mz_mt (mz_mt (mz_mt (mz_mt (mz_mt mz_mh)))))))))))))))))))))))
theorem mz_i_wsX7_chance_87 : (.methodLink RX7 133 yX6_having : Cond) ∈ wsX7_chance := mz_mt (mz_ml (mz_ml (mz_ml (mz_ml (mz_mr (mz_mr (mz_mr (mz_ml (mz_mt (mz_mt (mz_mt (mz_mt (mz_mt (mz_mt (mz_mt (mz_mt (mz_mt (mz_mt (mz_mt (mz_mt (mz_mt (mz_mt mz_mh))))))))))))))))))))))
set_option maxRecDepth 20000 in
theorem gX7_chance_X6_having : GoodIn wsX7_chance (wsV RX7 133 RX6 yX6_having wsX6_having) := goodIn_app (goodIn_sub (mz_fc mz_i_wsX7_chance_87 (mz_fc mz_i_wsX7_chance_88 (mz_fc mz_i_wsX7_chance_89 (mz_fc mz_i_wsX7_chance_30 mz_fn)))) (by decide +kernel)) ggX7_chance_X6_having
theorem mz_i_wsX7_chance_93 : (.code yX7_clash cX7_clash 2 (some .boolean) : Cond) ∈ wsX7_chance := mz_mt (mz_ml (mz_ml (mz_ml (mz_ml (mz_mr (mz_mr (mz_mr (mz_ml (mz_mt (mz_mt (mz_mt (mz_mt (mz_mt (mz_mt (mz_mt (mz_mt (mz_mt (mz_mt (mz_mt (mz_mt (mz_mt (mz_mt (mz_mt (mz_mt (mz_mt (mz_mt (mz_mt (mz_mt mz_mh))))))))))))))))))))))))))))
set_option maxRecDepth 20000 in
theorem ggX7_chance_X7_clash : GoodIn wsX7_chance wsX7_clash := goodIn_sub (mz_fc mz_i_wsX7_chance_93 (mz_fc mz_i_wsX7_chance_11 (mz_fc mz_i_wsX7_chance_12 (mz_fc mz_i_wsX7_chance_9 (mz_fc mz_i_wsX7_chance_13 (mz_fc mz_i_wsX7_chance_24 (mz_fc mz_i_wsX7_chance_25 (mz_fc mz_i_wsX7_chance_26 mz_fn)))))))) (by decide +kernel)
theorem mz_i_wsX7_chance_92 : (.static yX7_clash : Cond) ∈ wsX7_chance := mz_mt (mz_ml (mz_ml (mz_ml (mz_ml (mz_mr (mz_mr (mz_mr (mz_ml (mz_mt (mz_mt (mz_mt (mz_mt (mz_mt (mz_mt (mz_mt (mz_mt (mz_mt (mz_mt (mz_mt (mz_mt (mz_mt (mz_mt (mz_mt (mz_mt (mz_mt (mz_mt (mz_mt mz_mh)))))))))))))))))))))))))))
theorem mz_i_wsX7_chance_91 : (.methodLink RX7 137 yX7_clash : Cond) ∈ wsX7_chance := mz_mt (mz_ml (mz_ml (mz_ml (mz_ml (mz_mr (mz_mr (mz_mr (mz_ml (mz_mt (mz_mt (mz_mt (mz_mt (mz_mt (mz_mt (mz_mt (mz_mt (mz_mt (mz_mt (mz_mt (mz_mt (mz_mt (mz_mt (mz_mt (mz_mt (mz_mt (mz_mt mz_mh))))))))))))))))))))))))))
set_option maxRecDepth 20000 in
theorem gX7_chance_X7_clash : GoodIn wsX7_chance (va_wsS RX7 137 yX7_clash wsX7_clash) := goodIn_app (goodIn_sub (mz_fc mz_i_wsX7_chance_91 (mz_fc mz_i_wsX7_chance_92 (mz_fc mz_i_wsX7_chance_9 mz_fn))) (by decide +kernel)) ggX7_chance_X7_clash
theorem mz_i_wsX7_chance_96 : (.code yX7_commonDivisor cX7_commonDivisor 11 (some .long) : Cond) ∈ wsX7_chance := mz_mt (mz_ml (mz_ml (mz_ml (mz_ml (mz_mr (mz_mr (mz_mr (mz_ml (mz_mt (mz_mt (mz_mt (mz_mt (mz_mt (mz_mt (mz_mt (mz_mt (mz_mt (mz_mt (mz_mt (mz_mt (mz_mt (mz_mt (mz_mt (mz_mt (mz_mt (mz_mt (mz_mt (mz_mt (mz_mt (mz_mt (mz_mt mz_mh)))))))))))))))))))))))))))))))
theorem mz_i_wsX7_chance_100 : (.code Lib.MathLoose.max_long.x Lib.MathLoose.max_long.code 4 (some .long) : Cond) ∈ wsX7_chance := mz_mt (mz_ml (mz_ml (mz_ml (mz_ml (mz_mr (mz_mr (mz_mr (mz_mr (mz_mt (mz_mt (mz_mt mz_mh)))))))))))
theorem mz_i_wsX7_chance_99 : (.initialized "java/lang/Math" : Cond) ∈ wsX7_chance := mz_mt (mz_ml (mz_ml (mz_ml (mz_ml (mz_mr (mz_mr (mz_mr (mz_mr (mz_mt (mz_mt mz_mh))))))))))
theorem mz_i_wsX7_chance_98 : (.static Lib.MathLoose.max_long.x : Cond) ∈ wsX7_chance := mz_mt (mz_ml (mz_ml (mz_ml (mz_ml (mz_mr (mz_mr (mz_mr (mz_mr (mz_mt mz_mh)))))))))
theorem mz_i_wsX7_chance_97 : (.methodLink RX7 199 Lib.MathLoose.max_long.x : Cond) ∈ wsX7_chance := mz_mt (mz_ml (mz_ml (mz_ml (mz_ml (mz_mr (mz_mr (mz_mr (mz_mr mz_mh))))))))
set_option maxRecDepth 20000 in
theorem ggX7_chance_X7_commonDivisor : GoodIn wsX7_chance wsX7_commonDivisor := goodIn_sub (mz_fc mz_i_wsX7_chance_96 (mz_fc mz_i_wsX7_chance_97 (mz_fc mz_i_wsX7_chance_98 (mz_fc mz_i_wsX7_chance_99 (mz_fc mz_i_wsX7_chance_100 mz_fn))))) (by decide +kernel)
theorem mz_i_wsX7_chance_95 : (.static yX7_commonDivisor : Cond) ∈ wsX7_chance := mz_mt (mz_ml (mz_ml (mz_ml (mz_ml (mz_mr (mz_mr (mz_mr (mz_ml (mz_mt (mz_mt (mz_mt (mz_mt (mz_mt (mz_mt (mz_mt (mz_mt (mz_mt (mz_mt (mz_mt (mz_mt (mz_mt (mz_mt (mz_mt (mz_mt (mz_mt (mz_mt (mz_mt (mz_mt (mz_mt (mz_mt mz_mh))))))))))))))))))))))))))))))
theorem mz_i_wsX7_chance_94 : (.methodLink RX7 140 yX7_commonDivisor : Cond) ∈ wsX7_chance := mz_mt (mz_ml (mz_ml (mz_ml (mz_ml (mz_mr (mz_mr (mz_mr (mz_ml (mz_mt (mz_mt (mz_mt (mz_mt (mz_mt (mz_mt (mz_mt (mz_mt (mz_mt (mz_mt (mz_mt (mz_mt (mz_mt (mz_mt (mz_mt (mz_mt (mz_mt (mz_mt (mz_mt (mz_mt (mz_mt mz_mh)))))))))))))))))))))))))))))
set_option maxRecDepth 20000 in
theorem gX7_chance_X7_commonDivisor : GoodIn wsX7_chance (va_wsS RX7 140 yX7_commonDivisor wsX7_commonDivisor) := goodIn_app (goodIn_sub (mz_fc mz_i_wsX7_chance_94 (mz_fc mz_i_wsX7_chance_95 (mz_fc mz_i_wsX7_chance_9 mz_fn))) (by decide +kernel)) ggX7_chance_X7_commonDivisor
theorem dX7_chance_0 : decode cX7_chance 0 = .ok (.aload_n 0, 1) := by decide +kernel
theorem dX7_chance_1 : decode cX7_chance 1 = .ok (.lconst 0, 1) := by decide +kernel
theorem dX7_chance_2 : decode cX7_chance 2 = .ok (.putfield 58, 3) := by decide +kernel
theorem dX7_chance_5 : decode cX7_chance 5 = .ok (.aload_n 0, 1) := by decide +kernel
theorem dX7_chance_6 : decode cX7_chance 6 = .ok (.lconst 1, 1) := by decide +kernel
theorem dX7_chance_7 : decode cX7_chance 7 = .ok (.putfield 62, 3) := by decide +kernel
theorem dX7_chance_10 : decode cX7_chance 10 = .ok (.aload_n 0, 1) := by decide +kernel
theorem dX7_chance_11 : decode cX7_chance 11 = .ok (.iload_n 1, 1) := by decide +kernel
theorem dX7_chance_12 : decode cX7_chance 12 = .ok (.invokevirtual 118, 3) := by decide +kernel
theorem dX7_chance_15 : decode cX7_chance 15 = .ok (.ifCond .eq 19, 3) := by decide +kernel
theorem dX7_chance_18 : decode cX7_chance 18 = .ok (.aload_n 0, 1) := by decide +kernel
theorem dX7_chance_19 : decode cX7_chance 19 = .ok (.iload_n 2, 1) := by decide +kernel
theorem dX7_chance_20 : decode cX7_chance 20 = .ok (.invokevirtual 118, 3) := by decide +kernel
theorem dX7_chance_23 : decode cX7_chance 23 = .ok (.ifCond .eq 11, 3) := by decide +kernel
theorem dX7_chance_26 : decode cX7_chance 26 = .ok (.aload_n 0, 1) := by decide +kernel
theorem dX7_chance_27 : decode cX7_chance 27 = .ok (.iload_n 3, 1) := by decide +kernel
theorem dX7_chance_28 : decode cX7_chance 28 = .ok (.invokevirtual 118, 3) := by decide +kernel
theorem dX7_chance_31 : decode cX7_chance 31 = .ok (.ifCond .ne 5, 3) := by decide +kernel
theorem dX7_chance_34 : decode cX7_chance 34 = .ok (.iconst (-1), 1) := by decide +kernel
theorem dX7_chance_35 : decode cX7_chance 35 = .ok (.ireturn, 1) := by decide +kernel
theorem dX7_chance_36 : decode cX7_chance 36 = .ok (.aload_n 0, 1) := by decide +kernel
theorem dX7_chance_37 : decode cX7_chance 37 = .ok (.getfield 29, 3) := by decide +kernel
theorem dX7_chance_40 : decode cX7_chance 40 = .ok (.aload_n 0, 1) := by decide +kernel
theorem dX7_chance_41 : decode cX7_chance 41 = .ok (.getfield 12, 3) := by decide +kernel
theorem dX7_chance_44 : decode cX7_chance 44 = .ok (.aload_n 0, 1) := by decide +kernel
theorem dX7_chance_45 : decode cX7_chance 45 = .ok (.getfield 22, 3) := by decide +kernel
theorem dX7_chance_48 : decode cX7_chance 48 = .ok (.iload_n 3, 1) := by decide +kernel
theorem dX7_chance_49 : decode cX7_chance 49 = .ok (.invokevirtual 123, 3) := by decide +kernel
theorem dX7_chance_52 : decode cX7_chance 52 = .ok (.aload_n 0, 1) := by decide +kernel
theorem dX7_chance_53 : decode cX7_chance 53 = .ok (.getfield 29, 3) := by decide +kernel
theorem dX7_chance_56 : decode cX7_chance 56 = .ok (.iload_n 2, 1) := by decide +kernel
theorem dX7_chance_57 : decode cX7_chance 57 = .ok (.invokestatic 127, 3) := by decide +kernel
theorem dX7_chance_60 : decode cX7_chance 60 = .ok (.iload_n 2, 1) := by decide +kernel
theorem dX7_chance_61 : decode cX7_chance 61 = .ok (.invokestatic 130, 3) := by decide +kernel
theorem dX7_chance_64 : decode cX7_chance 64 = .ok (.invokevirtual 133, 3) := by decide +kernel
theorem dX7_chance_67 : decode cX7_chance 67 = .ok (.lstore 4, 2) := by decide +kernel
theorem dX7_chance_69 : decode cX7_chance 69 = .ok (.lload 4, 2) := by decide +kernel
theorem dX7_chance_71 : decode cX7_chance 71 = .ok (.lconst 0, 1) := by decide +kernel
theorem dX7_chance_72 : decode cX7_chance 72 = .ok (.lcmp, 1) := by decide +kernel
theorem dX7_chance_73 : decode cX7_chance 73 = .ok (.ifCond .gt 5, 3) := by decide +kernel
theorem dX7_chance_76 : decode cX7_chance 76 = .ok (.iconst 0, 1) := by decide +kernel
theorem dX7_chance_77 : decode cX7_chance 77 = .ok (.ireturn, 1) := by decide +kernel
theorem dX7_chance_78 : decode cX7_chance 78 = .ok (.lconst 0, 1) := by decide +kernel
theorem dX7_chance_79 : decode cX7_chance 79 = .ok (.lstore 6, 2) := by decide +kernel
theorem dX7_chance_81 : decode cX7_chance 81 = .ok (.iload_n 1, 1) := by decide +kernel
theorem dX7_chance_82 : decode cX7_chance 82 = .ok (.iload_n 2, 1) := by decide +kernel
theorem dX7_chance_83 : decode cX7_chance 83 = .ok (.invokestatic 137, 3) := by decide +kernel
theorem dX7_chance_86 : decode cX7_chance 86 = .ok (.ifCond .ne 24, 3) := by decide +kernel
theorem dX7_chance_89 : decode cX7_chance 89 = .ok (.aload_n 0, 1) := by decide +kernel
theorem dX7_chance_90 : decode cX7_chance 90 = .ok (.getfield 29, 3) := by decide +kernel
theorem dX7_chance_93 : decode cX7_chance 93 = .ok (.iload_n 1, 1) := by decide +kernel
theorem dX7_chance_94 : decode cX7_chance 94 = .ok (.iload_n 2, 1) := by decide +kernel
theorem dX7_chance_95 : decode cX7_chance 95 = .ok (.ior, 1) := by decide +kernel
theorem dX7_chance_96 : decode cX7_chance 96 = .ok (.invokestatic 127, 3) := by decide +kernel
theorem dX7_chance_99 : decode cX7_chance 99 = .ok (.iload_n 1, 1) := by decide +kernel
theorem dX7_chance_100 : decode cX7_chance 100 = .ok (.iload_n 2, 1) := by decide +kernel
theorem dX7_chance_101 : decode cX7_chance 101 = .ok (.ior, 1) := by decide +kernel
theorem dX7_chance_102 : decode cX7_chance 102 = .ok (.invokestatic 130, 3) := by decide +kernel
theorem dX7_chance_105 : decode cX7_chance 105 = .ok (.invokevirtual 133, 3) := by decide +kernel
theorem dX7_chance_108 : decode cX7_chance 108 = .ok (.lstore 6, 2) := by decide +kernel
theorem dX7_chance_110 : decode cX7_chance 110 = .ok (.lload 4, 2) := by decide +kernel
theorem dX7_chance_112 : decode cX7_chance 112 = .ok (.lload 6, 2) := by decide +kernel
theorem dX7_chance_114 : decode cX7_chance 114 = .ok (.invokestatic 140, 3) := by decide +kernel
theorem dX7_chance_117 : decode cX7_chance 117 = .ok (.lstore 8, 2) := by decide +kernel
theorem dX7_chance_119 : decode cX7_chance 119 = .ok (.aload_n 0, 1) := by decide +kernel
theorem dX7_chance_120 : decode cX7_chance 120 = .ok (.lload 6, 2) := by decide +kernel
theorem dX7_chance_122 : decode cX7_chance 122 = .ok (.lload 8, 2) := by decide +kernel
theorem dX7_chance_124 : decode cX7_chance 124 = .ok (.ldiv, 1) := by decide +kernel
theorem dX7_chance_125 : decode cX7_chance 125 = .ok (.putfield 58, 3) := by decide +kernel
theorem dX7_chance_128 : decode cX7_chance 128 = .ok (.aload_n 0, 1) := by decide +kernel
theorem dX7_chance_129 : decode cX7_chance 129 = .ok (.lload 4, 2) := by decide +kernel
theorem dX7_chance_131 : decode cX7_chance 131 = .ok (.lload 8, 2) := by decide +kernel
theorem dX7_chance_133 : decode cX7_chance 133 = .ok (.ldiv, 1) := by decide +kernel
theorem dX7_chance_134 : decode cX7_chance 134 = .ok (.putfield 62, 3) := by decide +kernel
theorem dX7_chance_137 : decode cX7_chance 137 = .ok (.iconst 1, 1) := by decide +kernel
theorem dX7_chance_138 : decode cX7_chance 138 = .ok (.ireturn, 1) := by decide +kernel
theorem dX7_above_0 : decode cX7_above 0 = .ok (.aload_n 0, 1) := by decide +kernel
theorem dX7_above_1 : decode cX7_above 1 = .ok (.getfield 58, 3) := by decide +kernel
theorem dX7_above_4 : decode cX7_above 4 = .ok (.lreturn, 1) := by decide +kernel
theorem dX7_below_0 : decode cX7_below 0 = .ok (.aload_n 0, 1) := by decide +kernel
theorem dX7_below_1 : decode cX7_below 1 = .ok (.getfield 62, 3) := by decide +kernel
theorem dX7_below_4 : decode cX7_below 4 = .ok (.lreturn, 1) := by decide +kernel
theorem mz_i_wsX7_bars_6 : (.code yX7_isHeap cX7_isHeap 2 (some .boolean) : Cond) ∈ wsX7_bars := mz_mt (mz_ml (mz_ml (mz_ml (mz_mt (mz_mt (mz_mt (mz_mt (mz_mt mz_mh))))))))
theorem mz_i_wsX7_bars_12 : (.fieldLink RX2 18 "MadeItSo$Drawing" "things" "I" : Cond) ∈ wsX7_bars := mz_mt (mz_ml (mz_ml (mz_ml (mz_mt (mz_mt (mz_mt (mz_mt (mz_mt (mz_mt (mz_mt (mz_mt (mz_mt (mz_mt (mz_mt mz_mh))))))))))))))
theorem mz_i_wsX7_bars_11 : (.code yX2_everything cX2_everything 1 (some .int) : Cond) ∈ wsX7_bars := mz_mt (mz_ml (mz_ml (mz_ml (mz_mt (mz_mt (mz_mt (mz_mt (mz_mt (mz_mt (mz_mt (mz_mt (mz_mt (mz_mt mz_mh)))))))))))))
theorem mz_i_wsX7_bars_10 : (.initialized RX2 : Cond) ∈ wsX7_bars := mz_mt (mz_ml (mz_ml (mz_ml (mz_mt (mz_mt (mz_mt (mz_mt (mz_mt (mz_mt (mz_mt (mz_mt (mz_mt mz_mh))))))))))))
theorem mz_i_wsX7_bars_9 : (.selects RX2 yX2_everything yX2_everything : Cond) ∈ wsX7_bars := mz_mt (mz_ml (mz_ml (mz_ml (mz_mt (mz_mt (mz_mt (mz_mt (mz_mt (mz_mt (mz_mt (mz_mt mz_mh)))))))))))
theorem mz_i_wsX7_bars_8 : (.instanceMethod yX2_everything : Cond) ∈ wsX7_bars := mz_mt (mz_ml (mz_ml (mz_ml (mz_mt (mz_mt (mz_mt (mz_mt (mz_mt (mz_mt (mz_mt mz_mh))))))))))
theorem mz_i_wsX7_bars_7 : (.methodLink RX7 223 yX2_everything : Cond) ∈ wsX7_bars := mz_mt (mz_ml (mz_ml (mz_ml (mz_mt (mz_mt (mz_mt (mz_mt (mz_mt (mz_mt mz_mh)))))))))
theorem mz_i_wsX7_bars_1 : (.fieldLink RX7 12 "MadeItSo" "drawing" "LMadeItSo$Drawing;" : Cond) ∈ wsX7_bars := mz_mt (mz_ml (mz_ml (mz_ml mz_mh)))
theorem mz_f_wsX7_bars_wsX70 : ∀ w ∈ wsX70, w ∈ wsX7_bars := fun _ h => mz_mt (mz_ml (mz_mr h))
theorem mz_f_wsX7_bars_wsX20 : ∀ w ∈ wsX20, w ∈ wsX7_bars := fun _ h => mz_mt (mz_mr h)
set_option maxRecDepth 20000 in
theorem ggX7_bars_X7_isHeap : GoodIn wsX7_bars wsX7_isHeap := goodIn_sub (mz_fc mz_i_wsX7_bars_6 (mz_fa (mz_fa (mz_fc mz_i_wsX7_bars_1 (mz_fc mz_i_wsX7_bars_7 (mz_fc mz_i_wsX7_bars_8 (mz_fc mz_i_wsX7_bars_9 (mz_fc mz_i_wsX7_bars_10 (mz_fc mz_i_wsX7_bars_11 (mz_fc mz_i_wsX7_bars_12 mz_fn))))))) (mz_f_wsX7_bars_wsX70)) (mz_f_wsX7_bars_wsX20))) (by decide +kernel)
theorem mz_i_wsX7_bars_5 : (.initialized RX7 : Cond) ∈ wsX7_bars := mz_mt (mz_ml (mz_ml (mz_ml (mz_mt (mz_mt (mz_mt (mz_mt mz_mh)))))))
theorem mz_i_wsX7_bars_4 : (.selects RX7 yX7_isHeap yX7_isHeap : Cond) ∈ wsX7_bars := mz_mt (mz_ml (mz_ml (mz_ml (mz_mt (mz_mt (mz_mt mz_mh))))))
theorem mz_i_wsX7_bars_3 : (.instanceMethod yX7_isHeap : Cond) ∈ wsX7_bars := mz_mt (mz_ml (mz_ml (mz_ml (mz_mt (mz_mt mz_mh)))))
theorem mz_i_wsX7_bars_2 : (.methodLink RX7 144 yX7_isHeap : Cond) ∈ wsX7_bars := mz_mt (mz_ml (mz_ml (mz_ml (mz_mt mz_mh))))
set_option maxRecDepth 20000 in
theorem gX7_bars_X7_isHeap : GoodIn wsX7_bars (wsV RX7 144 RX7 yX7_isHeap wsX7_isHeap) := goodIn_app (goodIn_sub (mz_fc mz_i_wsX7_bars_2 (mz_fc mz_i_wsX7_bars_3 (mz_fc mz_i_wsX7_bars_4 (mz_fc mz_i_wsX7_bars_5 mz_fn)))) (by decide +kernel)) ggX7_bars_X7_isHeap
theorem mz_i_wsX7_bars_16 : (.code yX2_barred cX2_barred 12 (some .boolean) : Cond) ∈ wsX7_bars := mz_mt (mz_ml (mz_ml (mz_ml (mz_mt (mz_mt (mz_mt (mz_mt (mz_mt (mz_mt (mz_mt (mz_mt (mz_mt (mz_mt (mz_mt (mz_mt (mz_mt (mz_mt (mz_mt mz_mh))))))))))))))))))
theorem mz_i_wsX7_bars_27 : (.code yX7_inHeap cX7_inHeap 2 (some .boolean) : Cond) ∈ wsX7_bars := mz_mt (mz_ml (mz_ml (mz_mr (mz_mt (mz_mt mz_mh)))))
theorem mz_i_wsX7_bars_26 : (.static yX7_inHeap : Cond) ∈ wsX7_bars := mz_mt (mz_ml (mz_ml (mz_mr (mz_mt mz_mh))))
theorem mz_i_wsX7_bars_25 : (.code yX2_gather cX2_gather 4 (some .int) : Cond) ∈ wsX7_bars := mz_mt (mz_ml (mz_ml (mz_mr mz_mh)))
theorem mz_i_wsX7_bars_24 : (.static yX2_gather : Cond) ∈ wsX7_bars := mz_mt (mz_ml (mz_ml (mz_ml (mz_mt (mz_mt (mz_mt (mz_mt (mz_mt (mz_mt (mz_mt (mz_mt (mz_mt (mz_mt (mz_mt (mz_mt (mz_mt (mz_mt (mz_mt (mz_mt (mz_mt (mz_mt (mz_mt (mz_mt (mz_mt (mz_mt (mz_mt mz_mh))))))))))))))))))))))))))
theorem mz_i_wsX7_bars_23 : (.methodLink RX2 55 yX2_gather : Cond) ∈ wsX7_bars := mz_mt (mz_ml (mz_ml (mz_ml (mz_mt (mz_mt (mz_mt (mz_mt (mz_mt (mz_mt (mz_mt (mz_mt (mz_mt (mz_mt (mz_mt (mz_mt (mz_mt (mz_mt (mz_mt (mz_mt (mz_mt (mz_mt (mz_mt (mz_mt (mz_mt (mz_mt mz_mh)))))))))))))))))))))))))
theorem mz_i_wsX7_bars_22 : (.code yX2_spread cX2_spread 6 (some .int) : Cond) ∈ wsX7_bars := mz_mt (mz_ml (mz_ml (mz_ml (mz_mt (mz_mt (mz_mt (mz_mt (mz_mt (mz_mt (mz_mt (mz_mt (mz_mt (mz_mt (mz_mt (mz_mt (mz_mt (mz_mt (mz_mt (mz_mt (mz_mt (mz_mt (mz_mt (mz_mt (mz_mt mz_mh))))))))))))))))))))))))
theorem mz_i_wsX7_bars_21 : (.selects RX2 yX2_spread yX2_spread : Cond) ∈ wsX7_bars := mz_mt (mz_ml (mz_ml (mz_ml (mz_mt (mz_mt (mz_mt (mz_mt (mz_mt (mz_mt (mz_mt (mz_mt (mz_mt (mz_mt (mz_mt (mz_mt (mz_mt (mz_mt (mz_mt (mz_mt (mz_mt (mz_mt (mz_mt (mz_mt mz_mh)))))))))))))))))))))))
theorem mz_i_wsX7_bars_20 : (.instanceMethod yX2_spread : Cond) ∈ wsX7_bars := mz_mt (mz_ml (mz_ml (mz_ml (mz_mt (mz_mt (mz_mt (mz_mt (mz_mt (mz_mt (mz_mt (mz_mt (mz_mt (mz_mt (mz_mt (mz_mt (mz_mt (mz_mt (mz_mt (mz_mt (mz_mt (mz_mt (mz_mt mz_mh))))))))))))))))))))))
theorem mz_i_wsX7_bars_19 : (.methodLink RX2 51 yX2_spread : Cond) ∈ wsX7_bars := mz_mt (mz_ml (mz_ml (mz_ml (mz_mt (mz_mt (mz_mt (mz_mt (mz_mt (mz_mt (mz_mt (mz_mt (mz_mt (mz_mt (mz_mt (mz_mt (mz_mt (mz_mt (mz_mt (mz_mt (mz_mt (mz_mt mz_mh)))))))))))))))))))))
theorem mz_i_wsX7_bars_18 : (.fieldLink RX2 15 "MadeItSo$Drawing" "children" "[I" : Cond) ∈ wsX7_bars := mz_mt (mz_ml (mz_ml (mz_ml (mz_mt (mz_mt (mz_mt (mz_mt (mz_mt (mz_mt (mz_mt (mz_mt (mz_mt (mz_mt (mz_mt (mz_mt (mz_mt (mz_mt (mz_mt (mz_mt (mz_mt mz_mh))))))))))))))))))))
theorem mz_i_wsX7_bars_17 : (.fieldLink RX2 9 "MadeItSo$Drawing" "parents" "[I" : Cond) ∈ wsX7_bars := mz_mt (mz_ml (mz_ml (mz_ml (mz_mt (mz_mt (mz_mt (mz_mt (mz_mt (mz_mt (mz_mt (mz_mt (mz_mt (mz_mt (mz_mt (mz_mt (mz_mt (mz_mt (mz_mt (mz_mt mz_mh)))))))))))))))))))
set_option maxRecDepth 20000 in
theorem ggX7_bars_X2_barred : GoodIn wsX7_bars wsX2_barred := goodIn_sub (mz_fc mz_i_wsX7_bars_16 (mz_fa (mz_fc mz_i_wsX7_bars_17 (mz_fc mz_i_wsX7_bars_18 (mz_fc mz_i_wsX7_bars_19 (mz_fc mz_i_wsX7_bars_20 (mz_fc mz_i_wsX7_bars_21 (mz_fc mz_i_wsX7_bars_10 (mz_fc mz_i_wsX7_bars_22 (mz_fc mz_i_wsX7_bars_23 (mz_fc mz_i_wsX7_bars_24 (mz_fc mz_i_wsX7_bars_25 (mz_fc mz_i_wsX7_bars_26 (mz_fc mz_i_wsX7_bars_5 (mz_fc mz_i_wsX7_bars_27 mz_fn))))))))))))) (mz_f_wsX7_bars_wsX20))) (by decide +kernel)
theorem mz_i_wsX7_bars_15 : (.selects RX2 yX2_barred yX2_barred : Cond) ∈ wsX7_bars := mz_mt (mz_ml (mz_ml (mz_ml (mz_mt (mz_mt (mz_mt (mz_mt (mz_mt (mz_mt (mz_mt (mz_mt (mz_mt (mz_mt (mz_mt (mz_mt (mz_mt (mz_mt mz_mh)))))))))))))))))
theorem mz_i_wsX7_bars_14 : (.instanceMethod yX2_barred : Cond) ∈ wsX7_bars := mz_mt (mz_ml (mz_ml (mz_ml (mz_mt (mz_mt (mz_mt (mz_mt (mz_mt (mz_mt (mz_mt (mz_mt (mz_mt (mz_mt (mz_mt (mz_mt (mz_mt mz_mh))))))))))))))))
theorem mz_i_wsX7_bars_13 : (.methodLink RX7 147 yX2_barred : Cond) ∈ wsX7_bars := mz_mt (mz_ml (mz_ml (mz_ml (mz_mt (mz_mt (mz_mt (mz_mt (mz_mt (mz_mt (mz_mt (mz_mt (mz_mt (mz_mt (mz_mt (mz_mt mz_mh)))))))))))))))
set_option maxRecDepth 20000 in
theorem gX7_bars_X2_barred : GoodIn wsX7_bars (wsV RX7 147 RX2 yX2_barred wsX2_barred) := goodIn_app (goodIn_sub (mz_fc mz_i_wsX7_bars_13 (mz_fc mz_i_wsX7_bars_14 (mz_fc mz_i_wsX7_bars_15 (mz_fc mz_i_wsX7_bars_10 mz_fn)))) (by decide +kernel)) ggX7_bars_X2_barred
theorem dX7_bars_0 : decode cX7_bars 0 = .ok (.aload_n 0, 1) := by decide +kernel
theorem dX7_bars_1 : decode cX7_bars 1 = .ok (.iload_n 1, 1) := by decide +kernel
theorem dX7_bars_2 : decode cX7_bars 2 = .ok (.invokevirtual 144, 3) := by decide +kernel
theorem dX7_bars_5 : decode cX7_bars 5 = .ok (.ifCond .eq 19, 3) := by decide +kernel
theorem dX7_bars_8 : decode cX7_bars 8 = .ok (.aload_n 0, 1) := by decide +kernel
theorem dX7_bars_9 : decode cX7_bars 9 = .ok (.iload_n 2, 1) := by decide +kernel
theorem dX7_bars_10 : decode cX7_bars 10 = .ok (.invokevirtual 144, 3) := by decide +kernel
theorem dX7_bars_13 : decode cX7_bars 13 = .ok (.ifCond .eq 11, 3) := by decide +kernel
theorem dX7_bars_16 : decode cX7_bars 16 = .ok (.aload_n 0, 1) := by decide +kernel
theorem dX7_bars_17 : decode cX7_bars 17 = .ok (.iload_n 3, 1) := by decide +kernel
theorem dX7_bars_18 : decode cX7_bars 18 = .ok (.invokevirtual 144, 3) := by decide +kernel
theorem dX7_bars_21 : decode cX7_bars 21 = .ok (.ifCond .ne 5, 3) := by decide +kernel
theorem dX7_bars_24 : decode cX7_bars 24 = .ok (.iconst 0, 1) := by decide +kernel
theorem dX7_bars_25 : decode cX7_bars 25 = .ok (.ireturn, 1) := by decide +kernel
theorem dX7_bars_26 : decode cX7_bars 26 = .ok (.iload_n 1, 1) := by decide +kernel
theorem dX7_bars_27 : decode cX7_bars 27 = .ok (.iload_n 2, 1) := by decide +kernel
theorem dX7_bars_28 : decode cX7_bars 28 = .ok (.iand, 1) := by decide +kernel
theorem dX7_bars_29 : decode cX7_bars 29 = .ok (.ifCond .ne 15, 3) := by decide +kernel
theorem dX7_bars_32 : decode cX7_bars 32 = .ok (.iload_n 1, 1) := by decide +kernel
theorem dX7_bars_33 : decode cX7_bars 33 = .ok (.iload_n 3, 1) := by decide +kernel
theorem dX7_bars_34 : decode cX7_bars 34 = .ok (.iand, 1) := by decide +kernel
theorem dX7_bars_35 : decode cX7_bars 35 = .ok (.ifCond .ne 9, 3) := by decide +kernel
theorem dX7_bars_38 : decode cX7_bars 38 = .ok (.iload_n 2, 1) := by decide +kernel
theorem dX7_bars_39 : decode cX7_bars 39 = .ok (.iload_n 3, 1) := by decide +kernel
theorem dX7_bars_40 : decode cX7_bars 40 = .ok (.iand, 1) := by decide +kernel
theorem dX7_bars_41 : decode cX7_bars 41 = .ok (.ifCond .eq 5, 3) := by decide +kernel
theorem dX7_bars_44 : decode cX7_bars 44 = .ok (.iconst 0, 1) := by decide +kernel
theorem dX7_bars_45 : decode cX7_bars 45 = .ok (.ireturn, 1) := by decide +kernel
theorem dX7_bars_46 : decode cX7_bars 46 = .ok (.aload_n 0, 1) := by decide +kernel
theorem dX7_bars_47 : decode cX7_bars 47 = .ok (.getfield 12, 3) := by decide +kernel
theorem dX7_bars_50 : decode cX7_bars 50 = .ok (.iload_n 1, 1) := by decide +kernel
theorem dX7_bars_51 : decode cX7_bars 51 = .ok (.iload_n 2, 1) := by decide +kernel
theorem dX7_bars_52 : decode cX7_bars 52 = .ok (.iload_n 3, 1) := by decide +kernel
theorem dX7_bars_53 : decode cX7_bars 53 = .ok (.invokevirtual 147, 3) := by decide +kernel
theorem dX7_bars_56 : decode cX7_bars 56 = .ok (.ireturn, 1) := by decide +kernel
theorem mz_i_wsX7_least_8 : (.code yX7_areTwo cX7_areTwo 3 (some .boolean) : Cond) ∈ wsX7_least := mz_mt (mz_ml (mz_ml (mz_ml (mz_ml (mz_mt (mz_mt (mz_mt (mz_mt (mz_mt (mz_mt (mz_mt mz_mh)))))))))))
theorem mz_i_wsX7_least_14 : (.fieldLink RX2 18 "MadeItSo$Drawing" "things" "I" : Cond) ∈ wsX7_least := mz_mt (mz_ml (mz_ml (mz_ml (mz_ml (mz_mt (mz_mt (mz_mt (mz_mt (mz_mt (mz_mt (mz_mt (mz_mt (mz_mt (mz_mt (mz_mt (mz_mt (mz_mt mz_mh)))))))))))))))))
theorem mz_i_wsX7_least_13 : (.code yX2_has cX2_has 2 (some .boolean) : Cond) ∈ wsX7_least := mz_mt (mz_ml (mz_ml (mz_ml (mz_ml (mz_mt (mz_mt (mz_mt (mz_mt (mz_mt (mz_mt (mz_mt (mz_mt (mz_mt (mz_mt (mz_mt (mz_mt mz_mh))))))))))))))))
theorem mz_i_wsX7_least_12 : (.initialized RX2 : Cond) ∈ wsX7_least := mz_mt (mz_ml (mz_ml (mz_ml (mz_ml (mz_mt (mz_mt (mz_mt (mz_mt (mz_mt (mz_mt (mz_mt (mz_mt (mz_mt (mz_mt (mz_mt mz_mh)))))))))))))))
theorem mz_i_wsX7_least_11 : (.selects RX2 yX2_has yX2_has : Cond) ∈ wsX7_least := mz_mt (mz_ml (mz_ml (mz_ml (mz_ml (mz_mt (mz_mt (mz_mt (mz_mt (mz_mt (mz_mt (mz_mt (mz_mt (mz_mt (mz_mt mz_mh))))))))))))))
theorem mz_i_wsX7_least_10 : (.instanceMethod yX2_has : Cond) ∈ wsX7_least := mz_mt (mz_ml (mz_ml (mz_ml (mz_ml (mz_mt (mz_mt (mz_mt (mz_mt (mz_mt (mz_mt (mz_mt (mz_mt (mz_mt mz_mh)))))))))))))
theorem mz_i_wsX7_least_9 : (.methodLink RX7 77 yX2_has : Cond) ∈ wsX7_least := mz_mt (mz_ml (mz_ml (mz_ml (mz_ml (mz_mt (mz_mt (mz_mt (mz_mt (mz_mt (mz_mt (mz_mt (mz_mt mz_mh))))))))))))
theorem mz_i_wsX7_least_2 : (.fieldLink RX7 12 "MadeItSo" "drawing" "LMadeItSo$Drawing;" : Cond) ∈ wsX7_least := mz_mt (mz_ml (mz_ml (mz_ml (mz_ml (mz_mt mz_mh)))))
theorem mz_f_wsX7_least_wsX70 : ∀ w ∈ wsX70, w ∈ wsX7_least := fun _ h => mz_mt (mz_ml (mz_ml (mz_mr h)))
theorem mz_f_wsX7_least_wsX20 : ∀ w ∈ wsX20, w ∈ wsX7_least := fun _ h => mz_mt (mz_ml (mz_mr h))
set_option maxRecDepth 20000 in
theorem ggX7_least_X7_areTwo : GoodIn wsX7_least wsX7_areTwo := goodIn_sub (mz_fc mz_i_wsX7_least_8 (mz_fa (mz_fa (mz_fc mz_i_wsX7_least_2 (mz_fc mz_i_wsX7_least_9 (mz_fc mz_i_wsX7_least_10 (mz_fc mz_i_wsX7_least_11 (mz_fc mz_i_wsX7_least_12 (mz_fc mz_i_wsX7_least_13 (mz_fc mz_i_wsX7_least_14 mz_fn))))))) (mz_f_wsX7_least_wsX70)) (mz_f_wsX7_least_wsX20))) (by decide +kernel)
theorem mz_i_wsX7_least_7 : (.initialized RX7 : Cond) ∈ wsX7_least := mz_mt (mz_ml (mz_ml (mz_ml (mz_ml (mz_mt (mz_mt (mz_mt (mz_mt (mz_mt (mz_mt mz_mh))))))))))
theorem mz_i_wsX7_least_6 : (.selects RX7 yX7_areTwo yX7_areTwo : Cond) ∈ wsX7_least := mz_mt (mz_ml (mz_ml (mz_ml (mz_ml (mz_mt (mz_mt (mz_mt (mz_mt (mz_mt mz_mh)))))))))
theorem mz_i_wsX7_least_5 : (.instanceMethod yX7_areTwo : Cond) ∈ wsX7_least := mz_mt (mz_ml (mz_ml (mz_ml (mz_ml (mz_mt (mz_mt (mz_mt (mz_mt mz_mh))))))))
theorem mz_i_wsX7_least_4 : (.methodLink RX7 151 yX7_areTwo : Cond) ∈ wsX7_least := mz_mt (mz_ml (mz_ml (mz_ml (mz_ml (mz_mt (mz_mt (mz_mt mz_mh)))))))
set_option maxRecDepth 20000 in
theorem gX7_least_X7_areTwo : GoodIn wsX7_least (wsV RX7 151 RX7 yX7_areTwo wsX7_areTwo) := goodIn_app (goodIn_sub (mz_fc mz_i_wsX7_least_4 (mz_fc mz_i_wsX7_least_5 (mz_fc mz_i_wsX7_least_6 (mz_fc mz_i_wsX7_least_7 mz_fn)))) (by decide +kernel)) ggX7_least_X7_areTwo
theorem mz_i_wsX7_least_19 : (.code yX3_seek cX3_seek 9 none : Cond) ∈ wsX7_least := mz_mt (mz_ml (mz_ml (mz_ml (mz_ml (mz_mt (mz_mt (mz_mt (mz_mt (mz_mt (mz_mt (mz_mt (mz_mt (mz_mt (mz_mt (mz_mt (mz_mt (mz_mt (mz_mt (mz_mt (mz_mt (mz_mt (mz_mt mz_mh))))))))))))))))))))))
theorem mz_i_wsX7_least_40 : (.code yX2_barred cX2_barred 12 (some .boolean) : Cond) ∈ wsX7_least := mz_mt (mz_ml (mz_ml (mz_ml (mz_mr (mz_ml (mz_mt (mz_mt (mz_mt (mz_mt (mz_mt (mz_mt (mz_mt (mz_mt (mz_mt (mz_mt (mz_mt (mz_mt (mz_mt (mz_mt (mz_mt mz_mh))))))))))))))))))))
theorem mz_i_wsX7_least_39 : (.selects RX2 yX2_barred yX2_barred : Cond) ∈ wsX7_least := mz_mt (mz_ml (mz_ml (mz_ml (mz_mr (mz_ml (mz_mt (mz_mt (mz_mt (mz_mt (mz_mt (mz_mt (mz_mt (mz_mt (mz_mt (mz_mt (mz_mt (mz_mt (mz_mt (mz_mt mz_mh)))))))))))))))))))
theorem mz_i_wsX7_least_38 : (.instanceMethod yX2_barred : Cond) ∈ wsX7_least := mz_mt (mz_ml (mz_ml (mz_ml (mz_mr (mz_ml (mz_mt (mz_mt (mz_mt (mz_mt (mz_mt (mz_mt (mz_mt (mz_mt (mz_mt (mz_mt (mz_mt (mz_mt (mz_mt mz_mh))))))))))))))))))
theorem mz_i_wsX7_least_37 : (.methodLink RX3 30 yX2_barred : Cond) ∈ wsX7_least := mz_mt (mz_ml (mz_ml (mz_ml (mz_mr (mz_ml (mz_mt (mz_mt (mz_mt (mz_mt (mz_mt (mz_mt (mz_mt (mz_mt (mz_mt (mz_mt (mz_mt (mz_mt mz_mh)))))))))))))))))
theorem mz_i_wsX7_least_36 : (.code yX3_holdsOne cX3_holdsOne 3 (some .boolean) : Cond) ∈ wsX7_least := mz_mt (mz_ml (mz_ml (mz_ml (mz_mr (mz_ml (mz_mt (mz_mt (mz_mt (mz_mt (mz_mt (mz_mt (mz_mt (mz_mt (mz_mt (mz_mt (mz_mt mz_mh))))))))))))))))
theorem mz_i_wsX7_least_18 : (.initialized RX3 : Cond) ∈ wsX7_least := mz_mt (mz_ml (mz_ml (mz_ml (mz_ml (mz_mt (mz_mt (mz_mt (mz_mt (mz_mt (mz_mt (mz_mt (mz_mt (mz_mt (mz_mt (mz_mt (mz_mt (mz_mt (mz_mt (mz_mt (mz_mt (mz_mt mz_mh)))))))))))))))))))))
theorem mz_i_wsX7_least_35 : (.selects RX3 yX3_holdsOne yX3_holdsOne : Cond) ∈ wsX7_least := mz_mt (mz_ml (mz_ml (mz_ml (mz_mr (mz_ml (mz_mt (mz_mt (mz_mt (mz_mt (mz_mt (mz_mt (mz_mt (mz_mt (mz_mt (mz_mt mz_mh)))))))))))))))
theorem mz_i_wsX7_least_34 : (.instanceMethod yX3_holdsOne : Cond) ∈ wsX7_least := mz_mt (mz_ml (mz_ml (mz_ml (mz_mr (mz_ml (mz_mt (mz_mt (mz_mt (mz_mt (mz_mt (mz_mt (mz_mt (mz_mt (mz_mt mz_mh))))))))))))))
theorem mz_i_wsX7_least_33 : (.methodLink RX3 26 yX3_holdsOne : Cond) ∈ wsX7_least := mz_mt (mz_ml (mz_ml (mz_ml (mz_mr (mz_ml (mz_mt (mz_mt (mz_mt (mz_mt (mz_mt (mz_mt (mz_mt (mz_mt mz_mh)))))))))))))
theorem mz_i_wsX7_least_32 : (.constant RJ6 267 (252645135) : Cond) ∈ wsX7_least := mz_mt (mz_ml (mz_ml (mz_ml (mz_mr (mz_ml (mz_mt (mz_mt (mz_mt (mz_mt (mz_mt (mz_mt (mz_mt mz_mh))))))))))))
theorem mz_i_wsX7_least_31 : (.constant RJ6 266 (858993459) : Cond) ∈ wsX7_least := mz_mt (mz_ml (mz_ml (mz_ml (mz_mr (mz_ml (mz_mt (mz_mt (mz_mt (mz_mt (mz_mt (mz_mt mz_mh)))))))))))
theorem mz_i_wsX7_least_30 : (.constant RJ6 265 (1431655765) : Cond) ∈ wsX7_least := mz_mt (mz_ml (mz_ml (mz_ml (mz_mr (mz_ml (mz_mt (mz_mt (mz_mt (mz_mt (mz_mt mz_mh))))))))))
theorem mz_i_wsX7_least_29 : (.code yJ6_bitCount_0f7a4 cJ6_bitCount_0f7a4 1 (some .int) : Cond) ∈ wsX7_least := mz_mt (mz_ml (mz_ml (mz_ml (mz_mr (mz_ml (mz_mt (mz_mt (mz_mt (mz_mt mz_mh)))))))))
theorem mz_i_wsX7_least_28 : (.initialized RJ6 : Cond) ∈ wsX7_least := mz_mt (mz_ml (mz_ml (mz_ml (mz_mr (mz_ml (mz_mt (mz_mt (mz_mt mz_mh))))))))
theorem mz_i_wsX7_least_27 : (.static yJ6_bitCount_0f7a4 : Cond) ∈ wsX7_least := mz_mt (mz_ml (mz_ml (mz_ml (mz_mr (mz_ml (mz_mt (mz_mt mz_mh)))))))
theorem mz_i_wsX7_least_26 : (.methodLink RX7 239 yJ6_bitCount_0f7a4 : Cond) ∈ wsX7_least := mz_mt (mz_ml (mz_ml (mz_ml (mz_mr (mz_ml (mz_mt mz_mh))))))
theorem mz_i_wsX7_least_25 : (.code yX7_partsOf cX7_partsOf 1 (some .int) : Cond) ∈ wsX7_least := mz_mt (mz_ml (mz_ml (mz_ml (mz_mr (mz_ml mz_mh)))))
theorem mz_i_wsX7_least_24 : (.static yX7_partsOf : Cond) ∈ wsX7_least := mz_mt (mz_ml (mz_ml (mz_ml (mz_ml (mz_mt (mz_mt (mz_mt (mz_mt (mz_mt (mz_mt (mz_mt (mz_mt (mz_mt (mz_mt (mz_mt (mz_mt (mz_mt (mz_mt (mz_mt (mz_mt (mz_mt (mz_mt (mz_mt (mz_mt (mz_mt (mz_mt (mz_mt mz_mh)))))))))))))))))))))))))))
theorem mz_i_wsX7_least_23 : (.code yX7_bit cX7_bit 1 (some .int) : Cond) ∈ wsX7_least := mz_mt (mz_ml (mz_ml (mz_ml (mz_ml (mz_mt (mz_mt (mz_mt (mz_mt (mz_mt (mz_mt (mz_mt (mz_mt (mz_mt (mz_mt (mz_mt (mz_mt (mz_mt (mz_mt (mz_mt (mz_mt (mz_mt (mz_mt (mz_mt (mz_mt (mz_mt (mz_mt mz_mh))))))))))))))))))))))))))
theorem mz_i_wsX7_least_22 : (.static yX7_bit : Cond) ∈ wsX7_least := mz_mt (mz_ml (mz_ml (mz_ml (mz_ml (mz_mt (mz_mt (mz_mt (mz_mt (mz_mt (mz_mt (mz_mt (mz_mt (mz_mt (mz_mt (mz_mt (mz_mt (mz_mt (mz_mt (mz_mt (mz_mt (mz_mt (mz_mt (mz_mt (mz_mt (mz_mt mz_mh)))))))))))))))))))))))))
theorem mz_i_wsX7_least_21 : (.fieldLink RX3 9 "MadeItSo$LeastHeaps" "found" "[I" : Cond) ∈ wsX7_least := mz_mt (mz_ml (mz_ml (mz_ml (mz_ml (mz_mt (mz_mt (mz_mt (mz_mt (mz_mt (mz_mt (mz_mt (mz_mt (mz_mt (mz_mt (mz_mt (mz_mt (mz_mt (mz_mt (mz_mt (mz_mt (mz_mt (mz_mt (mz_mt (mz_mt mz_mh))))))))))))))))))))))))
theorem mz_i_wsX7_least_20 : (.fieldLink RX3 15 "MadeItSo$LeastHeaps" "many" "I" : Cond) ∈ wsX7_least := mz_mt (mz_ml (mz_ml (mz_ml (mz_ml (mz_mt (mz_mt (mz_mt (mz_mt (mz_mt (mz_mt (mz_mt (mz_mt (mz_mt (mz_mt (mz_mt (mz_mt (mz_mt (mz_mt (mz_mt (mz_mt (mz_mt (mz_mt (mz_mt mz_mh)))))))))))))))))))))))
theorem mz_i_wsX7_least_53 : (.code yX7_nextPart cX7_nextPart 2 (some .int) : Cond) ∈ wsX7_least := mz_mt (mz_ml (mz_ml (mz_ml (mz_mr (mz_mr (mz_mt (mz_mt (mz_mt (mz_mt mz_mh)))))))))
theorem mz_i_wsX7_least_52 : (.static yX7_nextPart : Cond) ∈ wsX7_least := mz_mt (mz_ml (mz_ml (mz_ml (mz_mr (mz_mr (mz_mt (mz_mt (mz_mt mz_mh))))))))
theorem mz_i_wsX7_least_51 : (.code yX7_inHeap cX7_inHeap 2 (some .boolean) : Cond) ∈ wsX7_least := mz_mt (mz_ml (mz_ml (mz_ml (mz_mr (mz_mr (mz_mt (mz_mt mz_mh)))))))
theorem mz_i_wsX7_least_50 : (.static yX7_inHeap : Cond) ∈ wsX7_least := mz_mt (mz_ml (mz_ml (mz_ml (mz_mr (mz_mr (mz_mt mz_mh))))))
theorem mz_i_wsX7_least_49 : (.code yX2_gather cX2_gather 4 (some .int) : Cond) ∈ wsX7_least := mz_mt (mz_ml (mz_ml (mz_ml (mz_mr (mz_mr mz_mh)))))
theorem mz_i_wsX7_least_48 : (.static yX2_gather : Cond) ∈ wsX7_least := mz_mt (mz_ml (mz_ml (mz_ml (mz_mr (mz_ml (mz_mt (mz_mt (mz_mt (mz_mt (mz_mt (mz_mt (mz_mt (mz_mt (mz_mt (mz_mt (mz_mt (mz_mt (mz_mt (mz_mt (mz_mt (mz_mt (mz_mt (mz_mt (mz_mt (mz_mt (mz_mt (mz_mt (mz_mt mz_mh))))))))))))))))))))))))))))
theorem mz_i_wsX7_least_47 : (.methodLink RX2 55 yX2_gather : Cond) ∈ wsX7_least := mz_mt (mz_ml (mz_ml (mz_ml (mz_mr (mz_ml (mz_mt (mz_mt (mz_mt (mz_mt (mz_mt (mz_mt (mz_mt (mz_mt (mz_mt (mz_mt (mz_mt (mz_mt (mz_mt (mz_mt (mz_mt (mz_mt (mz_mt (mz_mt (mz_mt (mz_mt (mz_mt (mz_mt mz_mh)))))))))))))))))))))))))))
theorem mz_i_wsX7_least_46 : (.code yX2_spread cX2_spread 6 (some .int) : Cond) ∈ wsX7_least := mz_mt (mz_ml (mz_ml (mz_ml (mz_mr (mz_ml (mz_mt (mz_mt (mz_mt (mz_mt (mz_mt (mz_mt (mz_mt (mz_mt (mz_mt (mz_mt (mz_mt (mz_mt (mz_mt (mz_mt (mz_mt (mz_mt (mz_mt (mz_mt (mz_mt (mz_mt (mz_mt mz_mh))))))))))))))))))))))))))
theorem mz_i_wsX7_least_45 : (.selects RX2 yX2_spread yX2_spread : Cond) ∈ wsX7_least := mz_mt (mz_ml (mz_ml (mz_ml (mz_mr (mz_ml (mz_mt (mz_mt (mz_mt (mz_mt (mz_mt (mz_mt (mz_mt (mz_mt (mz_mt (mz_mt (mz_mt (mz_mt (mz_mt (mz_mt (mz_mt (mz_mt (mz_mt (mz_mt (mz_mt (mz_mt mz_mh)))))))))))))))))))))))))
theorem mz_i_wsX7_least_44 : (.instanceMethod yX2_spread : Cond) ∈ wsX7_least := mz_mt (mz_ml (mz_ml (mz_ml (mz_mr (mz_ml (mz_mt (mz_mt (mz_mt (mz_mt (mz_mt (mz_mt (mz_mt (mz_mt (mz_mt (mz_mt (mz_mt (mz_mt (mz_mt (mz_mt (mz_mt (mz_mt (mz_mt (mz_mt (mz_mt mz_mh))))))))))))))))))))))))
theorem mz_i_wsX7_least_43 : (.methodLink RX2 51 yX2_spread : Cond) ∈ wsX7_least := mz_mt (mz_ml (mz_ml (mz_ml (mz_mr (mz_ml (mz_mt (mz_mt (mz_mt (mz_mt (mz_mt (mz_mt (mz_mt (mz_mt (mz_mt (mz_mt (mz_mt (mz_mt (mz_mt (mz_mt (mz_mt (mz_mt (mz_mt (mz_mt mz_mh)))))))))))))))))))))))
theorem mz_i_wsX7_least_42 : (.fieldLink RX2 15 "MadeItSo$Drawing" "children" "[I" : Cond) ∈ wsX7_least := mz_mt (mz_ml (mz_ml (mz_ml (mz_mr (mz_ml (mz_mt (mz_mt (mz_mt (mz_mt (mz_mt (mz_mt (mz_mt (mz_mt (mz_mt (mz_mt (mz_mt (mz_mt (mz_mt (mz_mt (mz_mt (mz_mt (mz_mt mz_mh))))))))))))))))))))))
theorem mz_i_wsX7_least_41 : (.fieldLink RX2 9 "MadeItSo$Drawing" "parents" "[I" : Cond) ∈ wsX7_least := mz_mt (mz_ml (mz_ml (mz_ml (mz_mr (mz_ml (mz_mt (mz_mt (mz_mt (mz_mt (mz_mt (mz_mt (mz_mt (mz_mt (mz_mt (mz_mt (mz_mt (mz_mt (mz_mt (mz_mt (mz_mt (mz_mt mz_mh)))))))))))))))))))))
theorem mz_f_wsX7_least_wsX30 : ∀ w ∈ wsX30, w ∈ wsX7_least := fun _ h => mz_mt (mz_mr h)
set_option maxRecDepth 20000 in
theorem ggX7_least_X3_seek : GoodIn wsX7_least wsX3_seek := goodIn_sub (mz_fc mz_i_wsX7_least_19 (mz_fa (mz_fa (mz_fa (mz_fc mz_i_wsX7_least_20 (mz_fc mz_i_wsX7_least_21 (mz_fc mz_i_wsX7_least_22 (mz_fc mz_i_wsX7_least_7 (mz_fc mz_i_wsX7_least_23 (mz_fc mz_i_wsX7_least_24 (mz_fc mz_i_wsX7_least_25 (mz_fc mz_i_wsX7_least_26 (mz_fc mz_i_wsX7_least_27 (mz_fc mz_i_wsX7_least_28 (mz_fc mz_i_wsX7_least_29 (mz_fc mz_i_wsX7_least_30 (mz_fc mz_i_wsX7_least_31 (mz_fc mz_i_wsX7_least_32 (mz_fc mz_i_wsX7_least_33 (mz_fc mz_i_wsX7_least_34 (mz_fc mz_i_wsX7_least_35 (mz_fc mz_i_wsX7_least_18 (mz_fc mz_i_wsX7_least_36 (mz_fc mz_i_wsX7_least_37 (mz_fc mz_i_wsX7_least_38 (mz_fc mz_i_wsX7_least_39 (mz_fc mz_i_wsX7_least_12 (mz_fc mz_i_wsX7_least_40 mz_fn)))))))))))))))))))))))) (mz_fc mz_i_wsX7_least_41 (mz_fc mz_i_wsX7_least_42 (mz_fc mz_i_wsX7_least_43 (mz_fc mz_i_wsX7_least_44 (mz_fc mz_i_wsX7_least_45 (mz_fc mz_i_wsX7_least_46 (mz_fc mz_i_wsX7_least_47 (mz_fc mz_i_wsX7_least_48 (mz_fc mz_i_wsX7_least_49 (mz_fc mz_i_wsX7_least_50 (mz_fc mz_i_wsX7_least_51 (mz_fc mz_i_wsX7_least_52 (mz_fc mz_i_wsX7_least_53 mz_fn)))))))))))))) (mz_f_wsX7_least_wsX30)) (mz_f_wsX7_least_wsX20))) (by decide +kernel)
theorem mz_i_wsX7_least_17 : (.selects RX3 yX3_seek yX3_seek : Cond) ∈ wsX7_least := mz_mt (mz_ml (mz_ml (mz_ml (mz_ml (mz_mt (mz_mt (mz_mt (mz_mt (mz_mt (mz_mt (mz_mt (mz_mt (mz_mt (mz_mt (mz_mt (mz_mt (mz_mt (mz_mt (mz_mt (mz_mt mz_mh))))))))))))))))))))
theorem mz_i_wsX7_least_16 : (.instanceMethod yX3_seek : Cond) ∈ wsX7_least := mz_mt (mz_ml (mz_ml (mz_ml (mz_ml (mz_mt (mz_mt (mz_mt (mz_mt (mz_mt (mz_mt (mz_mt (mz_mt (mz_mt (mz_mt (mz_mt (mz_mt (mz_mt (mz_mt (mz_mt mz_mh)))))))))))))))))))
theorem mz_i_wsX7_least_15 : (.methodLink RX7 154 yX3_seek : Cond) ∈ wsX7_least := mz_mt (mz_ml (mz_ml (mz_ml (mz_ml (mz_mt (mz_mt (mz_mt (mz_mt (mz_mt (mz_mt (mz_mt (mz_mt (mz_mt (mz_mt (mz_mt (mz_mt (mz_mt (mz_mt mz_mh))))))))))))))))))
set_option maxRecDepth 20000 in
theorem gX7_least_X3_seek : GoodIn wsX7_least (wsV RX7 154 RX3 yX3_seek wsX3_seek) := goodIn_app (goodIn_sub (mz_fc mz_i_wsX7_least_15 (mz_fc mz_i_wsX7_least_16 (mz_fc mz_i_wsX7_least_17 (mz_fc mz_i_wsX7_least_18 mz_fn)))) (by decide +kernel)) ggX7_least_X3_seek
theorem mz_i_wsX7_least_57 : (.code yX3_size cX3_size 1 (some .int) : Cond) ∈ wsX7_least := mz_mt (mz_ml (mz_ml (mz_ml (mz_mr (mz_mr (mz_mt (mz_mt (mz_mt (mz_mt (mz_mt (mz_mt (mz_mt (mz_mt mz_mh)))))))))))))
set_option maxRecDepth 20000 in
theorem ggX7_least_X3_size : GoodIn wsX7_least wsX3_size := goodIn_sub (mz_fc mz_i_wsX7_least_57 (mz_fa (mz_fc mz_i_wsX7_least_20 mz_fn) (mz_f_wsX7_least_wsX30))) (by decide +kernel)
theorem mz_i_wsX7_least_56 : (.selects RX3 yX3_size yX3_size : Cond) ∈ wsX7_least := mz_mt (mz_ml (mz_ml (mz_ml (mz_mr (mz_mr (mz_mt (mz_mt (mz_mt (mz_mt (mz_mt (mz_mt (mz_mt mz_mh))))))))))))
theorem mz_i_wsX7_least_55 : (.instanceMethod yX3_size : Cond) ∈ wsX7_least := mz_mt (mz_ml (mz_ml (mz_ml (mz_mr (mz_mr (mz_mt (mz_mt (mz_mt (mz_mt (mz_mt (mz_mt mz_mh)))))))))))
theorem mz_i_wsX7_least_54 : (.methodLink RX7 158 yX3_size : Cond) ∈ wsX7_least := mz_mt (mz_ml (mz_ml (mz_ml (mz_mr (mz_mr (mz_mt (mz_mt (mz_mt (mz_mt (mz_mt mz_mh))))))))))
set_option maxRecDepth 20000 in
theorem gX7_least_X3_size : GoodIn wsX7_least (wsV RX7 158 RX3 yX3_size wsX3_size) := goodIn_app (goodIn_sub (mz_fc mz_i_wsX7_least_54 (mz_fc mz_i_wsX7_least_55 (mz_fc mz_i_wsX7_least_56 (mz_fc mz_i_wsX7_least_18 mz_fn)))) (by decide +kernel)) ggX7_least_X3_size
theorem dX7_least_0 : decode cX7_least 0 = .ok (.aload_n 0, 1) := by decide +kernel
theorem dX7_least_1 : decode cX7_least 1 = .ok (.iload_n 1, 1) := by decide +kernel
theorem dX7_least_2 : decode cX7_least 2 = .ok (.iload_n 2, 1) := by decide +kernel
theorem dX7_least_3 : decode cX7_least 3 = .ok (.invokevirtual 151, 3) := by decide +kernel
theorem dX7_least_6 : decode cX7_least 6 = .ok (.ifCond .ne 5, 3) := by decide +kernel
theorem dX7_least_9 : decode cX7_least 9 = .ok (.iconst (-1), 1) := by decide +kernel
theorem dX7_least_10 : decode cX7_least 10 = .ok (.ireturn, 1) := by decide +kernel
theorem dX7_least_11 : decode cX7_least 11 = .ok (.aload_n 0, 1) := by decide +kernel
theorem dX7_least_12 : decode cX7_least 12 = .ok (.getfield 43, 3) := by decide +kernel
theorem dX7_least_15 : decode cX7_least 15 = .ok (.aload_n 0, 1) := by decide +kernel
theorem dX7_least_16 : decode cX7_least 16 = .ok (.getfield 12, 3) := by decide +kernel
theorem dX7_least_19 : decode cX7_least 19 = .ok (.iload_n 1, 1) := by decide +kernel
theorem dX7_least_20 : decode cX7_least 20 = .ok (.iload_n 2, 1) := by decide +kernel
theorem dX7_least_21 : decode cX7_least 21 = .ok (.aload_n 0, 1) := by decide +kernel
theorem dX7_least_22 : decode cX7_least 22 = .ok (.getfield 54, 3) := by decide +kernel
theorem dX7_least_25 : decode cX7_least 25 = .ok (.invokevirtual 154, 3) := by decide +kernel
theorem dX7_least_28 : decode cX7_least 28 = .ok (.aload_n 0, 1) := by decide +kernel
theorem dX7_least_29 : decode cX7_least 29 = .ok (.getfield 43, 3) := by decide +kernel
theorem dX7_least_32 : decode cX7_least 32 = .ok (.invokevirtual 158, 3) := by decide +kernel
theorem dX7_least_35 : decode cX7_least 35 = .ok (.ireturn, 1) := by decide +kernel
theorem mz_i_wsX7_leastAt_8 : (.code yX7_areTwo cX7_areTwo 3 (some .boolean) : Cond) ∈ wsX7_leastAt := mz_mt (mz_ml (mz_ml (mz_ml (mz_ml (mz_mt (mz_mt (mz_mt (mz_mt (mz_mt (mz_mt (mz_mt mz_mh)))))))))))
theorem mz_i_wsX7_leastAt_14 : (.fieldLink RX2 18 "MadeItSo$Drawing" "things" "I" : Cond) ∈ wsX7_leastAt := mz_mt (mz_ml (mz_ml (mz_ml (mz_ml (mz_mt (mz_mt (mz_mt (mz_mt (mz_mt (mz_mt (mz_mt (mz_mt (mz_mt (mz_mt (mz_mt (mz_mt (mz_mt mz_mh)))))))))))))))))
theorem mz_i_wsX7_leastAt_13 : (.code yX2_has cX2_has 2 (some .boolean) : Cond) ∈ wsX7_leastAt := mz_mt (mz_ml (mz_ml (mz_ml (mz_ml (mz_mt (mz_mt (mz_mt (mz_mt (mz_mt (mz_mt (mz_mt (mz_mt (mz_mt (mz_mt (mz_mt (mz_mt mz_mh))))))))))))))))
theorem mz_i_wsX7_leastAt_12 : (.initialized RX2 : Cond) ∈ wsX7_leastAt := mz_mt (mz_ml (mz_ml (mz_ml (mz_ml (mz_mt (mz_mt (mz_mt (mz_mt (mz_mt (mz_mt (mz_mt (mz_mt (mz_mt (mz_mt (mz_mt mz_mh)))))))))))))))
theorem mz_i_wsX7_leastAt_11 : (.selects RX2 yX2_has yX2_has : Cond) ∈ wsX7_leastAt := mz_mt (mz_ml (mz_ml (mz_ml (mz_ml (mz_mt (mz_mt (mz_mt (mz_mt (mz_mt (mz_mt (mz_mt (mz_mt (mz_mt (mz_mt mz_mh))))))))))))))
theorem mz_i_wsX7_leastAt_10 : (.instanceMethod yX2_has : Cond) ∈ wsX7_leastAt := mz_mt (mz_ml (mz_ml (mz_ml (mz_ml (mz_mt (mz_mt (mz_mt (mz_mt (mz_mt (mz_mt (mz_mt (mz_mt (mz_mt mz_mh)))))))))))))
theorem mz_i_wsX7_leastAt_9 : (.methodLink RX7 77 yX2_has : Cond) ∈ wsX7_leastAt := mz_mt (mz_ml (mz_ml (mz_ml (mz_ml (mz_mt (mz_mt (mz_mt (mz_mt (mz_mt (mz_mt (mz_mt (mz_mt mz_mh))))))))))))
theorem mz_i_wsX7_leastAt_2 : (.fieldLink RX7 12 "MadeItSo" "drawing" "LMadeItSo$Drawing;" : Cond) ∈ wsX7_leastAt := mz_mt (mz_ml (mz_ml (mz_ml (mz_ml (mz_mt mz_mh)))))
theorem mz_f_wsX7_leastAt_wsX70 : ∀ w ∈ wsX70, w ∈ wsX7_leastAt := fun _ h => mz_mt (mz_ml (mz_ml (mz_mr h)))
theorem mz_f_wsX7_leastAt_wsX20 : ∀ w ∈ wsX20, w ∈ wsX7_leastAt := fun _ h => mz_mt (mz_ml (mz_mr h))
set_option maxRecDepth 20000 in
theorem ggX7_leastAt_X7_areTwo : GoodIn wsX7_leastAt wsX7_areTwo := goodIn_sub (mz_fc mz_i_wsX7_leastAt_8 (mz_fa (mz_fa (mz_fc mz_i_wsX7_leastAt_2 (mz_fc mz_i_wsX7_leastAt_9 (mz_fc mz_i_wsX7_leastAt_10 (mz_fc mz_i_wsX7_leastAt_11 (mz_fc mz_i_wsX7_leastAt_12 (mz_fc mz_i_wsX7_leastAt_13 (mz_fc mz_i_wsX7_leastAt_14 mz_fn))))))) (mz_f_wsX7_leastAt_wsX70)) (mz_f_wsX7_leastAt_wsX20))) (by decide +kernel)
theorem mz_i_wsX7_leastAt_7 : (.initialized RX7 : Cond) ∈ wsX7_leastAt := mz_mt (mz_ml (mz_ml (mz_ml (mz_ml (mz_mt (mz_mt (mz_mt (mz_mt (mz_mt (mz_mt mz_mh))))))))))
theorem mz_i_wsX7_leastAt_6 : (.selects RX7 yX7_areTwo yX7_areTwo : Cond) ∈ wsX7_leastAt := mz_mt (mz_ml (mz_ml (mz_ml (mz_ml (mz_mt (mz_mt (mz_mt (mz_mt (mz_mt mz_mh)))))))))
theorem mz_i_wsX7_leastAt_5 : (.instanceMethod yX7_areTwo : Cond) ∈ wsX7_leastAt := mz_mt (mz_ml (mz_ml (mz_ml (mz_ml (mz_mt (mz_mt (mz_mt (mz_mt mz_mh))))))))
theorem mz_i_wsX7_leastAt_4 : (.methodLink RX7 151 yX7_areTwo : Cond) ∈ wsX7_leastAt := mz_mt (mz_ml (mz_ml (mz_ml (mz_ml (mz_mt (mz_mt (mz_mt mz_mh)))))))
set_option maxRecDepth 20000 in
theorem gX7_leastAt_X7_areTwo : GoodIn wsX7_leastAt (wsV RX7 151 RX7 yX7_areTwo wsX7_areTwo) := goodIn_app (goodIn_sub (mz_fc mz_i_wsX7_leastAt_4 (mz_fc mz_i_wsX7_leastAt_5 (mz_fc mz_i_wsX7_leastAt_6 (mz_fc mz_i_wsX7_leastAt_7 mz_fn)))) (by decide +kernel)) ggX7_leastAt_X7_areTwo
theorem mz_i_wsX7_leastAt_19 : (.code yX3_seek cX3_seek 9 none : Cond) ∈ wsX7_leastAt := mz_mt (mz_ml (mz_ml (mz_ml (mz_ml (mz_mt (mz_mt (mz_mt (mz_mt (mz_mt (mz_mt (mz_mt (mz_mt (mz_mt (mz_mt (mz_mt (mz_mt (mz_mt (mz_mt (mz_mt (mz_mt (mz_mt (mz_mt mz_mh))))))))))))))))))))))
theorem mz_i_wsX7_leastAt_40 : (.code yX2_barred cX2_barred 12 (some .boolean) : Cond) ∈ wsX7_leastAt := mz_mt (mz_ml (mz_ml (mz_ml (mz_mr (mz_ml (mz_mt (mz_mt (mz_mt (mz_mt (mz_mt (mz_mt (mz_mt (mz_mt (mz_mt (mz_mt (mz_mt (mz_mt (mz_mt (mz_mt (mz_mt mz_mh))))))))))))))))))))
theorem mz_i_wsX7_leastAt_39 : (.selects RX2 yX2_barred yX2_barred : Cond) ∈ wsX7_leastAt := mz_mt (mz_ml (mz_ml (mz_ml (mz_mr (mz_ml (mz_mt (mz_mt (mz_mt (mz_mt (mz_mt (mz_mt (mz_mt (mz_mt (mz_mt (mz_mt (mz_mt (mz_mt (mz_mt (mz_mt mz_mh)))))))))))))))))))
theorem mz_i_wsX7_leastAt_38 : (.instanceMethod yX2_barred : Cond) ∈ wsX7_leastAt := mz_mt (mz_ml (mz_ml (mz_ml (mz_mr (mz_ml (mz_mt (mz_mt (mz_mt (mz_mt (mz_mt (mz_mt (mz_mt (mz_mt (mz_mt (mz_mt (mz_mt (mz_mt (mz_mt mz_mh))))))))))))))))))
theorem mz_i_wsX7_leastAt_37 : (.methodLink RX3 30 yX2_barred : Cond) ∈ wsX7_leastAt := mz_mt (mz_ml (mz_ml (mz_ml (mz_mr (mz_ml (mz_mt (mz_mt (mz_mt (mz_mt (mz_mt (mz_mt (mz_mt (mz_mt (mz_mt (mz_mt (mz_mt (mz_mt mz_mh)))))))))))))))))
theorem mz_i_wsX7_leastAt_36 : (.code yX3_holdsOne cX3_holdsOne 3 (some .boolean) : Cond) ∈ wsX7_leastAt := mz_mt (mz_ml (mz_ml (mz_ml (mz_mr (mz_ml (mz_mt (mz_mt (mz_mt (mz_mt (mz_mt (mz_mt (mz_mt (mz_mt (mz_mt (mz_mt (mz_mt mz_mh))))))))))))))))
theorem mz_i_wsX7_leastAt_18 : (.initialized RX3 : Cond) ∈ wsX7_leastAt := mz_mt (mz_ml (mz_ml (mz_ml (mz_ml (mz_mt (mz_mt (mz_mt (mz_mt (mz_mt (mz_mt (mz_mt (mz_mt (mz_mt (mz_mt (mz_mt (mz_mt (mz_mt (mz_mt (mz_mt (mz_mt (mz_mt mz_mh)))))))))))))))))))))
theorem mz_i_wsX7_leastAt_35 : (.selects RX3 yX3_holdsOne yX3_holdsOne : Cond) ∈ wsX7_leastAt := mz_mt (mz_ml (mz_ml (mz_ml (mz_mr (mz_ml (mz_mt (mz_mt (mz_mt (mz_mt (mz_mt (mz_mt (mz_mt (mz_mt (mz_mt (mz_mt mz_mh)))))))))))))))
theorem mz_i_wsX7_leastAt_34 : (.instanceMethod yX3_holdsOne : Cond) ∈ wsX7_leastAt := mz_mt (mz_ml (mz_ml (mz_ml (mz_mr (mz_ml (mz_mt (mz_mt (mz_mt (mz_mt (mz_mt (mz_mt (mz_mt (mz_mt (mz_mt mz_mh))))))))))))))
theorem mz_i_wsX7_leastAt_33 : (.methodLink RX3 26 yX3_holdsOne : Cond) ∈ wsX7_leastAt := mz_mt (mz_ml (mz_ml (mz_ml (mz_mr (mz_ml (mz_mt (mz_mt (mz_mt (mz_mt (mz_mt (mz_mt (mz_mt (mz_mt mz_mh)))))))))))))
theorem mz_i_wsX7_leastAt_32 : (.constant RJ6 267 (252645135) : Cond) ∈ wsX7_leastAt := mz_mt (mz_ml (mz_ml (mz_ml (mz_mr (mz_ml (mz_mt (mz_mt (mz_mt (mz_mt (mz_mt (mz_mt (mz_mt mz_mh))))))))))))
theorem mz_i_wsX7_leastAt_31 : (.constant RJ6 266 (858993459) : Cond) ∈ wsX7_leastAt := mz_mt (mz_ml (mz_ml (mz_ml (mz_mr (mz_ml (mz_mt (mz_mt (mz_mt (mz_mt (mz_mt (mz_mt mz_mh)))))))))))
theorem mz_i_wsX7_leastAt_30 : (.constant RJ6 265 (1431655765) : Cond) ∈ wsX7_leastAt := mz_mt (mz_ml (mz_ml (mz_ml (mz_mr (mz_ml (mz_mt (mz_mt (mz_mt (mz_mt (mz_mt mz_mh))))))))))
theorem mz_i_wsX7_leastAt_29 : (.code yJ6_bitCount_0f7a4 cJ6_bitCount_0f7a4 1 (some .int) : Cond) ∈ wsX7_leastAt := mz_mt (mz_ml (mz_ml (mz_ml (mz_mr (mz_ml (mz_mt (mz_mt (mz_mt (mz_mt mz_mh)))))))))
theorem mz_i_wsX7_leastAt_28 : (.initialized RJ6 : Cond) ∈ wsX7_leastAt := mz_mt (mz_ml (mz_ml (mz_ml (mz_mr (mz_ml (mz_mt (mz_mt (mz_mt mz_mh))))))))
theorem mz_i_wsX7_leastAt_27 : (.static yJ6_bitCount_0f7a4 : Cond) ∈ wsX7_leastAt := mz_mt (mz_ml (mz_ml (mz_ml (mz_mr (mz_ml (mz_mt (mz_mt mz_mh)))))))
theorem mz_i_wsX7_leastAt_26 : (.methodLink RX7 239 yJ6_bitCount_0f7a4 : Cond) ∈ wsX7_leastAt := mz_mt (mz_ml (mz_ml (mz_ml (mz_mr (mz_ml (mz_mt mz_mh))))))
theorem mz_i_wsX7_leastAt_25 : (.code yX7_partsOf cX7_partsOf 1 (some .int) : Cond) ∈ wsX7_leastAt := mz_mt (mz_ml (mz_ml (mz_ml (mz_mr (mz_ml mz_mh)))))
theorem mz_i_wsX7_leastAt_24 : (.static yX7_partsOf : Cond) ∈ wsX7_leastAt := mz_mt (mz_ml (mz_ml (mz_ml (mz_ml (mz_mt (mz_mt (mz_mt (mz_mt (mz_mt (mz_mt (mz_mt (mz_mt (mz_mt (mz_mt (mz_mt (mz_mt (mz_mt (mz_mt (mz_mt (mz_mt (mz_mt (mz_mt (mz_mt (mz_mt (mz_mt (mz_mt (mz_mt mz_mh)))))))))))))))))))))))))))
theorem mz_i_wsX7_leastAt_23 : (.code yX7_bit cX7_bit 1 (some .int) : Cond) ∈ wsX7_leastAt := mz_mt (mz_ml (mz_ml (mz_ml (mz_ml (mz_mt (mz_mt (mz_mt (mz_mt (mz_mt (mz_mt (mz_mt (mz_mt (mz_mt (mz_mt (mz_mt (mz_mt (mz_mt (mz_mt (mz_mt (mz_mt (mz_mt (mz_mt (mz_mt (mz_mt (mz_mt (mz_mt mz_mh))))))))))))))))))))))))))
theorem mz_i_wsX7_leastAt_22 : (.static yX7_bit : Cond) ∈ wsX7_leastAt := mz_mt (mz_ml (mz_ml (mz_ml (mz_ml (mz_mt (mz_mt (mz_mt (mz_mt (mz_mt (mz_mt (mz_mt (mz_mt (mz_mt (mz_mt (mz_mt (mz_mt (mz_mt (mz_mt (mz_mt (mz_mt (mz_mt (mz_mt (mz_mt (mz_mt (mz_mt mz_mh)))))))))))))))))))))))))
theorem mz_i_wsX7_leastAt_21 : (.fieldLink RX3 9 "MadeItSo$LeastHeaps" "found" "[I" : Cond) ∈ wsX7_leastAt := mz_mt (mz_ml (mz_ml (mz_ml (mz_ml (mz_mt (mz_mt (mz_mt (mz_mt (mz_mt (mz_mt (mz_mt (mz_mt (mz_mt (mz_mt (mz_mt (mz_mt (mz_mt (mz_mt (mz_mt (mz_mt (mz_mt (mz_mt (mz_mt (mz_mt mz_mh))))))))))))))))))))))))
theorem mz_i_wsX7_leastAt_20 : (.fieldLink RX3 15 "MadeItSo$LeastHeaps" "many" "I" : Cond) ∈ wsX7_leastAt := mz_mt (mz_ml (mz_ml (mz_ml (mz_ml (mz_mt (mz_mt (mz_mt (mz_mt (mz_mt (mz_mt (mz_mt (mz_mt (mz_mt (mz_mt (mz_mt (mz_mt (mz_mt (mz_mt (mz_mt (mz_mt (mz_mt (mz_mt (mz_mt mz_mh)))))))))))))))))))))))
theorem mz_i_wsX7_leastAt_53 : (.code yX7_nextPart cX7_nextPart 2 (some .int) : Cond) ∈ wsX7_leastAt := mz_mt (mz_ml (mz_ml (mz_ml (mz_mr (mz_mr (mz_mt (mz_mt (mz_mt (mz_mt mz_mh)))))))))
theorem mz_i_wsX7_leastAt_52 : (.static yX7_nextPart : Cond) ∈ wsX7_leastAt := mz_mt (mz_ml (mz_ml (mz_ml (mz_mr (mz_mr (mz_mt (mz_mt (mz_mt mz_mh))))))))
theorem mz_i_wsX7_leastAt_51 : (.code yX7_inHeap cX7_inHeap 2 (some .boolean) : Cond) ∈ wsX7_leastAt := mz_mt (mz_ml (mz_ml (mz_ml (mz_mr (mz_mr (mz_mt (mz_mt mz_mh)))))))
theorem mz_i_wsX7_leastAt_50 : (.static yX7_inHeap : Cond) ∈ wsX7_leastAt := mz_mt (mz_ml (mz_ml (mz_ml (mz_mr (mz_mr (mz_mt mz_mh))))))
theorem mz_i_wsX7_leastAt_49 : (.code yX2_gather cX2_gather 4 (some .int) : Cond) ∈ wsX7_leastAt := mz_mt (mz_ml (mz_ml (mz_ml (mz_mr (mz_mr mz_mh)))))
theorem mz_i_wsX7_leastAt_48 : (.static yX2_gather : Cond) ∈ wsX7_leastAt := mz_mt (mz_ml (mz_ml (mz_ml (mz_mr (mz_ml (mz_mt (mz_mt (mz_mt (mz_mt (mz_mt (mz_mt (mz_mt (mz_mt (mz_mt (mz_mt (mz_mt (mz_mt (mz_mt (mz_mt (mz_mt (mz_mt (mz_mt (mz_mt (mz_mt (mz_mt (mz_mt (mz_mt (mz_mt mz_mh))))))))))))))))))))))))))))
theorem mz_i_wsX7_leastAt_47 : (.methodLink RX2 55 yX2_gather : Cond) ∈ wsX7_leastAt := mz_mt (mz_ml (mz_ml (mz_ml (mz_mr (mz_ml (mz_mt (mz_mt (mz_mt (mz_mt (mz_mt (mz_mt (mz_mt (mz_mt (mz_mt (mz_mt (mz_mt (mz_mt (mz_mt (mz_mt (mz_mt (mz_mt (mz_mt (mz_mt (mz_mt (mz_mt (mz_mt (mz_mt mz_mh)))))))))))))))))))))))))))
theorem mz_i_wsX7_leastAt_46 : (.code yX2_spread cX2_spread 6 (some .int) : Cond) ∈ wsX7_leastAt := mz_mt (mz_ml (mz_ml (mz_ml (mz_mr (mz_ml (mz_mt (mz_mt (mz_mt (mz_mt (mz_mt (mz_mt (mz_mt (mz_mt (mz_mt (mz_mt (mz_mt (mz_mt (mz_mt (mz_mt (mz_mt (mz_mt (mz_mt (mz_mt (mz_mt (mz_mt (mz_mt mz_mh))))))))))))))))))))))))))
theorem mz_i_wsX7_leastAt_45 : (.selects RX2 yX2_spread yX2_spread : Cond) ∈ wsX7_leastAt := mz_mt (mz_ml (mz_ml (mz_ml (mz_mr (mz_ml (mz_mt (mz_mt (mz_mt (mz_mt (mz_mt (mz_mt (mz_mt (mz_mt (mz_mt (mz_mt (mz_mt (mz_mt (mz_mt (mz_mt (mz_mt (mz_mt (mz_mt (mz_mt (mz_mt (mz_mt mz_mh)))))))))))))))))))))))))
theorem mz_i_wsX7_leastAt_44 : (.instanceMethod yX2_spread : Cond) ∈ wsX7_leastAt := mz_mt (mz_ml (mz_ml (mz_ml (mz_mr (mz_ml (mz_mt (mz_mt (mz_mt (mz_mt (mz_mt (mz_mt (mz_mt (mz_mt (mz_mt (mz_mt (mz_mt (mz_mt (mz_mt (mz_mt (mz_mt (mz_mt (mz_mt (mz_mt (mz_mt mz_mh))))))))))))))))))))))))
theorem mz_i_wsX7_leastAt_43 : (.methodLink RX2 51 yX2_spread : Cond) ∈ wsX7_leastAt := mz_mt (mz_ml (mz_ml (mz_ml (mz_mr (mz_ml (mz_mt (mz_mt (mz_mt (mz_mt (mz_mt (mz_mt (mz_mt (mz_mt (mz_mt (mz_mt (mz_mt (mz_mt (mz_mt (mz_mt (mz_mt (mz_mt (mz_mt (mz_mt mz_mh)))))))))))))))))))))))
theorem mz_i_wsX7_leastAt_42 : (.fieldLink RX2 15 "MadeItSo$Drawing" "children" "[I" : Cond) ∈ wsX7_leastAt := mz_mt (mz_ml (mz_ml (mz_ml (mz_mr (mz_ml (mz_mt (mz_mt (mz_mt (mz_mt (mz_mt (mz_mt (mz_mt (mz_mt (mz_mt (mz_mt (mz_mt (mz_mt (mz_mt (mz_mt (mz_mt (mz_mt (mz_mt mz_mh))))))))))))))))))))))
theorem mz_i_wsX7_leastAt_41 : (.fieldLink RX2 9 "MadeItSo$Drawing" "parents" "[I" : Cond) ∈ wsX7_leastAt := mz_mt (mz_ml (mz_ml (mz_ml (mz_mr (mz_ml (mz_mt (mz_mt (mz_mt (mz_mt (mz_mt (mz_mt (mz_mt (mz_mt (mz_mt (mz_mt (mz_mt (mz_mt (mz_mt (mz_mt (mz_mt (mz_mt mz_mh)))))))))))))))))))))
theorem mz_f_wsX7_leastAt_wsX30 : ∀ w ∈ wsX30, w ∈ wsX7_leastAt := fun _ h => mz_mt (mz_mr h)
set_option maxRecDepth 20000 in
theorem ggX7_leastAt_X3_seek : GoodIn wsX7_leastAt wsX3_seek := goodIn_sub (mz_fc mz_i_wsX7_leastAt_19 (mz_fa (mz_fa (mz_fa (mz_fc mz_i_wsX7_leastAt_20 (mz_fc mz_i_wsX7_leastAt_21 (mz_fc mz_i_wsX7_leastAt_22 (mz_fc mz_i_wsX7_leastAt_7 (mz_fc mz_i_wsX7_leastAt_23 (mz_fc mz_i_wsX7_leastAt_24 (mz_fc mz_i_wsX7_leastAt_25 (mz_fc mz_i_wsX7_leastAt_26 (mz_fc mz_i_wsX7_leastAt_27 (mz_fc mz_i_wsX7_leastAt_28 (mz_fc mz_i_wsX7_leastAt_29 (mz_fc mz_i_wsX7_leastAt_30 (mz_fc mz_i_wsX7_leastAt_31 (mz_fc mz_i_wsX7_leastAt_32 (mz_fc mz_i_wsX7_leastAt_33 (mz_fc mz_i_wsX7_leastAt_34 (mz_fc mz_i_wsX7_leastAt_35 (mz_fc mz_i_wsX7_leastAt_18 (mz_fc mz_i_wsX7_leastAt_36 (mz_fc mz_i_wsX7_leastAt_37 (mz_fc mz_i_wsX7_leastAt_38 (mz_fc mz_i_wsX7_leastAt_39 (mz_fc mz_i_wsX7_leastAt_12 (mz_fc mz_i_wsX7_leastAt_40 mz_fn)))))))))))))))))))))))) (mz_fc mz_i_wsX7_leastAt_41 (mz_fc mz_i_wsX7_leastAt_42 (mz_fc mz_i_wsX7_leastAt_43 (mz_fc mz_i_wsX7_leastAt_44 (mz_fc mz_i_wsX7_leastAt_45 (mz_fc mz_i_wsX7_leastAt_46 (mz_fc mz_i_wsX7_leastAt_47 (mz_fc mz_i_wsX7_leastAt_48 (mz_fc mz_i_wsX7_leastAt_49 (mz_fc mz_i_wsX7_leastAt_50 (mz_fc mz_i_wsX7_leastAt_51 (mz_fc mz_i_wsX7_leastAt_52 (mz_fc mz_i_wsX7_leastAt_53 mz_fn)))))))))))))) (mz_f_wsX7_leastAt_wsX30)) (mz_f_wsX7_leastAt_wsX20))) (by decide +kernel)
theorem mz_i_wsX7_leastAt_17 : (.selects RX3 yX3_seek yX3_seek : Cond) ∈ wsX7_leastAt := mz_mt (mz_ml (mz_ml (mz_ml (mz_ml (mz_mt (mz_mt (mz_mt (mz_mt (mz_mt (mz_mt (mz_mt (mz_mt (mz_mt (mz_mt (mz_mt (mz_mt (mz_mt (mz_mt (mz_mt (mz_mt mz_mh))))))))))))))))))))
theorem mz_i_wsX7_leastAt_16 : (.instanceMethod yX3_seek : Cond) ∈ wsX7_leastAt := mz_mt (mz_ml (mz_ml (mz_ml (mz_ml (mz_mt (mz_mt (mz_mt (mz_mt (mz_mt (mz_mt (mz_mt (mz_mt (mz_mt (mz_mt (mz_mt (mz_mt (mz_mt (mz_mt (mz_mt mz_mh)))))))))))))))))))
theorem mz_i_wsX7_leastAt_15 : (.methodLink RX7 154 yX3_seek : Cond) ∈ wsX7_leastAt := mz_mt (mz_ml (mz_ml (mz_ml (mz_ml (mz_mt (mz_mt (mz_mt (mz_mt (mz_mt (mz_mt (mz_mt (mz_mt (mz_mt (mz_mt (mz_mt (mz_mt (mz_mt (mz_mt mz_mh))))))))))))))))))
set_option maxRecDepth 20000 in
theorem gX7_leastAt_X3_seek : GoodIn wsX7_leastAt (wsV RX7 154 RX3 yX3_seek wsX3_seek) := goodIn_app (goodIn_sub (mz_fc mz_i_wsX7_leastAt_15 (mz_fc mz_i_wsX7_leastAt_16 (mz_fc mz_i_wsX7_leastAt_17 (mz_fc mz_i_wsX7_leastAt_18 mz_fn)))) (by decide +kernel)) ggX7_leastAt_X3_seek
theorem mz_i_wsX7_leastAt_57 : (.code yX3_at cX3_at 2 (some .int) : Cond) ∈ wsX7_leastAt := mz_mt (mz_ml (mz_ml (mz_ml (mz_mr (mz_mr (mz_mt (mz_mt (mz_mt (mz_mt (mz_mt (mz_mt (mz_mt (mz_mt mz_mh)))))))))))))
set_option maxRecDepth 20000 in
theorem ggX7_leastAt_X3_at : GoodIn wsX7_leastAt wsX3_at := goodIn_sub (mz_fc mz_i_wsX7_leastAt_57 (mz_fa (mz_fc mz_i_wsX7_leastAt_20 (mz_fc mz_i_wsX7_leastAt_21 mz_fn)) (mz_f_wsX7_leastAt_wsX30))) (by decide +kernel)
theorem mz_i_wsX7_leastAt_56 : (.selects RX3 yX3_at yX3_at : Cond) ∈ wsX7_leastAt := mz_mt (mz_ml (mz_ml (mz_ml (mz_mr (mz_mr (mz_mt (mz_mt (mz_mt (mz_mt (mz_mt (mz_mt (mz_mt mz_mh))))))))))))
theorem mz_i_wsX7_leastAt_55 : (.instanceMethod yX3_at : Cond) ∈ wsX7_leastAt := mz_mt (mz_ml (mz_ml (mz_ml (mz_mr (mz_mr (mz_mt (mz_mt (mz_mt (mz_mt (mz_mt (mz_mt mz_mh)))))))))))
theorem mz_i_wsX7_leastAt_54 : (.methodLink RX7 161 yX3_at : Cond) ∈ wsX7_leastAt := mz_mt (mz_ml (mz_ml (mz_ml (mz_mr (mz_mr (mz_mt (mz_mt (mz_mt (mz_mt (mz_mt mz_mh))))))))))
set_option maxRecDepth 20000 in
theorem gX7_leastAt_X3_at : GoodIn wsX7_leastAt (wsV RX7 161 RX3 yX3_at wsX3_at) := goodIn_app (goodIn_sub (mz_fc mz_i_wsX7_leastAt_54 (mz_fc mz_i_wsX7_leastAt_55 (mz_fc mz_i_wsX7_leastAt_56 (mz_fc mz_i_wsX7_leastAt_18 mz_fn)))) (by decide +kernel)) ggX7_leastAt_X3_at
theorem dX7_leastAt_0 : decode cX7_leastAt 0 = .ok (.aload_n 0, 1) := by decide +kernel
theorem dX7_leastAt_1 : decode cX7_leastAt 1 = .ok (.iload_n 1, 1) := by decide +kernel
theorem dX7_leastAt_2 : decode cX7_leastAt 2 = .ok (.iload_n 2, 1) := by decide +kernel
theorem dX7_leastAt_3 : decode cX7_leastAt 3 = .ok (.invokevirtual 151, 3) := by decide +kernel
theorem dX7_leastAt_6 : decode cX7_leastAt 6 = .ok (.ifCond .ne 5, 3) := by decide +kernel
theorem dX7_leastAt_9 : decode cX7_leastAt 9 = .ok (.iconst (-1), 1) := by decide +kernel
theorem dX7_leastAt_10 : decode cX7_leastAt 10 = .ok (.ireturn, 1) := by decide +kernel
theorem dX7_leastAt_11 : decode cX7_leastAt 11 = .ok (.aload_n 0, 1) := by decide +kernel
theorem dX7_leastAt_12 : decode cX7_leastAt 12 = .ok (.getfield 43, 3) := by decide +kernel
theorem dX7_leastAt_15 : decode cX7_leastAt 15 = .ok (.aload_n 0, 1) := by decide +kernel
theorem dX7_leastAt_16 : decode cX7_leastAt 16 = .ok (.getfield 12, 3) := by decide +kernel
theorem dX7_leastAt_19 : decode cX7_leastAt 19 = .ok (.iload_n 1, 1) := by decide +kernel
theorem dX7_leastAt_20 : decode cX7_leastAt 20 = .ok (.iload_n 2, 1) := by decide +kernel
theorem dX7_leastAt_21 : decode cX7_leastAt 21 = .ok (.aload_n 0, 1) := by decide +kernel
theorem dX7_leastAt_22 : decode cX7_leastAt 22 = .ok (.getfield 54, 3) := by decide +kernel
theorem dX7_leastAt_25 : decode cX7_leastAt 25 = .ok (.invokevirtual 154, 3) := by decide +kernel
theorem dX7_leastAt_28 : decode cX7_leastAt 28 = .ok (.aload_n 0, 1) := by decide +kernel
theorem dX7_leastAt_29 : decode cX7_leastAt 29 = .ok (.getfield 43, 3) := by decide +kernel
theorem dX7_leastAt_32 : decode cX7_leastAt 32 = .ok (.iload_n 3, 1) := by decide +kernel
theorem dX7_leastAt_33 : decode cX7_leastAt 33 = .ok (.invokevirtual 161, 3) := by decide +kernel
theorem dX7_leastAt_36 : decode cX7_leastAt 36 = .ok (.ireturn, 1) := by decide +kernel
theorem mz_i_wsX7_fit_8 : (.code yX7_areTwo cX7_areTwo 3 (some .boolean) : Cond) ∈ wsX7_fit := mz_mt (mz_ml (mz_ml (mz_ml (mz_mt (mz_mt (mz_mt (mz_mt (mz_mt (mz_mt (mz_mt mz_mh))))))))))
theorem mz_i_wsX7_fit_14 : (.fieldLink RX2 18 "MadeItSo$Drawing" "things" "I" : Cond) ∈ wsX7_fit := mz_mt (mz_ml (mz_ml (mz_ml (mz_mt (mz_mt (mz_mt (mz_mt (mz_mt (mz_mt (mz_mt (mz_mt (mz_mt (mz_mt (mz_mt (mz_mt (mz_mt mz_mh))))))))))))))))
theorem mz_i_wsX7_fit_13 : (.code yX2_has cX2_has 2 (some .boolean) : Cond) ∈ wsX7_fit := mz_mt (mz_ml (mz_ml (mz_ml (mz_mt (mz_mt (mz_mt (mz_mt (mz_mt (mz_mt (mz_mt (mz_mt (mz_mt (mz_mt (mz_mt (mz_mt mz_mh)))))))))))))))
theorem mz_i_wsX7_fit_12 : (.initialized RX2 : Cond) ∈ wsX7_fit := mz_mt (mz_ml (mz_ml (mz_ml (mz_mt (mz_mt (mz_mt (mz_mt (mz_mt (mz_mt (mz_mt (mz_mt (mz_mt (mz_mt (mz_mt mz_mh))))))))))))))
theorem mz_i_wsX7_fit_11 : (.selects RX2 yX2_has yX2_has : Cond) ∈ wsX7_fit := mz_mt (mz_ml (mz_ml (mz_ml (mz_mt (mz_mt (mz_mt (mz_mt (mz_mt (mz_mt (mz_mt (mz_mt (mz_mt (mz_mt mz_mh)))))))))))))
theorem mz_i_wsX7_fit_10 : (.instanceMethod yX2_has : Cond) ∈ wsX7_fit := mz_mt (mz_ml (mz_ml (mz_ml (mz_mt (mz_mt (mz_mt (mz_mt (mz_mt (mz_mt (mz_mt (mz_mt (mz_mt mz_mh))))))))))))
theorem mz_i_wsX7_fit_9 : (.methodLink RX7 77 yX2_has : Cond) ∈ wsX7_fit := mz_mt (mz_ml (mz_ml (mz_ml (mz_mt (mz_mt (mz_mt (mz_mt (mz_mt (mz_mt (mz_mt (mz_mt mz_mh)))))))))))
theorem mz_i_wsX7_fit_2 : (.fieldLink RX7 12 "MadeItSo" "drawing" "LMadeItSo$Drawing;" : Cond) ∈ wsX7_fit := mz_mt (mz_ml (mz_ml (mz_ml (mz_mt mz_mh))))
theorem mz_f_wsX7_fit_wsX70 : ∀ w ∈ wsX70, w ∈ wsX7_fit := fun _ h => mz_mt (mz_ml (mz_mr h))
theorem mz_f_wsX7_fit_wsX20 : ∀ w ∈ wsX20, w ∈ wsX7_fit := fun _ h => mz_mt (mz_mr h)
set_option maxRecDepth 20000 in
theorem ggX7_fit_X7_areTwo : GoodIn wsX7_fit wsX7_areTwo := goodIn_sub (mz_fc mz_i_wsX7_fit_8 (mz_fa (mz_fa (mz_fc mz_i_wsX7_fit_2 (mz_fc mz_i_wsX7_fit_9 (mz_fc mz_i_wsX7_fit_10 (mz_fc mz_i_wsX7_fit_11 (mz_fc mz_i_wsX7_fit_12 (mz_fc mz_i_wsX7_fit_13 (mz_fc mz_i_wsX7_fit_14 mz_fn))))))) (mz_f_wsX7_fit_wsX70)) (mz_f_wsX7_fit_wsX20))) (by decide +kernel)
theorem mz_i_wsX7_fit_7 : (.initialized RX7 : Cond) ∈ wsX7_fit := mz_mt (mz_ml (mz_ml (mz_ml (mz_mt (mz_mt (mz_mt (mz_mt (mz_mt (mz_mt mz_mh)))))))))
theorem mz_i_wsX7_fit_6 : (.selects RX7 yX7_areTwo yX7_areTwo : Cond) ∈ wsX7_fit := mz_mt (mz_ml (mz_ml (mz_ml (mz_mt (mz_mt (mz_mt (mz_mt (mz_mt mz_mh))))))))
theorem mz_i_wsX7_fit_5 : (.instanceMethod yX7_areTwo : Cond) ∈ wsX7_fit := mz_mt (mz_ml (mz_ml (mz_ml (mz_mt (mz_mt (mz_mt (mz_mt mz_mh)))))))
theorem mz_i_wsX7_fit_4 : (.methodLink RX7 151 yX7_areTwo : Cond) ∈ wsX7_fit := mz_mt (mz_ml (mz_ml (mz_ml (mz_mt (mz_mt (mz_mt mz_mh))))))
set_option maxRecDepth 20000 in
theorem gX7_fit_X7_areTwo : GoodIn wsX7_fit (wsV RX7 151 RX7 yX7_areTwo wsX7_areTwo) := goodIn_app (goodIn_sub (mz_fc mz_i_wsX7_fit_4 (mz_fc mz_i_wsX7_fit_5 (mz_fc mz_i_wsX7_fit_6 (mz_fc mz_i_wsX7_fit_7 mz_fn)))) (by decide +kernel)) ggX7_fit_X7_areTwo
theorem mz_i_wsX7_fit_18 : (.code yX7_isHeap cX7_isHeap 2 (some .boolean) : Cond) ∈ wsX7_fit := mz_mt (mz_ml (mz_ml (mz_ml (mz_mt (mz_mt (mz_mt (mz_mt (mz_mt (mz_mt (mz_mt (mz_mt (mz_mt (mz_mt (mz_mt (mz_mt (mz_mt (mz_mt (mz_mt (mz_mt (mz_mt mz_mh))))))))))))))))))))
theorem mz_i_wsX7_fit_22 : (.code yX2_everything cX2_everything 1 (some .int) : Cond) ∈ wsX7_fit := mz_mt (mz_ml (mz_ml (mz_ml (mz_mt (mz_mt (mz_mt (mz_mt (mz_mt (mz_mt (mz_mt (mz_mt (mz_mt (mz_mt (mz_mt (mz_mt (mz_mt (mz_mt (mz_mt (mz_mt (mz_mt (mz_mt (mz_mt (mz_mt (mz_mt mz_mh))))))))))))))))))))))))
theorem mz_i_wsX7_fit_21 : (.selects RX2 yX2_everything yX2_everything : Cond) ∈ wsX7_fit := mz_mt (mz_ml (mz_ml (mz_ml (mz_mt (mz_mt (mz_mt (mz_mt (mz_mt (mz_mt (mz_mt (mz_mt (mz_mt (mz_mt (mz_mt (mz_mt (mz_mt (mz_mt (mz_mt (mz_mt (mz_mt (mz_mt (mz_mt (mz_mt mz_mh)))))))))))))))))))))))
theorem mz_i_wsX7_fit_20 : (.instanceMethod yX2_everything : Cond) ∈ wsX7_fit := mz_mt (mz_ml (mz_ml (mz_ml (mz_mt (mz_mt (mz_mt (mz_mt (mz_mt (mz_mt (mz_mt (mz_mt (mz_mt (mz_mt (mz_mt (mz_mt (mz_mt (mz_mt (mz_mt (mz_mt (mz_mt (mz_mt (mz_mt mz_mh))))))))))))))))))))))
theorem mz_i_wsX7_fit_19 : (.methodLink RX7 223 yX2_everything : Cond) ∈ wsX7_fit := mz_mt (mz_ml (mz_ml (mz_ml (mz_mt (mz_mt (mz_mt (mz_mt (mz_mt (mz_mt (mz_mt (mz_mt (mz_mt (mz_mt (mz_mt (mz_mt (mz_mt (mz_mt (mz_mt (mz_mt (mz_mt (mz_mt mz_mh)))))))))))))))))))))
set_option maxRecDepth 20000 in
theorem ggX7_fit_X7_isHeap : GoodIn wsX7_fit wsX7_isHeap := goodIn_sub (mz_fc mz_i_wsX7_fit_18 (mz_fa (mz_fa (mz_fc mz_i_wsX7_fit_2 (mz_fc mz_i_wsX7_fit_19 (mz_fc mz_i_wsX7_fit_20 (mz_fc mz_i_wsX7_fit_21 (mz_fc mz_i_wsX7_fit_12 (mz_fc mz_i_wsX7_fit_22 (mz_fc mz_i_wsX7_fit_14 mz_fn))))))) (mz_f_wsX7_fit_wsX70)) (mz_f_wsX7_fit_wsX20))) (by decide +kernel)
theorem mz_i_wsX7_fit_17 : (.selects RX7 yX7_isHeap yX7_isHeap : Cond) ∈ wsX7_fit := mz_mt (mz_ml (mz_ml (mz_ml (mz_mt (mz_mt (mz_mt (mz_mt (mz_mt (mz_mt (mz_mt (mz_mt (mz_mt (mz_mt (mz_mt (mz_mt (mz_mt (mz_mt (mz_mt (mz_mt mz_mh)))))))))))))))))))
theorem mz_i_wsX7_fit_16 : (.instanceMethod yX7_isHeap : Cond) ∈ wsX7_fit := mz_mt (mz_ml (mz_ml (mz_ml (mz_mt (mz_mt (mz_mt (mz_mt (mz_mt (mz_mt (mz_mt (mz_mt (mz_mt (mz_mt (mz_mt (mz_mt (mz_mt (mz_mt (mz_mt mz_mh))))))))))))))))))
theorem mz_i_wsX7_fit_15 : (.methodLink RX7 144 yX7_isHeap : Cond) ∈ wsX7_fit := mz_mt (mz_ml (mz_ml (mz_ml (mz_mt (mz_mt (mz_mt (mz_mt (mz_mt (mz_mt (mz_mt (mz_mt (mz_mt (mz_mt (mz_mt (mz_mt (mz_mt (mz_mt mz_mh)))))))))))))))))
set_option maxRecDepth 20000 in
theorem gX7_fit_X7_isHeap : GoodIn wsX7_fit (wsV RX7 144 RX7 yX7_isHeap wsX7_isHeap) := goodIn_app (goodIn_sub (mz_fc mz_i_wsX7_fit_15 (mz_fc mz_i_wsX7_fit_16 (mz_fc mz_i_wsX7_fit_17 (mz_fc mz_i_wsX7_fit_7 mz_fn)))) (by decide +kernel)) ggX7_fit_X7_isHeap
theorem mz_i_wsX7_fit_25 : (.code yX7_inHeap cX7_inHeap 2 (some .boolean) : Cond) ∈ wsX7_fit := mz_mt (mz_ml (mz_ml (mz_mr (mz_ml mz_mh))))
set_option maxRecDepth 20000 in
theorem ggX7_fit_X7_inHeap : GoodIn wsX7_fit wsX7_inHeap := goodIn_sub (mz_fc mz_i_wsX7_fit_25 (mz_fn)) (by decide +kernel)
theorem mz_i_wsX7_fit_24 : (.static yX7_inHeap : Cond) ∈ wsX7_fit := mz_mt (mz_ml (mz_ml (mz_ml (mz_mt (mz_mt (mz_mt (mz_mt (mz_mt (mz_mt (mz_mt (mz_mt (mz_mt (mz_mt (mz_mt (mz_mt (mz_mt (mz_mt (mz_mt (mz_mt (mz_mt (mz_mt (mz_mt (mz_mt (mz_mt (mz_mt (mz_mt mz_mh))))))))))))))))))))))))))
theorem mz_i_wsX7_fit_23 : (.methodLink RX7 106 yX7_inHeap : Cond) ∈ wsX7_fit := mz_mt (mz_ml (mz_ml (mz_ml (mz_mt (mz_mt (mz_mt (mz_mt (mz_mt (mz_mt (mz_mt (mz_mt (mz_mt (mz_mt (mz_mt (mz_mt (mz_mt (mz_mt (mz_mt (mz_mt (mz_mt (mz_mt (mz_mt (mz_mt (mz_mt (mz_mt mz_mh)))))))))))))))))))))))))
set_option maxRecDepth 20000 in
theorem gX7_fit_X7_inHeap : GoodIn wsX7_fit (va_wsS RX7 106 yX7_inHeap wsX7_inHeap) := goodIn_app (goodIn_sub (mz_fc mz_i_wsX7_fit_23 (mz_fc mz_i_wsX7_fit_24 (mz_fc mz_i_wsX7_fit_7 mz_fn))) (by decide +kernel)) ggX7_fit_X7_inHeap
theorem mz_i_wsX7_fit_29 : (.code yX2_allBelow cX2_allBelow 2 (some .int) : Cond) ∈ wsX7_fit := mz_mt (mz_ml (mz_ml (mz_mr (mz_ml (mz_mt (mz_mt (mz_mt (mz_mt mz_mh))))))))
theorem mz_i_wsX7_fit_46 : (.code yX2_gather cX2_gather 4 (some .int) : Cond) ∈ wsX7_fit := mz_mt (mz_ml (mz_ml (mz_mr (mz_ml (mz_mt (mz_mt (mz_mt (mz_mt (mz_mt (mz_mt (mz_mt (mz_mt (mz_mt (mz_mt (mz_mt (mz_mt (mz_mt (mz_mt (mz_mt (mz_mt (mz_mt (mz_mt (mz_mt (mz_mt (mz_mt mz_mh)))))))))))))))))))))))))
theorem mz_i_wsX7_fit_45 : (.static yX2_gather : Cond) ∈ wsX7_fit := mz_mt (mz_ml (mz_ml (mz_mr (mz_ml (mz_mt (mz_mt (mz_mt (mz_mt (mz_mt (mz_mt (mz_mt (mz_mt (mz_mt (mz_mt (mz_mt (mz_mt (mz_mt (mz_mt (mz_mt (mz_mt (mz_mt (mz_mt (mz_mt (mz_mt mz_mh))))))))))))))))))))))))
theorem mz_i_wsX7_fit_44 : (.methodLink RX2 55 yX2_gather : Cond) ∈ wsX7_fit := mz_mt (mz_ml (mz_ml (mz_mr (mz_ml (mz_mt (mz_mt (mz_mt (mz_mt (mz_mt (mz_mt (mz_mt (mz_mt (mz_mt (mz_mt (mz_mt (mz_mt (mz_mt (mz_mt (mz_mt (mz_mt (mz_mt (mz_mt (mz_mt mz_mh)))))))))))))))))))))))
theorem mz_i_wsX7_fit_43 : (.code yX2_spread cX2_spread 6 (some .int) : Cond) ∈ wsX7_fit := mz_mt (mz_ml (mz_ml (mz_mr (mz_ml (mz_mt (mz_mt (mz_mt (mz_mt (mz_mt (mz_mt (mz_mt (mz_mt (mz_mt (mz_mt (mz_mt (mz_mt (mz_mt (mz_mt (mz_mt (mz_mt (mz_mt (mz_mt mz_mh))))))))))))))))))))))
theorem mz_i_wsX7_fit_42 : (.selects RX2 yX2_spread yX2_spread : Cond) ∈ wsX7_fit := mz_mt (mz_ml (mz_ml (mz_mr (mz_ml (mz_mt (mz_mt (mz_mt (mz_mt (mz_mt (mz_mt (mz_mt (mz_mt (mz_mt (mz_mt (mz_mt (mz_mt (mz_mt (mz_mt (mz_mt (mz_mt (mz_mt mz_mh)))))))))))))))))))))
theorem mz_i_wsX7_fit_41 : (.instanceMethod yX2_spread : Cond) ∈ wsX7_fit := mz_mt (mz_ml (mz_ml (mz_mr (mz_ml (mz_mt (mz_mt (mz_mt (mz_mt (mz_mt (mz_mt (mz_mt (mz_mt (mz_mt (mz_mt (mz_mt (mz_mt (mz_mt (mz_mt (mz_mt (mz_mt mz_mh))))))))))))))))))))
theorem mz_i_wsX7_fit_40 : (.methodLink RX2 51 yX2_spread : Cond) ∈ wsX7_fit := mz_mt (mz_ml (mz_ml (mz_mr (mz_ml (mz_mt (mz_mt (mz_mt (mz_mt (mz_mt (mz_mt (mz_mt (mz_mt (mz_mt (mz_mt (mz_mt (mz_mt (mz_mt (mz_mt (mz_mt mz_mh)))))))))))))))))))
theorem mz_i_wsX7_fit_39 : (.code yX2_withAllBelow cX2_withAllBelow 2 (some .int) : Cond) ∈ wsX7_fit := mz_mt (mz_ml (mz_ml (mz_mr (mz_ml (mz_mt (mz_mt (mz_mt (mz_mt (mz_mt (mz_mt (mz_mt (mz_mt (mz_mt (mz_mt (mz_mt (mz_mt (mz_mt (mz_mt mz_mh))))))))))))))))))
theorem mz_i_wsX7_fit_38 : (.selects RX2 yX2_withAllBelow yX2_withAllBelow : Cond) ∈ wsX7_fit := mz_mt (mz_ml (mz_ml (mz_mr (mz_ml (mz_mt (mz_mt (mz_mt (mz_mt (mz_mt (mz_mt (mz_mt (mz_mt (mz_mt (mz_mt (mz_mt (mz_mt (mz_mt mz_mh)))))))))))))))))
theorem mz_i_wsX7_fit_37 : (.instanceMethod yX2_withAllBelow : Cond) ∈ wsX7_fit := mz_mt (mz_ml (mz_ml (mz_mr (mz_ml (mz_mt (mz_mt (mz_mt (mz_mt (mz_mt (mz_mt (mz_mt (mz_mt (mz_mt (mz_mt (mz_mt (mz_mt mz_mh))))))))))))))))
theorem mz_i_wsX7_fit_36 : (.methodLink RX2 48 yX2_withAllBelow : Cond) ∈ wsX7_fit := mz_mt (mz_ml (mz_ml (mz_mr (mz_ml (mz_mt (mz_mt (mz_mt (mz_mt (mz_mt (mz_mt (mz_mt (mz_mt (mz_mt (mz_mt (mz_mt mz_mh)))))))))))))))
theorem mz_i_wsX7_fit_35 : (.methodLink RX2 22 yX2_has : Cond) ∈ wsX7_fit := mz_mt (mz_ml (mz_ml (mz_mr (mz_ml (mz_mt (mz_mt (mz_mt (mz_mt (mz_mt (mz_mt (mz_mt (mz_mt (mz_mt (mz_mt mz_mh))))))))))))))
theorem mz_i_wsX7_fit_34 : (.fieldLink RX2 15 "MadeItSo$Drawing" "children" "[I" : Cond) ∈ wsX7_fit := mz_mt (mz_ml (mz_ml (mz_mr (mz_ml (mz_mt (mz_mt (mz_mt (mz_mt (mz_mt (mz_mt (mz_mt (mz_mt (mz_mt mz_mh)))))))))))))
theorem mz_i_wsX7_fit_33 : (.code yX2_childrenOf cX2_childrenOf 2 (some .int) : Cond) ∈ wsX7_fit := mz_mt (mz_ml (mz_ml (mz_mr (mz_ml (mz_mt (mz_mt (mz_mt (mz_mt (mz_mt (mz_mt (mz_mt (mz_mt mz_mh))))))))))))
theorem mz_i_wsX7_fit_32 : (.selects RX2 yX2_childrenOf yX2_childrenOf : Cond) ∈ wsX7_fit := mz_mt (mz_ml (mz_ml (mz_mr (mz_ml (mz_mt (mz_mt (mz_mt (mz_mt (mz_mt (mz_mt (mz_mt mz_mh)))))))))))
theorem mz_i_wsX7_fit_31 : (.instanceMethod yX2_childrenOf : Cond) ∈ wsX7_fit := mz_mt (mz_ml (mz_ml (mz_mr (mz_ml (mz_mt (mz_mt (mz_mt (mz_mt (mz_mt (mz_mt mz_mh))))))))))
theorem mz_i_wsX7_fit_30 : (.methodLink RX2 45 yX2_childrenOf : Cond) ∈ wsX7_fit := mz_mt (mz_ml (mz_ml (mz_mr (mz_ml (mz_mt (mz_mt (mz_mt (mz_mt (mz_mt mz_mh)))))))))
set_option maxRecDepth 20000 in
theorem ggX7_fit_X2_allBelow : GoodIn wsX7_fit wsX2_allBelow := goodIn_sub (mz_fc mz_i_wsX7_fit_29 (mz_fa (mz_fa (mz_fc mz_i_wsX7_fit_30 (mz_fc mz_i_wsX7_fit_31 (mz_fc mz_i_wsX7_fit_32 (mz_fc mz_i_wsX7_fit_12 (mz_fc mz_i_wsX7_fit_33 (mz_fc mz_i_wsX7_fit_34 (mz_fc mz_i_wsX7_fit_35 (mz_fc mz_i_wsX7_fit_10 (mz_fc mz_i_wsX7_fit_11 (mz_fc mz_i_wsX7_fit_13 (mz_fc mz_i_wsX7_fit_14 (mz_fc mz_i_wsX7_fit_36 (mz_fc mz_i_wsX7_fit_37 (mz_fc mz_i_wsX7_fit_38 (mz_fc mz_i_wsX7_fit_39 (mz_fc mz_i_wsX7_fit_40 (mz_fc mz_i_wsX7_fit_41 (mz_fc mz_i_wsX7_fit_42 (mz_fc mz_i_wsX7_fit_43 (mz_fc mz_i_wsX7_fit_44 (mz_fc mz_i_wsX7_fit_45 (mz_fc mz_i_wsX7_fit_46 (mz_fc mz_i_wsX7_fit_24 (mz_fc mz_i_wsX7_fit_7 mz_fn)))))))))))))))))))))))) (mz_fc mz_i_wsX7_fit_25 mz_fn)) (mz_f_wsX7_fit_wsX20))) (by decide +kernel)
theorem mz_i_wsX7_fit_28 : (.selects RX2 yX2_allBelow yX2_allBelow : Cond) ∈ wsX7_fit := mz_mt (mz_ml (mz_ml (mz_mr (mz_ml (mz_mt (mz_mt (mz_mt mz_mh)))))))
theorem mz_i_wsX7_fit_27 : (.instanceMethod yX2_allBelow : Cond) ∈ wsX7_fit := mz_mt (mz_ml (mz_ml (mz_mr (mz_ml (mz_mt (mz_mt mz_mh))))))
theorem mz_i_wsX7_fit_26 : (.methodLink RX7 115 yX2_allBelow : Cond) ∈ wsX7_fit := mz_mt (mz_ml (mz_ml (mz_mr (mz_ml (mz_mt mz_mh)))))
set_option maxRecDepth 20000 in
theorem gX7_fit_X2_allBelow : GoodIn wsX7_fit (wsV RX7 115 RX2 yX2_allBelow wsX2_allBelow) := goodIn_app (goodIn_sub (mz_fc mz_i_wsX7_fit_26 (mz_fc mz_i_wsX7_fit_27 (mz_fc mz_i_wsX7_fit_28 (mz_fc mz_i_wsX7_fit_12 mz_fn)))) (by decide +kernel)) ggX7_fit_X2_allBelow
theorem mz_i_wsX7_fit_49 : (.code yX7_bit cX7_bit 1 (some .int) : Cond) ∈ wsX7_fit := mz_mt (mz_ml (mz_ml (mz_mr (mz_mr mz_mh))))
set_option maxRecDepth 20000 in
theorem ggX7_fit_X7_bit : GoodIn wsX7_fit wsX7_bit := goodIn_sub (mz_fc mz_i_wsX7_fit_49 (mz_fn)) (by decide +kernel)
theorem mz_i_wsX7_fit_48 : (.static yX7_bit : Cond) ∈ wsX7_fit := mz_mt (mz_ml (mz_ml (mz_mr (mz_ml (mz_mt (mz_mt (mz_mt (mz_mt (mz_mt (mz_mt (mz_mt (mz_mt (mz_mt (mz_mt (mz_mt (mz_mt (mz_mt (mz_mt (mz_mt (mz_mt (mz_mt (mz_mt (mz_mt (mz_mt (mz_mt (mz_mt (mz_mt mz_mh)))))))))))))))))))))))))))
theorem mz_i_wsX7_fit_47 : (.methodLink RX7 73 yX7_bit : Cond) ∈ wsX7_fit := mz_mt (mz_ml (mz_ml (mz_mr (mz_ml (mz_mt (mz_mt (mz_mt (mz_mt (mz_mt (mz_mt (mz_mt (mz_mt (mz_mt (mz_mt (mz_mt (mz_mt (mz_mt (mz_mt (mz_mt (mz_mt (mz_mt (mz_mt (mz_mt (mz_mt (mz_mt (mz_mt mz_mh))))))))))))))))))))))))))
set_option maxRecDepth 20000 in
theorem gX7_fit_X7_bit : GoodIn wsX7_fit (va_wsS RX7 73 yX7_bit wsX7_bit) := goodIn_app (goodIn_sub (mz_fc mz_i_wsX7_fit_47 (mz_fc mz_i_wsX7_fit_48 (mz_fc mz_i_wsX7_fit_7 mz_fn))) (by decide +kernel)) ggX7_fit_X7_bit
theorem mz_i_wsX7_fit_53 : (.code yX2_barred cX2_barred 12 (some .boolean) : Cond) ∈ wsX7_fit := mz_mt (mz_ml (mz_ml (mz_mr (mz_mr (mz_mt (mz_mt (mz_mt (mz_mt mz_mh))))))))
theorem mz_i_wsX7_fit_54 : (.fieldLink RX2 9 "MadeItSo$Drawing" "parents" "[I" : Cond) ∈ wsX7_fit := mz_mt (mz_ml (mz_ml (mz_mr (mz_mr (mz_mt (mz_mt (mz_mt (mz_mt (mz_mt mz_mh)))))))))
set_option maxRecDepth 20000 in
theorem ggX7_fit_X2_barred : GoodIn wsX7_fit wsX2_barred := goodIn_sub (mz_fc mz_i_wsX7_fit_53 (mz_fa (mz_fc mz_i_wsX7_fit_54 (mz_fc mz_i_wsX7_fit_34 (mz_fc mz_i_wsX7_fit_40 (mz_fc mz_i_wsX7_fit_41 (mz_fc mz_i_wsX7_fit_42 (mz_fc mz_i_wsX7_fit_12 (mz_fc mz_i_wsX7_fit_43 (mz_fc mz_i_wsX7_fit_44 (mz_fc mz_i_wsX7_fit_45 (mz_fc mz_i_wsX7_fit_46 (mz_fc mz_i_wsX7_fit_24 (mz_fc mz_i_wsX7_fit_7 (mz_fc mz_i_wsX7_fit_25 mz_fn))))))))))))) (mz_f_wsX7_fit_wsX20))) (by decide +kernel)
theorem mz_i_wsX7_fit_52 : (.selects RX2 yX2_barred yX2_barred : Cond) ∈ wsX7_fit := mz_mt (mz_ml (mz_ml (mz_mr (mz_mr (mz_mt (mz_mt (mz_mt mz_mh)))))))
theorem mz_i_wsX7_fit_51 : (.instanceMethod yX2_barred : Cond) ∈ wsX7_fit := mz_mt (mz_ml (mz_ml (mz_mr (mz_mr (mz_mt (mz_mt mz_mh))))))
theorem mz_i_wsX7_fit_50 : (.methodLink RX7 147 yX2_barred : Cond) ∈ wsX7_fit := mz_mt (mz_ml (mz_ml (mz_mr (mz_mr (mz_mt mz_mh)))))
set_option maxRecDepth 20000 in
theorem gX7_fit_X2_barred : GoodIn wsX7_fit (wsV RX7 147 RX2 yX2_barred wsX2_barred) := goodIn_app (goodIn_sub (mz_fc mz_i_wsX7_fit_50 (mz_fc mz_i_wsX7_fit_51 (mz_fc mz_i_wsX7_fit_52 (mz_fc mz_i_wsX7_fit_12 mz_fn)))) (by decide +kernel)) ggX7_fit_X2_barred
theorem mz_i_wsX7_fit_58 : (.code yX2_road cX2_road 3 (some .int) : Cond) ∈ wsX7_fit := mz_mt (mz_ml (mz_ml (mz_mr (mz_mr (mz_mt (mz_mt (mz_mt (mz_mt (mz_mt (mz_mt (mz_mt (mz_mt (mz_mt mz_mh)))))))))))))
theorem mz_i_wsX7_fit_59 : (.methodLink RX2 34 yX2_allBelow : Cond) ∈ wsX7_fit := mz_mt (mz_ml (mz_ml (mz_mr (mz_mr (mz_mt (mz_mt (mz_mt (mz_mt (mz_mt (mz_mt (mz_mt (mz_mt (mz_mt (mz_mt mz_mh))))))))))))))
set_option maxRecDepth 20000 in
theorem ggX7_fit_X2_road : GoodIn wsX7_fit wsX2_road := goodIn_sub (mz_fc mz_i_wsX7_fit_58 (mz_fa (mz_fa (mz_fc mz_i_wsX7_fit_54 (mz_fc mz_i_wsX7_fit_59 (mz_fc mz_i_wsX7_fit_27 (mz_fc mz_i_wsX7_fit_28 (mz_fc mz_i_wsX7_fit_12 (mz_fc mz_i_wsX7_fit_29 (mz_fc mz_i_wsX7_fit_30 (mz_fc mz_i_wsX7_fit_31 (mz_fc mz_i_wsX7_fit_32 (mz_fc mz_i_wsX7_fit_33 (mz_fc mz_i_wsX7_fit_34 (mz_fc mz_i_wsX7_fit_35 (mz_fc mz_i_wsX7_fit_10 (mz_fc mz_i_wsX7_fit_11 (mz_fc mz_i_wsX7_fit_13 (mz_fc mz_i_wsX7_fit_14 (mz_fc mz_i_wsX7_fit_36 (mz_fc mz_i_wsX7_fit_37 (mz_fc mz_i_wsX7_fit_38 (mz_fc mz_i_wsX7_fit_39 (mz_fc mz_i_wsX7_fit_40 (mz_fc mz_i_wsX7_fit_41 (mz_fc mz_i_wsX7_fit_42 (mz_fc mz_i_wsX7_fit_43 mz_fn)))))))))))))))))))))))) (mz_fc mz_i_wsX7_fit_44 (mz_fc mz_i_wsX7_fit_45 (mz_fc mz_i_wsX7_fit_46 (mz_fc mz_i_wsX7_fit_24 (mz_fc mz_i_wsX7_fit_7 (mz_fc mz_i_wsX7_fit_25 (mz_fc mz_i_wsX7_fit_48 (mz_fc mz_i_wsX7_fit_49 mz_fn))))))))) (mz_f_wsX7_fit_wsX20))) (by decide +kernel)
theorem mz_i_wsX7_fit_57 : (.selects RX2 yX2_road yX2_road : Cond) ∈ wsX7_fit := mz_mt (mz_ml (mz_ml (mz_mr (mz_mr (mz_mt (mz_mt (mz_mt (mz_mt (mz_mt (mz_mt (mz_mt (mz_mt mz_mh))))))))))))
theorem mz_i_wsX7_fit_56 : (.instanceMethod yX2_road : Cond) ∈ wsX7_fit := mz_mt (mz_ml (mz_ml (mz_mr (mz_mr (mz_mt (mz_mt (mz_mt (mz_mt (mz_mt (mz_mt (mz_mt mz_mh)))))))))))
theorem mz_i_wsX7_fit_55 : (.methodLink RX7 164 yX2_road : Cond) ∈ wsX7_fit := mz_mt (mz_ml (mz_ml (mz_mr (mz_mr (mz_mt (mz_mt (mz_mt (mz_mt (mz_mt (mz_mt mz_mh))))))))))
set_option maxRecDepth 20000 in
theorem gX7_fit_X2_road : GoodIn wsX7_fit (wsV RX7 164 RX2 yX2_road wsX2_road) := goodIn_app (goodIn_sub (mz_fc mz_i_wsX7_fit_55 (mz_fc mz_i_wsX7_fit_56 (mz_fc mz_i_wsX7_fit_57 (mz_fc mz_i_wsX7_fit_12 mz_fn)))) (by decide +kernel)) ggX7_fit_X2_road
set_option maxRecDepth 20000 in
theorem ggX7_fit_X2_withAllBelow : GoodIn wsX7_fit wsX2_withAllBelow := goodIn_sub (mz_fc mz_i_wsX7_fit_39 (mz_fa (mz_fc mz_i_wsX7_fit_34 (mz_fc mz_i_wsX7_fit_40 (mz_fc mz_i_wsX7_fit_41 (mz_fc mz_i_wsX7_fit_42 (mz_fc mz_i_wsX7_fit_12 (mz_fc mz_i_wsX7_fit_43 (mz_fc mz_i_wsX7_fit_44 (mz_fc mz_i_wsX7_fit_45 (mz_fc mz_i_wsX7_fit_46 (mz_fc mz_i_wsX7_fit_24 (mz_fc mz_i_wsX7_fit_7 (mz_fc mz_i_wsX7_fit_25 mz_fn)))))))))))) (mz_f_wsX7_fit_wsX20))) (by decide +kernel)
theorem mz_i_wsX7_fit_60 : (.methodLink RX7 167 yX2_withAllBelow : Cond) ∈ wsX7_fit := mz_mt (mz_ml (mz_ml (mz_mr (mz_mr (mz_mt (mz_mt (mz_mt (mz_mt (mz_mt (mz_mt (mz_mt (mz_mt (mz_mt (mz_mt (mz_mt mz_mh)))))))))))))))
set_option maxRecDepth 20000 in
theorem gX7_fit_X2_withAllBelow : GoodIn wsX7_fit (wsV RX7 167 RX2 yX2_withAllBelow wsX2_withAllBelow) := goodIn_app (goodIn_sub (mz_fc mz_i_wsX7_fit_60 (mz_fc mz_i_wsX7_fit_37 (mz_fc mz_i_wsX7_fit_38 (mz_fc mz_i_wsX7_fit_12 mz_fn)))) (by decide +kernel)) ggX7_fit_X2_withAllBelow
theorem mz_i_wsX7_fit_64 : (.code yX2_copyWithout cX2_copyWithout 5 none : Cond) ∈ wsX7_fit := mz_mt (mz_ml (mz_ml (mz_mr (mz_mr (mz_mt (mz_mt (mz_mt (mz_mt (mz_mt (mz_mt (mz_mt (mz_mt (mz_mt (mz_mt (mz_mt (mz_mt (mz_mt (mz_mt (mz_mt mz_mh)))))))))))))))))))
set_option maxRecDepth 20000 in
theorem ggX7_fit_X2_copyWithout : GoodIn wsX7_fit wsX2_copyWithout := goodIn_sub (mz_fc mz_i_wsX7_fit_64 (mz_fa (mz_fc mz_i_wsX7_fit_14 (mz_fc mz_i_wsX7_fit_54 (mz_fc mz_i_wsX7_fit_34 (mz_fc mz_i_wsX7_fit_24 (mz_fc mz_i_wsX7_fit_7 (mz_fc mz_i_wsX7_fit_25 (mz_fc mz_i_wsX7_fit_48 (mz_fc mz_i_wsX7_fit_49 mz_fn)))))))) (mz_f_wsX7_fit_wsX20))) (by decide +kernel)
theorem mz_i_wsX7_fit_63 : (.selects RX2 yX2_copyWithout yX2_copyWithout : Cond) ∈ wsX7_fit := mz_mt (mz_ml (mz_ml (mz_mr (mz_mr (mz_mt (mz_mt (mz_mt (mz_mt (mz_mt (mz_mt (mz_mt (mz_mt (mz_mt (mz_mt (mz_mt (mz_mt (mz_mt (mz_mt mz_mh))))))))))))))))))
theorem mz_i_wsX7_fit_62 : (.instanceMethod yX2_copyWithout : Cond) ∈ wsX7_fit := mz_mt (mz_ml (mz_ml (mz_mr (mz_mr (mz_mt (mz_mt (mz_mt (mz_mt (mz_mt (mz_mt (mz_mt (mz_mt (mz_mt (mz_mt (mz_mt (mz_mt (mz_mt mz_mh)))))))))))))))))
theorem mz_i_wsX7_fit_61 : (.methodLink RX7 170 yX2_copyWithout : Cond) ∈ wsX7_fit := mz_mt (mz_ml (mz_ml (mz_mr (mz_mr (mz_mt (mz_mt (mz_mt (mz_mt (mz_mt (mz_mt (mz_mt (mz_mt (mz_mt (mz_mt (mz_mt (mz_mt mz_mh))))))))))))))))
set_option maxRecDepth 20000 in
theorem gX7_fit_X2_copyWithout : GoodIn wsX7_fit (wsV RX7 170 RX2 yX2_copyWithout wsX2_copyWithout) := goodIn_app (goodIn_sub (mz_fc mz_i_wsX7_fit_61 (mz_fc mz_i_wsX7_fit_62 (mz_fc mz_i_wsX7_fit_63 (mz_fc mz_i_wsX7_fit_12 mz_fn)))) (by decide +kernel)) ggX7_fit_X2_copyWithout
theorem dX7_fit_0 : decode cX7_fit 0 = .ok (.aload_n 0, 1) := by decide +kernel
theorem dX7_fit_1 : decode cX7_fit 1 = .ok (.iload_n 1, 1) := by decide +kernel
theorem dX7_fit_2 : decode cX7_fit 2 = .ok (.iload_n 2, 1) := by decide +kernel
theorem dX7_fit_3 : decode cX7_fit 3 = .ok (.invokevirtual 151, 3) := by decide +kernel
theorem dX7_fit_6 : decode cX7_fit 6 = .ok (.ifCond .eq 27, 3) := by decide +kernel
theorem dX7_fit_9 : decode cX7_fit 9 = .ok (.aload_n 0, 1) := by decide +kernel
theorem dX7_fit_10 : decode cX7_fit 10 = .ok (.iload_n 3, 1) := by decide +kernel
theorem dX7_fit_11 : decode cX7_fit 11 = .ok (.invokevirtual 144, 3) := by decide +kernel
theorem dX7_fit_14 : decode cX7_fit 14 = .ok (.ifCond .eq 19, 3) := by decide +kernel
theorem dX7_fit_17 : decode cX7_fit 17 = .ok (.iload_n 3, 1) := by decide +kernel
theorem dX7_fit_18 : decode cX7_fit 18 = .ok (.iload_n 1, 1) := by decide +kernel
theorem dX7_fit_19 : decode cX7_fit 19 = .ok (.invokestatic 106, 3) := by decide +kernel
theorem dX7_fit_22 : decode cX7_fit 22 = .ok (.ifCond .ne 11, 3) := by decide +kernel
theorem dX7_fit_25 : decode cX7_fit 25 = .ok (.iload_n 3, 1) := by decide +kernel
theorem dX7_fit_26 : decode cX7_fit 26 = .ok (.iload_n 2, 1) := by decide +kernel
theorem dX7_fit_27 : decode cX7_fit 27 = .ok (.invokestatic 106, 3) := by decide +kernel
theorem dX7_fit_30 : decode cX7_fit 30 = .ok (.ifCond .eq 5, 3) := by decide +kernel
theorem dX7_fit_33 : decode cX7_fit 33 = .ok (.iconst 0, 1) := by decide +kernel
theorem dX7_fit_34 : decode cX7_fit 34 = .ok (.ireturn, 1) := by decide +kernel
theorem dX7_fit_35 : decode cX7_fit 35 = .ok (.iload_n 3, 1) := by decide +kernel
theorem dX7_fit_36 : decode cX7_fit 36 = .ok (.aload_n 0, 1) := by decide +kernel
theorem dX7_fit_37 : decode cX7_fit 37 = .ok (.getfield 54, 3) := by decide +kernel
theorem dX7_fit_40 : decode cX7_fit 40 = .ok (.iconst (-1), 1) := by decide +kernel
theorem dX7_fit_41 : decode cX7_fit 41 = .ok (.ixor, 1) := by decide +kernel
theorem dX7_fit_42 : decode cX7_fit 42 = .ok (.iand, 1) := by decide +kernel
theorem dX7_fit_43 : decode cX7_fit 43 = .ok (.ifCond .eq 5, 3) := by decide +kernel
theorem dX7_fit_46 : decode cX7_fit 46 = .ok (.iconst 0, 1) := by decide +kernel
theorem dX7_fit_47 : decode cX7_fit 47 = .ok (.ireturn, 1) := by decide +kernel
theorem dX7_fit_48 : decode cX7_fit 48 = .ok (.aload_n 0, 1) := by decide +kernel
theorem dX7_fit_49 : decode cX7_fit 49 = .ok (.getfield 12, 3) := by decide +kernel
theorem dX7_fit_52 : decode cX7_fit 52 = .ok (.iload_n 1, 1) := by decide +kernel
theorem dX7_fit_53 : decode cX7_fit 53 = .ok (.invokevirtual 115, 3) := by decide +kernel
theorem dX7_fit_56 : decode cX7_fit 56 = .ok (.iload_n 2, 1) := by decide +kernel
theorem dX7_fit_57 : decode cX7_fit 57 = .ok (.invokestatic 106, 3) := by decide +kernel
theorem dX7_fit_60 : decode cX7_fit 60 = .ok (.ifCond .ne 20, 3) := by decide +kernel
theorem dX7_fit_63 : decode cX7_fit 63 = .ok (.aload_n 0, 1) := by decide +kernel
theorem dX7_fit_64 : decode cX7_fit 64 = .ok (.getfield 12, 3) := by decide +kernel
theorem dX7_fit_67 : decode cX7_fit 67 = .ok (.iload_n 1, 1) := by decide +kernel
theorem dX7_fit_68 : decode cX7_fit 68 = .ok (.invokestatic 73, 3) := by decide +kernel
theorem dX7_fit_71 : decode cX7_fit 71 = .ok (.iload_n 2, 1) := by decide +kernel
theorem dX7_fit_72 : decode cX7_fit 72 = .ok (.invokestatic 73, 3) := by decide +kernel
theorem dX7_fit_75 : decode cX7_fit 75 = .ok (.iload_n 3, 1) := by decide +kernel
theorem dX7_fit_76 : decode cX7_fit 76 = .ok (.invokevirtual 147, 3) := by decide +kernel
theorem dX7_fit_79 : decode cX7_fit 79 = .ok (.ireturn, 1) := by decide +kernel
theorem dX7_fit_80 : decode cX7_fit 80 = .ok (.aload_n 0, 1) := by decide +kernel
theorem dX7_fit_81 : decode cX7_fit 81 = .ok (.getfield 12, 3) := by decide +kernel
theorem dX7_fit_84 : decode cX7_fit 84 = .ok (.iload_n 1, 1) := by decide +kernel
theorem dX7_fit_85 : decode cX7_fit 85 = .ok (.iload_n 2, 1) := by decide +kernel
theorem dX7_fit_86 : decode cX7_fit 86 = .ok (.invokevirtual 164, 3) := by decide +kernel
theorem dX7_fit_89 : decode cX7_fit 89 = .ok (.istore 4, 2) := by decide +kernel
theorem dX7_fit_91 : decode cX7_fit 91 = .ok (.iload_n 3, 1) := by decide +kernel
theorem dX7_fit_92 : decode cX7_fit 92 = .ok (.aload_n 0, 1) := by decide +kernel
theorem dX7_fit_93 : decode cX7_fit 93 = .ok (.getfield 12, 3) := by decide +kernel
theorem dX7_fit_96 : decode cX7_fit 96 = .ok (.iload 4, 2) := by decide +kernel
theorem dX7_fit_98 : decode cX7_fit 98 = .ok (.invokevirtual 167, 3) := by decide +kernel
theorem dX7_fit_101 : decode cX7_fit 101 = .ok (.iand, 1) := by decide +kernel
theorem dX7_fit_102 : decode cX7_fit 102 = .ok (.ifCond .eq 5, 3) := by decide +kernel
theorem dX7_fit_105 : decode cX7_fit 105 = .ok (.iconst 0, 1) := by decide +kernel
theorem dX7_fit_106 : decode cX7_fit 106 = .ok (.ireturn, 1) := by decide +kernel
theorem dX7_fit_107 : decode cX7_fit 107 = .ok (.aload_n 0, 1) := by decide +kernel
theorem dX7_fit_108 : decode cX7_fit 108 = .ok (.getfield 16, 3) := by decide +kernel
theorem dX7_fit_111 : decode cX7_fit 111 = .ok (.aload_n 0, 1) := by decide +kernel
theorem dX7_fit_112 : decode cX7_fit 112 = .ok (.getfield 12, 3) := by decide +kernel
theorem dX7_fit_115 : decode cX7_fit 115 = .ok (.iload_n 1, 1) := by decide +kernel
theorem dX7_fit_116 : decode cX7_fit 116 = .ok (.iload 4, 2) := by decide +kernel
theorem dX7_fit_118 : decode cX7_fit 118 = .ok (.invokevirtual 170, 3) := by decide +kernel
theorem dX7_fit_121 : decode cX7_fit 121 = .ok (.aload_n 0, 1) := by decide +kernel
theorem dX7_fit_122 : decode cX7_fit 122 = .ok (.getfield 16, 3) := by decide +kernel
theorem dX7_fit_125 : decode cX7_fit 125 = .ok (.iload_n 1, 1) := by decide +kernel
theorem dX7_fit_126 : decode cX7_fit 126 = .ok (.invokestatic 73, 3) := by decide +kernel
theorem dX7_fit_129 : decode cX7_fit 129 = .ok (.iload_n 2, 1) := by decide +kernel
theorem dX7_fit_130 : decode cX7_fit 130 = .ok (.invokestatic 73, 3) := by decide +kernel
theorem dX7_fit_133 : decode cX7_fit 133 = .ok (.iload_n 3, 1) := by decide +kernel
theorem dX7_fit_134 : decode cX7_fit 134 = .ok (.invokevirtual 147, 3) := by decide +kernel
theorem dX7_fit_137 : decode cX7_fit 137 = .ok (.ireturn, 1) := by decide +kernel
theorem mz_i_wsX7_agrees_9 : (.code yX2_has cX2_has 2 (some .boolean) : Cond) ∈ wsX7_agrees := mz_mt (mz_ml (mz_ml (mz_ml (mz_ml (mz_ml (mz_ml (mz_ml (mz_mt (mz_mt (mz_mt (mz_mt (mz_mt (mz_mt (mz_mt (mz_mt mz_mh)))))))))))))))
theorem mz_i_wsX7_agrees_10 : (.fieldLink RX2 18 "MadeItSo$Drawing" "things" "I" : Cond) ∈ wsX7_agrees := mz_mt (mz_ml (mz_ml (mz_ml (mz_ml (mz_ml (mz_ml (mz_ml (mz_mt (mz_mt (mz_mt (mz_mt (mz_mt (mz_mt (mz_mt (mz_mt (mz_mt mz_mh))))))))))))))))
theorem mz_f_wsX7_agrees_wsX20 : ∀ w ∈ wsX20, w ∈ wsX7_agrees := fun _ h => mz_mt (mz_ml (mz_ml (mz_ml (mz_ml (mz_mr h)))))
set_option maxRecDepth 20000 in
theorem ggX7_agrees_X2_has : GoodIn wsX7_agrees wsX2_has := goodIn_sub (mz_fc mz_i_wsX7_agrees_9 (mz_fa (mz_fc mz_i_wsX7_agrees_10 mz_fn) (mz_f_wsX7_agrees_wsX20))) (by decide +kernel)
theorem mz_i_wsX7_agrees_8 : (.initialized RX2 : Cond) ∈ wsX7_agrees := mz_mt (mz_ml (mz_ml (mz_ml (mz_ml (mz_ml (mz_ml (mz_ml (mz_mt (mz_mt (mz_mt (mz_mt (mz_mt (mz_mt (mz_mt mz_mh))))))))))))))
theorem mz_i_wsX7_agrees_7 : (.selects RX2 yX2_has yX2_has : Cond) ∈ wsX7_agrees := mz_mt (mz_ml (mz_ml (mz_ml (mz_ml (mz_ml (mz_ml (mz_ml (mz_mt (mz_mt (mz_mt (mz_mt (mz_mt (mz_mt mz_mh)))))))))))))
theorem mz_i_wsX7_agrees_6 : (.instanceMethod yX2_has : Cond) ∈ wsX7_agrees := mz_mt (mz_ml (mz_ml (mz_ml (mz_ml (mz_ml (mz_ml (mz_ml (mz_mt (mz_mt (mz_mt (mz_mt (mz_mt mz_mh))))))))))))
theorem mz_i_wsX7_agrees_5 : (.methodLink RX7 77 yX2_has : Cond) ∈ wsX7_agrees := mz_mt (mz_ml (mz_ml (mz_ml (mz_ml (mz_ml (mz_ml (mz_ml (mz_mt (mz_mt (mz_mt (mz_mt mz_mh)))))))))))
set_option maxRecDepth 20000 in
theorem gX7_agrees_X2_has : GoodIn wsX7_agrees (wsV RX7 77 RX2 yX2_has wsX2_has) := goodIn_app (goodIn_sub (mz_fc mz_i_wsX7_agrees_5 (mz_fc mz_i_wsX7_agrees_6 (mz_fc mz_i_wsX7_agrees_7 (mz_fc mz_i_wsX7_agrees_8 mz_fn)))) (by decide +kernel)) ggX7_agrees_X2_has
theorem mz_i_wsX7_agrees_15 : (.code yX7_isHeap cX7_isHeap 2 (some .boolean) : Cond) ∈ wsX7_agrees := mz_mt (mz_ml (mz_ml (mz_ml (mz_ml (mz_ml (mz_ml (mz_ml (mz_mt (mz_mt (mz_mt (mz_mt (mz_mt (mz_mt (mz_mt (mz_mt (mz_mt (mz_mt (mz_mt (mz_mt (mz_mt (mz_mt mz_mh)))))))))))))))))))))
theorem mz_i_wsX7_agrees_19 : (.code yX2_everything cX2_everything 1 (some .int) : Cond) ∈ wsX7_agrees := mz_mt (mz_ml (mz_ml (mz_ml (mz_ml (mz_ml (mz_ml (mz_ml (mz_mt (mz_mt (mz_mt (mz_mt (mz_mt (mz_mt (mz_mt (mz_mt (mz_mt (mz_mt (mz_mt (mz_mt (mz_mt (mz_mt (mz_mt (mz_mt (mz_mt (mz_mt mz_mh)))))))))))))))))))))))))
theorem mz_i_wsX7_agrees_18 : (.selects RX2 yX2_everything yX2_everything : Cond) ∈ wsX7_agrees := mz_mt (mz_ml (mz_ml (mz_ml (mz_ml (mz_ml (mz_ml (mz_ml (mz_mt (mz_mt (mz_mt (mz_mt (mz_mt (mz_mt (mz_mt (mz_mt (mz_mt (mz_mt (mz_mt (mz_mt (mz_mt (mz_mt (mz_mt (mz_mt (mz_mt mz_mh))))))))))))))))))))))))
theorem mz_i_wsX7_agrees_17 : (.instanceMethod yX2_everything : Cond) ∈ wsX7_agrees := mz_mt (mz_ml (mz_ml (mz_ml (mz_ml (mz_ml (mz_ml (mz_ml (mz_mt (mz_mt (mz_mt (mz_mt (mz_mt (mz_mt (mz_mt (mz_mt (mz_mt (mz_mt (mz_mt (mz_mt (mz_mt (mz_mt (mz_mt (mz_mt mz_mh)))))))))))))))))))))))
theorem mz_i_wsX7_agrees_16 : (.methodLink RX7 223 yX2_everything : Cond) ∈ wsX7_agrees := mz_mt (mz_ml (mz_ml (mz_ml (mz_ml (mz_ml (mz_ml (mz_ml (mz_mt (mz_mt (mz_mt (mz_mt (mz_mt (mz_mt (mz_mt (mz_mt (mz_mt (mz_mt (mz_mt (mz_mt (mz_mt (mz_mt (mz_mt mz_mh))))))))))))))))))))))
theorem mz_i_wsX7_agrees_1 : (.fieldLink RX7 12 "MadeItSo" "drawing" "LMadeItSo$Drawing;" : Cond) ∈ wsX7_agrees := mz_mt (mz_ml (mz_ml (mz_ml (mz_ml (mz_ml (mz_ml (mz_ml mz_mh)))))))
theorem mz_f_wsX7_agrees_wsX70 : ∀ w ∈ wsX70, w ∈ wsX7_agrees := fun _ h => mz_mt (mz_ml (mz_ml (mz_ml (mz_ml (mz_ml (mz_mr h))))))
set_option maxRecDepth 20000 in
theorem ggX7_agrees_X7_isHeap : GoodIn wsX7_agrees wsX7_isHeap := goodIn_sub (mz_fc mz_i_wsX7_agrees_15 (mz_fa (mz_fa (mz_fc mz_i_wsX7_agrees_1 (mz_fc mz_i_wsX7_agrees_16 (mz_fc mz_i_wsX7_agrees_17 (mz_fc mz_i_wsX7_agrees_18 (mz_fc mz_i_wsX7_agrees_8 (mz_fc mz_i_wsX7_agrees_19 (mz_fc mz_i_wsX7_agrees_10 mz_fn))))))) (mz_f_wsX7_agrees_wsX70)) (mz_f_wsX7_agrees_wsX20))) (by decide +kernel)
theorem mz_i_wsX7_agrees_14 : (.initialized RX7 : Cond) ∈ wsX7_agrees := mz_mt (mz_ml (mz_ml (mz_ml (mz_ml (mz_ml (mz_ml (mz_ml (mz_mt (mz_mt (mz_mt (mz_mt (mz_mt (mz_mt (mz_mt (mz_mt (mz_mt (mz_mt (mz_mt (mz_mt (mz_mt mz_mh))))))))))))))))))))
theorem mz_i_wsX7_agrees_13 : (.selects RX7 yX7_isHeap yX7_isHeap : Cond) ∈ wsX7_agrees := mz_mt (mz_ml (mz_ml (mz_ml (mz_ml (mz_ml (mz_ml (mz_ml (mz_mt (mz_mt (mz_mt (mz_mt (mz_mt (mz_mt (mz_mt (mz_mt (mz_mt (mz_mt (mz_mt (mz_mt mz_mh)))))))))))))))))))
theorem mz_i_wsX7_agrees_12 : (.instanceMethod yX7_isHeap : Cond) ∈ wsX7_agrees := mz_mt (mz_ml (mz_ml (mz_ml (mz_ml (mz_ml (mz_ml (mz_ml (mz_mt (mz_mt (mz_mt (mz_mt (mz_mt (mz_mt (mz_mt (mz_mt (mz_mt (mz_mt (mz_mt mz_mh))))))))))))))))))
theorem mz_i_wsX7_agrees_11 : (.methodLink RX7 144 yX7_isHeap : Cond) ∈ wsX7_agrees := mz_mt (mz_ml (mz_ml (mz_ml (mz_ml (mz_ml (mz_ml (mz_ml (mz_mt (mz_mt (mz_mt (mz_mt (mz_mt (mz_mt (mz_mt (mz_mt (mz_mt (mz_mt mz_mh)))))))))))))))))
set_option maxRecDepth 20000 in
theorem gX7_agrees_X7_isHeap : GoodIn wsX7_agrees (wsV RX7 144 RX7 yX7_isHeap wsX7_isHeap) := goodIn_app (goodIn_sub (mz_fc mz_i_wsX7_agrees_11 (mz_fc mz_i_wsX7_agrees_12 (mz_fc mz_i_wsX7_agrees_13 (mz_fc mz_i_wsX7_agrees_14 mz_fn)))) (by decide +kernel)) ggX7_agrees_X7_isHeap
theorem mz_i_wsX7_agrees_22 : (.code yX7_inHeap cX7_inHeap 2 (some .boolean) : Cond) ∈ wsX7_agrees := mz_mt (mz_ml (mz_ml (mz_ml (mz_ml (mz_ml (mz_ml (mz_ml (mz_mt (mz_mt (mz_mt (mz_mt (mz_mt (mz_mt (mz_mt (mz_mt (mz_mt (mz_mt (mz_mt (mz_mt (mz_mt (mz_mt (mz_mt (mz_mt (mz_mt (mz_mt (mz_mt (mz_mt (mz_mt mz_mh))))))))))))))))))))))))))))
set_option maxRecDepth 20000 in
theorem ggX7_agrees_X7_inHeap : GoodIn wsX7_agrees wsX7_inHeap := goodIn_sub (mz_fc mz_i_wsX7_agrees_22 (mz_fn)) (by decide +kernel)
theorem mz_i_wsX7_agrees_21 : (.static yX7_inHeap : Cond) ∈ wsX7_agrees := mz_mt (mz_ml (mz_ml (mz_ml (mz_ml (mz_ml (mz_ml (mz_ml (mz_mt (mz_mt (mz_mt (mz_mt (mz_mt (mz_mt (mz_mt (mz_mt (mz_mt (mz_mt (mz_mt (mz_mt (mz_mt (mz_mt (mz_mt (mz_mt (mz_mt (mz_mt (mz_mt (mz_mt mz_mh)))))))))))))))))))))))))))
theorem mz_i_wsX7_agrees_20 : (.methodLink RX7 106 yX7_inHeap : Cond) ∈ wsX7_agrees := mz_mt (mz_ml (mz_ml (mz_ml (mz_ml (mz_ml (mz_ml (mz_ml (mz_mt (mz_mt (mz_mt (mz_mt (mz_mt (mz_mt (mz_mt (mz_mt (mz_mt (mz_mt (mz_mt (mz_mt (mz_mt (mz_mt (mz_mt (mz_mt (mz_mt (mz_mt (mz_mt mz_mh))))))))))))))))))))))))))
set_option maxRecDepth 20000 in
theorem gX7_agrees_X7_inHeap : GoodIn wsX7_agrees (va_wsS RX7 106 yX7_inHeap wsX7_inHeap) := goodIn_app (goodIn_sub (mz_fc mz_i_wsX7_agrees_20 (mz_fc mz_i_wsX7_agrees_21 (mz_fc mz_i_wsX7_agrees_14 mz_fn))) (by decide +kernel)) ggX7_agrees_X7_inHeap
theorem mz_i_wsX7_agrees_25 : (.code yX7_isBit cX7_isBit 1 (some .boolean) : Cond) ∈ wsX7_agrees := mz_mt (mz_ml (mz_ml (mz_ml (mz_ml (mz_ml (mz_ml (mz_mr (mz_ml mz_mh))))))))
set_option maxRecDepth 20000 in
theorem ggX7_agrees_X7_isBit : GoodIn wsX7_agrees wsX7_isBit := goodIn_sub (mz_fc mz_i_wsX7_agrees_25 (mz_fn)) (by decide +kernel)
theorem mz_i_wsX7_agrees_24 : (.static yX7_isBit : Cond) ∈ wsX7_agrees := mz_mt (mz_ml (mz_ml (mz_ml (mz_ml (mz_ml (mz_ml (mz_ml (mz_mt (mz_mt (mz_mt (mz_mt (mz_mt (mz_mt (mz_mt (mz_mt (mz_mt (mz_mt (mz_mt (mz_mt (mz_mt (mz_mt (mz_mt (mz_mt (mz_mt (mz_mt (mz_mt (mz_mt (mz_mt (mz_mt (mz_mt mz_mh))))))))))))))))))))))))))))))
theorem mz_i_wsX7_agrees_23 : (.methodLink RX7 174 yX7_isBit : Cond) ∈ wsX7_agrees := mz_mt (mz_ml (mz_ml (mz_ml (mz_ml (mz_ml (mz_ml (mz_ml (mz_mt (mz_mt (mz_mt (mz_mt (mz_mt (mz_mt (mz_mt (mz_mt (mz_mt (mz_mt (mz_mt (mz_mt (mz_mt (mz_mt (mz_mt (mz_mt (mz_mt (mz_mt (mz_mt (mz_mt (mz_mt (mz_mt mz_mh)))))))))))))))))))))))))))))
set_option maxRecDepth 20000 in
theorem gX7_agrees_X7_isBit : GoodIn wsX7_agrees (va_wsS RX7 174 yX7_isBit wsX7_isBit) := goodIn_app (goodIn_sub (mz_fc mz_i_wsX7_agrees_23 (mz_fc mz_i_wsX7_agrees_24 (mz_fc mz_i_wsX7_agrees_14 mz_fn))) (by decide +kernel)) ggX7_agrees_X7_isBit
theorem mz_i_wsX7_agrees_28 : (.code yX7_settingOf cX7_settingOf 2 (some .int) : Cond) ∈ wsX7_agrees := mz_mt (mz_ml (mz_ml (mz_ml (mz_ml (mz_ml (mz_ml (mz_mr (mz_ml (mz_mt (mz_mt (mz_mt mz_mh)))))))))))
theorem mz_i_wsX7_agrees_31 : (.code yX7_bit cX7_bit 1 (some .int) : Cond) ∈ wsX7_agrees := mz_mt (mz_ml (mz_ml (mz_ml (mz_ml (mz_ml (mz_ml (mz_mr (mz_ml (mz_mt (mz_mt (mz_mt (mz_mt (mz_mt (mz_mt mz_mh))))))))))))))
theorem mz_i_wsX7_agrees_30 : (.static yX7_bit : Cond) ∈ wsX7_agrees := mz_mt (mz_ml (mz_ml (mz_ml (mz_ml (mz_ml (mz_ml (mz_mr (mz_ml (mz_mt (mz_mt (mz_mt (mz_mt (mz_mt mz_mh)))))))))))))
theorem mz_i_wsX7_agrees_29 : (.methodLink RX7 73 yX7_bit : Cond) ∈ wsX7_agrees := mz_mt (mz_ml (mz_ml (mz_ml (mz_ml (mz_ml (mz_ml (mz_mr (mz_ml (mz_mt (mz_mt (mz_mt (mz_mt mz_mh))))))))))))
set_option maxRecDepth 20000 in
theorem ggX7_agrees_X7_settingOf : GoodIn wsX7_agrees wsX7_settingOf := goodIn_sub (mz_fc mz_i_wsX7_agrees_28 (mz_fc mz_i_wsX7_agrees_29 (mz_fc mz_i_wsX7_agrees_30 (mz_fc mz_i_wsX7_agrees_14 (mz_fc mz_i_wsX7_agrees_31 mz_fn))))) (by decide +kernel)
theorem mz_i_wsX7_agrees_27 : (.static yX7_settingOf : Cond) ∈ wsX7_agrees := mz_mt (mz_ml (mz_ml (mz_ml (mz_ml (mz_ml (mz_ml (mz_mr (mz_ml (mz_mt (mz_mt mz_mh))))))))))
theorem mz_i_wsX7_agrees_26 : (.methodLink RX7 177 yX7_settingOf : Cond) ∈ wsX7_agrees := mz_mt (mz_ml (mz_ml (mz_ml (mz_ml (mz_ml (mz_ml (mz_mr (mz_ml (mz_mt mz_mh)))))))))
set_option maxRecDepth 20000 in
theorem gX7_agrees_X7_settingOf : GoodIn wsX7_agrees (va_wsS RX7 177 yX7_settingOf wsX7_settingOf) := goodIn_app (goodIn_sub (mz_fc mz_i_wsX7_agrees_26 (mz_fc mz_i_wsX7_agrees_27 (mz_fc mz_i_wsX7_agrees_14 mz_fn))) (by decide +kernel)) ggX7_agrees_X7_settingOf
theorem mz_i_wsX7_agrees_36 : (.code yX6_weigh cX6_weigh 10 none : Cond) ∈ wsX7_agrees := mz_mt (mz_ml (mz_ml (mz_ml (mz_ml (mz_ml (mz_ml (mz_mr (mz_ml (mz_mt (mz_mt (mz_mt (mz_mt (mz_mt (mz_mt (mz_mt (mz_mt (mz_mt (mz_mt (mz_mt mz_mh)))))))))))))))))))
theorem mz_i_wsX7_agrees_52 : (.static yJ6_bitCount_0f7a4 : Cond) ∈ wsX7_agrees := mz_mt (mz_ml (mz_ml (mz_ml (mz_ml (mz_ml (mz_ml (mz_mr (mz_mr (mz_ml (mz_mt (mz_mt (mz_mt mz_mh))))))))))))
theorem mz_i_wsX7_agrees_51 : (.methodLink RX7 239 yJ6_bitCount_0f7a4 : Cond) ∈ wsX7_agrees := mz_mt (mz_ml (mz_ml (mz_ml (mz_ml (mz_ml (mz_ml (mz_mr (mz_mr (mz_ml (mz_mt (mz_mt mz_mh)))))))))))
theorem mz_i_wsX7_agrees_50 : (.code yX7_partsOf cX7_partsOf 1 (some .int) : Cond) ∈ wsX7_agrees := mz_mt (mz_ml (mz_ml (mz_ml (mz_ml (mz_ml (mz_ml (mz_mr (mz_mr (mz_ml (mz_mt mz_mh))))))))))
theorem mz_i_wsX7_agrees_49 : (.static yX7_partsOf : Cond) ∈ wsX7_agrees := mz_mt (mz_ml (mz_ml (mz_ml (mz_ml (mz_ml (mz_ml (mz_mr (mz_mr (mz_ml mz_mh)))))))))
theorem mz_i_wsX7_agrees_48 : (.fieldLink RX2 9 "MadeItSo$Drawing" "parents" "[I" : Cond) ∈ wsX7_agrees := mz_mt (mz_ml (mz_ml (mz_ml (mz_ml (mz_ml (mz_ml (mz_mr (mz_ml (mz_mt (mz_mt (mz_mt (mz_mt (mz_mt (mz_mt (mz_mt (mz_mt (mz_mt (mz_mt (mz_mt (mz_mt (mz_mt (mz_mt (mz_mt (mz_mt (mz_mt (mz_mt (mz_mt (mz_mt (mz_mt (mz_mt (mz_mt mz_mh)))))))))))))))))))))))))))))))
theorem mz_i_wsX7_agrees_47 : (.code yX2_nextAfter cX2_nextAfter 3 (some .int) : Cond) ∈ wsX7_agrees := mz_mt (mz_ml (mz_ml (mz_ml (mz_ml (mz_ml (mz_ml (mz_mr (mz_ml (mz_mt (mz_mt (mz_mt (mz_mt (mz_mt (mz_mt (mz_mt (mz_mt (mz_mt (mz_mt (mz_mt (mz_mt (mz_mt (mz_mt (mz_mt (mz_mt (mz_mt (mz_mt (mz_mt (mz_mt (mz_mt (mz_mt mz_mh))))))))))))))))))))))))))))))
theorem mz_i_wsX7_agrees_46 : (.selects RX2 yX2_nextAfter yX2_nextAfter : Cond) ∈ wsX7_agrees := mz_mt (mz_ml (mz_ml (mz_ml (mz_ml (mz_ml (mz_ml (mz_mr (mz_ml (mz_mt (mz_mt (mz_mt (mz_mt (mz_mt (mz_mt (mz_mt (mz_mt (mz_mt (mz_mt (mz_mt (mz_mt (mz_mt (mz_mt (mz_mt (mz_mt (mz_mt (mz_mt (mz_mt (mz_mt (mz_mt mz_mh)))))))))))))))))))))))))))))
theorem mz_i_wsX7_agrees_45 : (.instanceMethod yX2_nextAfter : Cond) ∈ wsX7_agrees := mz_mt (mz_ml (mz_ml (mz_ml (mz_ml (mz_ml (mz_ml (mz_mr (mz_ml (mz_mt (mz_mt (mz_mt (mz_mt (mz_mt (mz_mt (mz_mt (mz_mt (mz_mt (mz_mt (mz_mt (mz_mt (mz_mt (mz_mt (mz_mt (mz_mt (mz_mt (mz_mt (mz_mt (mz_mt mz_mh))))))))))))))))))))))))))))
theorem mz_i_wsX7_agrees_44 : (.methodLink RX6 27 yX2_nextAfter : Cond) ∈ wsX7_agrees := mz_mt (mz_ml (mz_ml (mz_ml (mz_ml (mz_ml (mz_ml (mz_mr (mz_ml (mz_mt (mz_mt (mz_mt (mz_mt (mz_mt (mz_mt (mz_mt (mz_mt (mz_mt (mz_mt (mz_mt (mz_mt (mz_mt (mz_mt (mz_mt (mz_mt (mz_mt (mz_mt (mz_mt mz_mh)))))))))))))))))))))))))))
theorem mz_i_wsX7_agrees_43 : (.code yX2_size cX2_size 1 (some .int) : Cond) ∈ wsX7_agrees := mz_mt (mz_ml (mz_ml (mz_ml (mz_ml (mz_ml (mz_ml (mz_mr (mz_ml (mz_mt (mz_mt (mz_mt (mz_mt (mz_mt (mz_mt (mz_mt (mz_mt (mz_mt (mz_mt (mz_mt (mz_mt (mz_mt (mz_mt (mz_mt (mz_mt (mz_mt (mz_mt mz_mh))))))))))))))))))))))))))
theorem mz_i_wsX7_agrees_42 : (.selects RX2 yX2_size yX2_size : Cond) ∈ wsX7_agrees := mz_mt (mz_ml (mz_ml (mz_ml (mz_ml (mz_ml (mz_ml (mz_mr (mz_ml (mz_mt (mz_mt (mz_mt (mz_mt (mz_mt (mz_mt (mz_mt (mz_mt (mz_mt (mz_mt (mz_mt (mz_mt (mz_mt (mz_mt (mz_mt (mz_mt (mz_mt mz_mh)))))))))))))))))))))))))
theorem mz_i_wsX7_agrees_41 : (.instanceMethod yX2_size : Cond) ∈ wsX7_agrees := mz_mt (mz_ml (mz_ml (mz_ml (mz_ml (mz_ml (mz_ml (mz_mr (mz_ml (mz_mt (mz_mt (mz_mt (mz_mt (mz_mt (mz_mt (mz_mt (mz_mt (mz_mt (mz_mt (mz_mt (mz_mt (mz_mt (mz_mt (mz_mt (mz_mt mz_mh))))))))))))))))))))))))
theorem mz_i_wsX7_agrees_40 : (.methodLink RX6 24 yX2_size : Cond) ∈ wsX7_agrees := mz_mt (mz_ml (mz_ml (mz_ml (mz_ml (mz_ml (mz_ml (mz_mr (mz_ml (mz_mt (mz_mt (mz_mt (mz_mt (mz_mt (mz_mt (mz_mt (mz_mt (mz_mt (mz_mt (mz_mt (mz_mt (mz_mt (mz_mt (mz_mt mz_mh)))))))))))))))))))))))
theorem mz_i_wsX7_agrees_39 : (.methodLink RX6 19 yX2_everything : Cond) ∈ wsX7_agrees := mz_mt (mz_ml (mz_ml (mz_ml (mz_ml (mz_ml (mz_ml (mz_mr (mz_ml (mz_mt (mz_mt (mz_mt (mz_mt (mz_mt (mz_mt (mz_mt (mz_mt (mz_mt (mz_mt (mz_mt (mz_mt (mz_mt (mz_mt mz_mh))))))))))))))))))))))
theorem mz_i_wsX7_agrees_38 : (.fieldLink RX6 9 "MadeItSo$Weights" "ofCase" "[J" : Cond) ∈ wsX7_agrees := mz_mt (mz_ml (mz_ml (mz_ml (mz_ml (mz_ml (mz_ml (mz_mr (mz_ml (mz_mt (mz_mt (mz_mt (mz_mt (mz_mt (mz_mt (mz_mt (mz_mt (mz_mt (mz_mt (mz_mt (mz_mt (mz_mt mz_mh)))))))))))))))))))))
theorem mz_i_wsX7_agrees_37 : (.fieldLink RX6 15 "MadeItSo$Weights" "everything" "I" : Cond) ∈ wsX7_agrees := mz_mt (mz_ml (mz_ml (mz_ml (mz_ml (mz_ml (mz_ml (mz_mr (mz_ml (mz_mt (mz_mt (mz_mt (mz_mt (mz_mt (mz_mt (mz_mt (mz_mt (mz_mt (mz_mt (mz_mt (mz_mt mz_mh))))))))))))))))))))
theorem mz_i_wsX7_agrees_71 : (.methodLink RX2 22 yX2_has : Cond) ∈ wsX7_agrees := mz_mt (mz_ml (mz_ml (mz_ml (mz_ml (mz_ml (mz_ml (mz_mr (mz_mr (mz_ml (mz_mt (mz_mt (mz_mt (mz_mt (mz_mt (mz_mt (mz_mt (mz_mt (mz_mt (mz_mt (mz_mt (mz_mt (mz_mt (mz_mt (mz_mt (mz_mt (mz_mt (mz_mt (mz_mt (mz_mt (mz_mt (mz_mt mz_mh)))))))))))))))))))))))))))))))
theorem mz_i_wsX7_agrees_70 : (.code yX2_parentsOf cX2_parentsOf 2 (some .int) : Cond) ∈ wsX7_agrees := mz_mt (mz_ml (mz_ml (mz_ml (mz_ml (mz_ml (mz_ml (mz_mr (mz_mr (mz_ml (mz_mt (mz_mt (mz_mt (mz_mt (mz_mt (mz_mt (mz_mt (mz_mt (mz_mt (mz_mt (mz_mt (mz_mt (mz_mt (mz_mt (mz_mt (mz_mt (mz_mt (mz_mt (mz_mt (mz_mt (mz_mt mz_mh))))))))))))))))))))))))))))))
theorem mz_i_wsX7_agrees_69 : (.selects RX2 yX2_parentsOf yX2_parentsOf : Cond) ∈ wsX7_agrees := mz_mt (mz_ml (mz_ml (mz_ml (mz_ml (mz_ml (mz_ml (mz_mr (mz_mr (mz_ml (mz_mt (mz_mt (mz_mt (mz_mt (mz_mt (mz_mt (mz_mt (mz_mt (mz_mt (mz_mt (mz_mt (mz_mt (mz_mt (mz_mt (mz_mt (mz_mt (mz_mt (mz_mt (mz_mt (mz_mt mz_mh)))))))))))))))))))))))))))))
theorem mz_i_wsX7_agrees_68 : (.instanceMethod yX2_parentsOf : Cond) ∈ wsX7_agrees := mz_mt (mz_ml (mz_ml (mz_ml (mz_ml (mz_ml (mz_ml (mz_mr (mz_mr (mz_ml (mz_mt (mz_mt (mz_mt (mz_mt (mz_mt (mz_mt (mz_mt (mz_mt (mz_mt (mz_mt (mz_mt (mz_mt (mz_mt (mz_mt (mz_mt (mz_mt (mz_mt (mz_mt (mz_mt mz_mh))))))))))))))))))))))))))))
theorem mz_i_wsX7_agrees_67 : (.methodLink RX1 29 yX2_parentsOf : Cond) ∈ wsX7_agrees := mz_mt (mz_ml (mz_ml (mz_ml (mz_ml (mz_ml (mz_ml (mz_mr (mz_mr (mz_ml (mz_mt (mz_mt (mz_mt (mz_mt (mz_mt (mz_mt (mz_mt (mz_mt (mz_mt (mz_mt (mz_mt (mz_mt (mz_mt (mz_mt (mz_mt (mz_mt (mz_mt (mz_mt mz_mh)))))))))))))))))))))))))))
theorem mz_i_wsX7_agrees_66 : (.code yX7_onesOf cX7_onesOf 1 (some .int) : Cond) ∈ wsX7_agrees := mz_mt (mz_ml (mz_ml (mz_ml (mz_ml (mz_ml (mz_ml (mz_mr (mz_mr (mz_ml (mz_mt (mz_mt (mz_mt (mz_mt (mz_mt (mz_mt (mz_mt (mz_mt (mz_mt (mz_mt (mz_mt (mz_mt (mz_mt (mz_mt (mz_mt (mz_mt (mz_mt mz_mh))))))))))))))))))))))))))
theorem mz_i_wsX7_agrees_65 : (.static yX7_onesOf : Cond) ∈ wsX7_agrees := mz_mt (mz_ml (mz_ml (mz_ml (mz_ml (mz_ml (mz_ml (mz_mr (mz_mr (mz_ml (mz_mt (mz_mt (mz_mt (mz_mt (mz_mt (mz_mt (mz_mt (mz_mt (mz_mt (mz_mt (mz_mt (mz_mt (mz_mt (mz_mt (mz_mt (mz_mt mz_mh)))))))))))))))))))))))))
theorem mz_i_wsX7_agrees_64 : (.code yX7_heapOf cX7_heapOf 1 (some .int) : Cond) ∈ wsX7_agrees := mz_mt (mz_ml (mz_ml (mz_ml (mz_ml (mz_ml (mz_ml (mz_mr (mz_mr (mz_ml (mz_mt (mz_mt (mz_mt (mz_mt (mz_mt (mz_mt (mz_mt (mz_mt (mz_mt (mz_mt (mz_mt (mz_mt (mz_mt (mz_mt (mz_mt mz_mh))))))))))))))))))))))))
theorem mz_i_wsX7_agrees_63 : (.static yX7_heapOf : Cond) ∈ wsX7_agrees := mz_mt (mz_ml (mz_ml (mz_ml (mz_ml (mz_ml (mz_ml (mz_mr (mz_mr (mz_ml (mz_mt (mz_mt (mz_mt (mz_mt (mz_mt (mz_mt (mz_mt (mz_mt (mz_mt (mz_mt (mz_mt (mz_mt (mz_mt (mz_mt mz_mh)))))))))))))))))))))))
theorem mz_i_wsX7_agrees_62 : (.code yX1_partsUnder cX1_partsUnder 5 (some .int) : Cond) ∈ wsX7_agrees := mz_mt (mz_ml (mz_ml (mz_ml (mz_ml (mz_ml (mz_ml (mz_mr (mz_mr (mz_ml (mz_mt (mz_mt (mz_mt (mz_mt (mz_mt (mz_mt (mz_mt (mz_mt (mz_mt (mz_mt (mz_mt (mz_mt (mz_mt mz_mh))))))))))))))))))))))
theorem mz_i_wsX7_agrees_61 : (.initialized RX1 : Cond) ∈ wsX7_agrees := mz_mt (mz_ml (mz_ml (mz_ml (mz_ml (mz_ml (mz_ml (mz_mr (mz_mr (mz_ml (mz_mt (mz_mt (mz_mt (mz_mt (mz_mt (mz_mt (mz_mt (mz_mt (mz_mt (mz_mt (mz_mt (mz_mt mz_mh)))))))))))))))))))))
theorem mz_i_wsX7_agrees_60 : (.selects RX1 yX1_partsUnder yX1_partsUnder : Cond) ∈ wsX7_agrees := mz_mt (mz_ml (mz_ml (mz_ml (mz_ml (mz_ml (mz_ml (mz_mr (mz_mr (mz_ml (mz_mt (mz_mt (mz_mt (mz_mt (mz_mt (mz_mt (mz_mt (mz_mt (mz_mt (mz_mt (mz_mt mz_mh))))))))))))))))))))
theorem mz_i_wsX7_agrees_59 : (.instanceMethod yX1_partsUnder : Cond) ∈ wsX7_agrees := mz_mt (mz_ml (mz_ml (mz_ml (mz_ml (mz_ml (mz_ml (mz_mr (mz_mr (mz_ml (mz_mt (mz_mt (mz_mt (mz_mt (mz_mt (mz_mt (mz_mt (mz_mt (mz_mt (mz_mt mz_mh)))))))))))))))))))
theorem mz_i_wsX7_agrees_58 : (.methodLink RX6 37 yX1_partsUnder : Cond) ∈ wsX7_agrees := mz_mt (mz_ml (mz_ml (mz_ml (mz_ml (mz_ml (mz_ml (mz_mr (mz_mr (mz_ml (mz_mt (mz_mt (mz_mt (mz_mt (mz_mt (mz_mt (mz_mt (mz_mt (mz_mt mz_mh))))))))))))))))))
theorem mz_i_wsX7_agrees_57 : (.constant RJ6 267 (252645135) : Cond) ∈ wsX7_agrees := mz_mt (mz_ml (mz_ml (mz_ml (mz_ml (mz_ml (mz_ml (mz_mr (mz_mr (mz_ml (mz_mt (mz_mt (mz_mt (mz_mt (mz_mt (mz_mt (mz_mt (mz_mt mz_mh)))))))))))))))))
theorem mz_i_wsX7_agrees_56 : (.constant RJ6 266 (858993459) : Cond) ∈ wsX7_agrees := mz_mt (mz_ml (mz_ml (mz_ml (mz_ml (mz_ml (mz_ml (mz_mr (mz_mr (mz_ml (mz_mt (mz_mt (mz_mt (mz_mt (mz_mt (mz_mt (mz_mt mz_mh))))))))))))))))
theorem mz_i_wsX7_agrees_55 : (.constant RJ6 265 (1431655765) : Cond) ∈ wsX7_agrees := mz_mt (mz_ml (mz_ml (mz_ml (mz_ml (mz_ml (mz_ml (mz_mr (mz_mr (mz_ml (mz_mt (mz_mt (mz_mt (mz_mt (mz_mt (mz_mt mz_mh)))))))))))))))
theorem mz_i_wsX7_agrees_54 : (.code yJ6_bitCount_0f7a4 cJ6_bitCount_0f7a4 1 (some .int) : Cond) ∈ wsX7_agrees := mz_mt (mz_ml (mz_ml (mz_ml (mz_ml (mz_ml (mz_ml (mz_mr (mz_mr (mz_ml (mz_mt (mz_mt (mz_mt (mz_mt (mz_mt mz_mh))))))))))))))
theorem mz_i_wsX7_agrees_53 : (.initialized RJ6 : Cond) ∈ wsX7_agrees := mz_mt (mz_ml (mz_ml (mz_ml (mz_ml (mz_ml (mz_ml (mz_mr (mz_mr (mz_ml (mz_mt (mz_mt (mz_mt (mz_mt mz_mh)))))))))))))
theorem mz_i_wsX7_agrees_88 : (.code yX7_nextPart cX7_nextPart 2 (some .int) : Cond) ∈ wsX7_agrees := mz_mt (mz_ml (mz_ml (mz_ml (mz_ml (mz_ml (mz_ml (mz_mr (mz_mr (mz_mr (mz_ml (mz_mt (mz_mt (mz_mt (mz_mt (mz_mt (mz_mt (mz_mt (mz_mt (mz_mt (mz_mt (mz_mt (mz_mt (mz_mt (mz_mt (mz_mt mz_mh)))))))))))))))))))))))))
theorem mz_i_wsX7_agrees_87 : (.static yX7_nextPart : Cond) ∈ wsX7_agrees := mz_mt (mz_ml (mz_ml (mz_ml (mz_ml (mz_ml (mz_ml (mz_mr (mz_mr (mz_mr (mz_ml (mz_mt (mz_mt (mz_mt (mz_mt (mz_mt (mz_mt (mz_mt (mz_mt (mz_mt (mz_mt (mz_mt (mz_mt (mz_mt (mz_mt mz_mh))))))))))))))))))))))))
theorem mz_i_wsX7_agrees_86 : (.code yX6_split cX6_split 6 none : Cond) ∈ wsX7_agrees := mz_mt (mz_ml (mz_ml (mz_ml (mz_ml (mz_ml (mz_ml (mz_mr (mz_mr (mz_mr (mz_ml (mz_mt (mz_mt (mz_mt (mz_mt (mz_mt (mz_mt (mz_mt (mz_mt (mz_mt (mz_mt (mz_mt (mz_mt (mz_mt mz_mh)))))))))))))))))))))))
theorem mz_i_wsX7_agrees_35 : (.initialized RX6 : Cond) ∈ wsX7_agrees := mz_mt (mz_ml (mz_ml (mz_ml (mz_ml (mz_ml (mz_ml (mz_mr (mz_ml (mz_mt (mz_mt (mz_mt (mz_mt (mz_mt (mz_mt (mz_mt (mz_mt (mz_mt (mz_mt mz_mh))))))))))))))))))
theorem mz_i_wsX7_agrees_85 : (.selects RX6 yX6_split yX6_split : Cond) ∈ wsX7_agrees := mz_mt (mz_ml (mz_ml (mz_ml (mz_ml (mz_ml (mz_ml (mz_mr (mz_mr (mz_mr (mz_ml (mz_mt (mz_mt (mz_mt (mz_mt (mz_mt (mz_mt (mz_mt (mz_mt (mz_mt (mz_mt (mz_mt (mz_mt mz_mh))))))))))))))))))))))
theorem mz_i_wsX7_agrees_84 : (.instanceMethod yX6_split : Cond) ∈ wsX7_agrees := mz_mt (mz_ml (mz_ml (mz_ml (mz_ml (mz_ml (mz_ml (mz_mr (mz_mr (mz_mr (mz_ml (mz_mt (mz_mt (mz_mt (mz_mt (mz_mt (mz_mt (mz_mt (mz_mt (mz_mt (mz_mt (mz_mt mz_mh)))))))))))))))))))))
theorem mz_i_wsX7_agrees_83 : (.methodLink RX6 43 yX6_split : Cond) ∈ wsX7_agrees := mz_mt (mz_ml (mz_ml (mz_ml (mz_ml (mz_ml (mz_ml (mz_mr (mz_mr (mz_mr (mz_ml (mz_mt (mz_mt (mz_mt (mz_mt (mz_mt (mz_mt (mz_mt (mz_mt (mz_mt (mz_mt mz_mh))))))))))))))))))))
theorem mz_i_wsX7_agrees_82 : (.code yX1_isPlace cX1_isPlace 2 (some .boolean) : Cond) ∈ wsX7_agrees := mz_mt (mz_ml (mz_ml (mz_ml (mz_ml (mz_ml (mz_ml (mz_mr (mz_mr (mz_mr (mz_ml (mz_mt (mz_mt (mz_mt (mz_mt (mz_mt (mz_mt (mz_mt (mz_mt (mz_mt mz_mh)))))))))))))))))))
theorem mz_i_wsX7_agrees_81 : (.static yX1_isPlace : Cond) ∈ wsX7_agrees := mz_mt (mz_ml (mz_ml (mz_ml (mz_ml (mz_ml (mz_ml (mz_mr (mz_mr (mz_mr (mz_ml (mz_mt (mz_mt (mz_mt (mz_mt (mz_mt (mz_mt (mz_mt (mz_mt mz_mh))))))))))))))))))
theorem mz_i_wsX7_agrees_80 : (.methodLink RX1 15 yX1_isPlace : Cond) ∈ wsX7_agrees := mz_mt (mz_ml (mz_ml (mz_ml (mz_ml (mz_ml (mz_ml (mz_mr (mz_mr (mz_mr (mz_ml (mz_mt (mz_mt (mz_mt (mz_mt (mz_mt (mz_mt (mz_mt mz_mh)))))))))))))))))
theorem mz_i_wsX7_agrees_79 : (.fieldLink RX1 9 "MadeItSo$Books" "parts" "[I" : Cond) ∈ wsX7_agrees := mz_mt (mz_ml (mz_ml (mz_ml (mz_ml (mz_ml (mz_ml (mz_mr (mz_mr (mz_mr (mz_ml (mz_mt (mz_mt (mz_mt (mz_mt (mz_mt (mz_mt mz_mh))))))))))))))))
theorem mz_i_wsX7_agrees_78 : (.code yX1_read cX1_read 3 (some .int) : Cond) ∈ wsX7_agrees := mz_mt (mz_ml (mz_ml (mz_ml (mz_ml (mz_ml (mz_ml (mz_mr (mz_mr (mz_mr (mz_ml (mz_mt (mz_mt (mz_mt (mz_mt (mz_mt mz_mh)))))))))))))))
theorem mz_i_wsX7_agrees_77 : (.selects RX1 yX1_read yX1_read : Cond) ∈ wsX7_agrees := mz_mt (mz_ml (mz_ml (mz_ml (mz_ml (mz_ml (mz_ml (mz_mr (mz_mr (mz_mr (mz_ml (mz_mt (mz_mt (mz_mt (mz_mt mz_mh))))))))))))))
theorem mz_i_wsX7_agrees_76 : (.instanceMethod yX1_read : Cond) ∈ wsX7_agrees := mz_mt (mz_ml (mz_ml (mz_ml (mz_ml (mz_ml (mz_ml (mz_mr (mz_mr (mz_mr (mz_ml (mz_mt (mz_mt (mz_mt mz_mh)))))))))))))
theorem mz_i_wsX7_agrees_75 : (.methodLink RX1 38 yX1_read : Cond) ∈ wsX7_agrees := mz_mt (mz_ml (mz_ml (mz_ml (mz_ml (mz_ml (mz_ml (mz_mr (mz_mr (mz_mr (mz_ml (mz_mt (mz_mt mz_mh))))))))))))
theorem mz_i_wsX7_agrees_74 : (.code yX1_rowOf cX1_rowOf 5 (some .int) : Cond) ∈ wsX7_agrees := mz_mt (mz_ml (mz_ml (mz_ml (mz_ml (mz_ml (mz_ml (mz_mr (mz_mr (mz_mr (mz_ml (mz_mt mz_mh)))))))))))
theorem mz_i_wsX7_agrees_73 : (.static yX1_rowOf : Cond) ∈ wsX7_agrees := mz_mt (mz_ml (mz_ml (mz_ml (mz_ml (mz_ml (mz_ml (mz_mr (mz_mr (mz_mr (mz_ml mz_mh))))))))))
theorem mz_i_wsX7_agrees_72 : (.methodLink RX1 34 yX1_rowOf : Cond) ∈ wsX7_agrees := mz_mt (mz_ml (mz_ml (mz_ml (mz_ml (mz_ml (mz_ml (mz_mr (mz_mr (mz_ml (mz_mt (mz_mt (mz_mt (mz_mt (mz_mt (mz_mt (mz_mt (mz_mt (mz_mt (mz_mt (mz_mt (mz_mt (mz_mt (mz_mt (mz_mt (mz_mt (mz_mt (mz_mt (mz_mt (mz_mt (mz_mt (mz_mt (mz_mt mz_mh))))))))))))))))))))))))))))))))
theorem mz_f_wsX7_agrees_wsX60 : ∀ w ∈ wsX60, w ∈ wsX7_agrees := fun _ h => mz_mt (mz_ml (mz_ml (mz_ml (mz_mr h))))
theorem mz_f_wsX7_agrees_wsX10 : ∀ w ∈ wsX10, w ∈ wsX7_agrees := fun _ h => mz_mt (mz_ml (mz_ml (mz_mr h)))
set_option maxRecDepth 20000 in
theorem ggX7_agrees_X6_weigh : GoodIn wsX7_agrees wsX6_weigh := goodIn_sub (mz_fc mz_i_wsX7_agrees_36 (mz_fa (mz_fa (mz_fa (mz_fa (mz_fc mz_i_wsX7_agrees_37 (mz_fc mz_i_wsX7_agrees_38 (mz_fc mz_i_wsX7_agrees_39 (mz_fc mz_i_wsX7_agrees_17 (mz_fc mz_i_wsX7_agrees_18 (mz_fc mz_i_wsX7_agrees_8 (mz_fc mz_i_wsX7_agrees_19 (mz_fc mz_i_wsX7_agrees_10 (mz_fc mz_i_wsX7_agrees_40 (mz_fc mz_i_wsX7_agrees_41 (mz_fc mz_i_wsX7_agrees_42 (mz_fc mz_i_wsX7_agrees_43 (mz_fc mz_i_wsX7_agrees_44 (mz_fc mz_i_wsX7_agrees_45 (mz_fc mz_i_wsX7_agrees_46 (mz_fc mz_i_wsX7_agrees_47 (mz_fc mz_i_wsX7_agrees_48 (mz_fc mz_i_wsX7_agrees_21 (mz_fc mz_i_wsX7_agrees_14 (mz_fc mz_i_wsX7_agrees_22 (mz_fc mz_i_wsX7_agrees_49 (mz_fc mz_i_wsX7_agrees_50 (mz_fc mz_i_wsX7_agrees_51 (mz_fc mz_i_wsX7_agrees_52 mz_fn)))))))))))))))))))))))) (mz_fa (mz_fc mz_i_wsX7_agrees_53 (mz_fc mz_i_wsX7_agrees_54 (mz_fc mz_i_wsX7_agrees_55 (mz_fc mz_i_wsX7_agrees_56 (mz_fc mz_i_wsX7_agrees_57 (mz_fc mz_i_wsX7_agrees_30 (mz_fc mz_i_wsX7_agrees_31 (mz_fc mz_i_wsX7_agrees_58 (mz_fc mz_i_wsX7_agrees_59 (mz_fc mz_i_wsX7_agrees_60 (mz_fc mz_i_wsX7_agrees_61 (mz_fc mz_i_wsX7_agrees_62 (mz_fc mz_i_wsX7_agrees_63 (mz_fc mz_i_wsX7_agrees_64 (mz_fc mz_i_wsX7_agrees_65 (mz_fc mz_i_wsX7_agrees_66 (mz_fc mz_i_wsX7_agrees_67 (mz_fc mz_i_wsX7_agrees_68 (mz_fc mz_i_wsX7_agrees_69 (mz_fc mz_i_wsX7_agrees_70 (mz_fc mz_i_wsX7_agrees_71 (mz_fc mz_i_wsX7_agrees_6 (mz_fc mz_i_wsX7_agrees_7 (mz_fc mz_i_wsX7_agrees_9 mz_fn)))))))))))))))))))))))) (mz_fc mz_i_wsX7_agrees_72 (mz_fc mz_i_wsX7_agrees_73 (mz_fc mz_i_wsX7_agrees_74 (mz_fc mz_i_wsX7_agrees_75 (mz_fc mz_i_wsX7_agrees_76 (mz_fc mz_i_wsX7_agrees_77 (mz_fc mz_i_wsX7_agrees_78 (mz_fc mz_i_wsX7_agrees_79 (mz_fc mz_i_wsX7_agrees_80 (mz_fc mz_i_wsX7_agrees_81 (mz_fc mz_i_wsX7_agrees_82 (mz_fc mz_i_wsX7_agrees_83 (mz_fc mz_i_wsX7_agrees_84 (mz_fc mz_i_wsX7_agrees_85 (mz_fc mz_i_wsX7_agrees_35 (mz_fc mz_i_wsX7_agrees_86 (mz_fc mz_i_wsX7_agrees_87 (mz_fc mz_i_wsX7_agrees_88 mz_fn)))))))))))))))))))) (mz_f_wsX7_agrees_wsX60)) (mz_f_wsX7_agrees_wsX20)) (mz_f_wsX7_agrees_wsX10))) (by decide +kernel)
theorem mz_i_wsX7_agrees_34 : (.selects RX6 yX6_weigh yX6_weigh : Cond) ∈ wsX7_agrees := mz_mt (mz_ml (mz_ml (mz_ml (mz_ml (mz_ml (mz_ml (mz_mr (mz_ml (mz_mt (mz_mt (mz_mt (mz_mt (mz_mt (mz_mt (mz_mt (mz_mt (mz_mt mz_mh)))))))))))))))))
theorem mz_i_wsX7_agrees_33 : (.instanceMethod yX6_weigh : Cond) ∈ wsX7_agrees := mz_mt (mz_ml (mz_ml (mz_ml (mz_ml (mz_ml (mz_ml (mz_mr (mz_ml (mz_mt (mz_mt (mz_mt (mz_mt (mz_mt (mz_mt (mz_mt (mz_mt mz_mh))))))))))))))))
theorem mz_i_wsX7_agrees_32 : (.methodLink RX7 123 yX6_weigh : Cond) ∈ wsX7_agrees := mz_mt (mz_ml (mz_ml (mz_ml (mz_ml (mz_ml (mz_ml (mz_mr (mz_ml (mz_mt (mz_mt (mz_mt (mz_mt (mz_mt (mz_mt (mz_mt mz_mh)))))))))))))))
set_option maxRecDepth 20000 in
theorem gX7_agrees_X6_weigh : GoodIn wsX7_agrees (wsV RX7 123 RX6 yX6_weigh wsX6_weigh) := goodIn_app (goodIn_sub (mz_fc mz_i_wsX7_agrees_32 (mz_fc mz_i_wsX7_agrees_33 (mz_fc mz_i_wsX7_agrees_34 (mz_fc mz_i_wsX7_agrees_35 mz_fn)))) (by decide +kernel)) ggX7_agrees_X6_weigh
set_option maxRecDepth 20000 in
theorem ggX7_agrees_X7_bit : GoodIn wsX7_agrees wsX7_bit := goodIn_sub (mz_fc mz_i_wsX7_agrees_31 (mz_fn)) (by decide +kernel)
set_option maxRecDepth 20000 in
theorem gX7_agrees_X7_bit : GoodIn wsX7_agrees (va_wsS RX7 73 yX7_bit wsX7_bit) := goodIn_app (goodIn_sub (mz_fc mz_i_wsX7_agrees_29 (mz_fc mz_i_wsX7_agrees_30 (mz_fc mz_i_wsX7_agrees_14 mz_fn))) (by decide +kernel)) ggX7_agrees_X7_bit
set_option maxRecDepth 20000 in
theorem ggX7_agrees_X7_onesOf : GoodIn wsX7_agrees wsX7_onesOf := goodIn_sub (mz_fc mz_i_wsX7_agrees_66 (mz_fn)) (by decide +kernel)
theorem mz_i_wsX7_agrees_89 : (.methodLink RX7 130 yX7_onesOf : Cond) ∈ wsX7_agrees := mz_mt (mz_ml (mz_ml (mz_ml (mz_ml (mz_ml (mz_ml (mz_mr (mz_mr (mz_mr (mz_ml (mz_mt (mz_mt (mz_mt (mz_mt (mz_mt (mz_mt (mz_mt (mz_mt (mz_mt (mz_mt (mz_mt (mz_mt (mz_mt (mz_mt (mz_mt (mz_mt mz_mh))))))))))))))))))))))))))
set_option maxRecDepth 20000 in
theorem gX7_agrees_X7_onesOf : GoodIn wsX7_agrees (va_wsS RX7 130 yX7_onesOf wsX7_onesOf) := goodIn_app (goodIn_sub (mz_fc mz_i_wsX7_agrees_89 (mz_fc mz_i_wsX7_agrees_65 (mz_fc mz_i_wsX7_agrees_14 mz_fn))) (by decide +kernel)) ggX7_agrees_X7_onesOf
theorem mz_i_wsX7_agrees_93 : (.code yX6_having cX6_having 9 (some .long) : Cond) ∈ wsX7_agrees := mz_mt (mz_ml (mz_ml (mz_ml (mz_ml (mz_ml (mz_ml (mz_mr (mz_mr (mz_mr (mz_ml (mz_mt (mz_mt (mz_mt (mz_mt (mz_mt (mz_mt (mz_mt (mz_mt (mz_mt (mz_mt (mz_mt (mz_mt (mz_mt (mz_mt (mz_mt (mz_mt (mz_mt (mz_mt (mz_mt (mz_mt mz_mh))))))))))))))))))))))))))))))
set_option maxRecDepth 20000 in
theorem ggX7_agrees_X6_having : GoodIn wsX7_agrees wsX6_having := goodIn_sub (mz_fc mz_i_wsX7_agrees_93 (mz_fa (mz_fc mz_i_wsX7_agrees_37 (mz_fc mz_i_wsX7_agrees_38 (mz_fc mz_i_wsX7_agrees_49 (mz_fc mz_i_wsX7_agrees_14 (mz_fc mz_i_wsX7_agrees_50 (mz_fc mz_i_wsX7_agrees_51 (mz_fc mz_i_wsX7_agrees_52 (mz_fc mz_i_wsX7_agrees_53 (mz_fc mz_i_wsX7_agrees_54 (mz_fc mz_i_wsX7_agrees_55 (mz_fc mz_i_wsX7_agrees_56 (mz_fc mz_i_wsX7_agrees_57 (mz_fc mz_i_wsX7_agrees_87 (mz_fc mz_i_wsX7_agrees_88 mz_fn)))))))))))))) (mz_f_wsX7_agrees_wsX60))) (by decide +kernel)
theorem mz_i_wsX7_agrees_92 : (.selects RX6 yX6_having yX6_having : Cond) ∈ wsX7_agrees := mz_mt (mz_ml (mz_ml (mz_ml (mz_ml (mz_ml (mz_ml (mz_mr (mz_mr (mz_mr (mz_ml (mz_mt (mz_mt (mz_mt (mz_mt (mz_mt (mz_mt (mz_mt (mz_mt (mz_mt (mz_mt (mz_mt (mz_mt (mz_mt (mz_mt (mz_mt (mz_mt (mz_mt (mz_mt (mz_mt mz_mh)))))))))))))))))))))))))))))
theorem mz_i_wsX7_agrees_91 : (.instanceMethod yX6_having : Cond) ∈ wsX7_agrees := mz_mt (mz_ml (mz_ml (mz_ml (mz_ml (mz_ml (mz_ml (mz_mr (mz_mr (mz_mr (mz_ml (mz_mt (mz_mt (mz_mt (mz_mt (mz_mt (mz_mt (mz_mt (mz_mt (mz_mt (mz_mt (mz_mt (mz_mt (mz_mt (mz_mt (mz_mt (mz_mt (mz_mt (mz_mt mz_mh))))))))))))))))))))))))))))
theorem mz_i_wsX7_agrees_90 : (.methodLink RX7 133 yX6_having : Cond) ∈ wsX7_agrees := mz_mt (mz_ml (mz_ml (mz_ml (mz_ml (mz_ml (mz_ml (mz_mr (mz_mr (mz_mr (mz_ml (mz_mt (mz_mt (mz_mt (mz_mt (mz_mt (mz_mt (mz_mt (mz_mt (mz_mt (mz_mt (mz_mt (mz_mt (mz_mt (mz_mt (mz_mt (mz_mt (mz_mt mz_mh)))))))))))))))))))))))))))
set_option maxRecDepth 20000 in
theorem gX7_agrees_X6_having : GoodIn wsX7_agrees (wsV RX7 133 RX6 yX6_having wsX6_having) := goodIn_app (goodIn_sub (mz_fc mz_i_wsX7_agrees_90 (mz_fc mz_i_wsX7_agrees_91 (mz_fc mz_i_wsX7_agrees_92 (mz_fc mz_i_wsX7_agrees_35 mz_fn)))) (by decide +kernel)) ggX7_agrees_X6_having
theorem mz_i_wsX7_agrees_97 : (.code yX7_sumOver cX7_sumOver 12 (some .boolean) : Cond) ∈ wsX7_agrees := mz_mt (mz_ml (mz_ml (mz_ml (mz_ml (mz_ml (mz_ml (mz_mr (mz_mr (mz_mr (mz_mr (mz_ml mz_mh)))))))))))
theorem mz_i_wsX7_agrees_116 : (.methodLink RX7 220 yX7_partsOf : Cond) ∈ wsX7_agrees := mz_mt (mz_ml (mz_ml (mz_ml (mz_ml (mz_ml (mz_ml (mz_mr (mz_mr (mz_mr (mz_mr (mz_ml (mz_mt (mz_mt (mz_mt (mz_mt (mz_mt (mz_mt (mz_mt (mz_mt (mz_mt (mz_mt (mz_mt (mz_mt (mz_mt (mz_mt (mz_mt (mz_mt (mz_mt (mz_mt (mz_mt mz_mh))))))))))))))))))))))))))))))
theorem mz_i_wsX7_agrees_115 : (.code yX0_trim cX0_trim 2 none : Cond) ∈ wsX7_agrees := mz_mt (mz_ml (mz_ml (mz_ml (mz_ml (mz_ml (mz_ml (mz_mr (mz_mr (mz_mr (mz_mr (mz_ml (mz_mt (mz_mt (mz_mt (mz_mt (mz_mt (mz_mt (mz_mt (mz_mt (mz_mt (mz_mt (mz_mt (mz_mt (mz_mt (mz_mt (mz_mt (mz_mt (mz_mt (mz_mt mz_mh)))))))))))))))))))))))))))))
theorem mz_i_wsX7_agrees_114 : (.selects RX0 yX0_trim yX0_trim : Cond) ∈ wsX7_agrees := mz_mt (mz_ml (mz_ml (mz_ml (mz_ml (mz_ml (mz_ml (mz_mr (mz_mr (mz_mr (mz_mr (mz_ml (mz_mt (mz_mt (mz_mt (mz_mt (mz_mt (mz_mt (mz_mt (mz_mt (mz_mt (mz_mt (mz_mt (mz_mt (mz_mt (mz_mt (mz_mt (mz_mt (mz_mt mz_mh))))))))))))))))))))))))))))
theorem mz_i_wsX7_agrees_113 : (.instanceMethod yX0_trim : Cond) ∈ wsX7_agrees := mz_mt (mz_ml (mz_ml (mz_ml (mz_ml (mz_ml (mz_ml (mz_mr (mz_mr (mz_mr (mz_mr (mz_ml (mz_mt (mz_mt (mz_mt (mz_mt (mz_mt (mz_mt (mz_mt (mz_mt (mz_mt (mz_mt (mz_mt (mz_mt (mz_mt (mz_mt (mz_mt (mz_mt mz_mh)))))))))))))))))))))))))))
theorem mz_i_wsX7_agrees_112 : (.methodLink RX0 17 yX0_trim : Cond) ∈ wsX7_agrees := mz_mt (mz_ml (mz_ml (mz_ml (mz_ml (mz_ml (mz_ml (mz_mr (mz_mr (mz_mr (mz_mr (mz_ml (mz_mt (mz_mt (mz_mt (mz_mt (mz_mt (mz_mt (mz_mt (mz_mt (mz_mt (mz_mt (mz_mt (mz_mt (mz_mt (mz_mt (mz_mt mz_mh))))))))))))))))))))))))))
theorem mz_i_wsX7_agrees_111 : (.fieldLink RX0 9 "MadeItSo$Big" "limbs" "[J" : Cond) ∈ wsX7_agrees := mz_mt (mz_ml (mz_ml (mz_ml (mz_ml (mz_ml (mz_ml (mz_mr (mz_mr (mz_mr (mz_mr (mz_ml (mz_mt (mz_mt (mz_mt (mz_mt (mz_mt (mz_mt (mz_mt (mz_mt (mz_mt (mz_mt (mz_mt (mz_mt (mz_mt (mz_mt mz_mh)))))))))))))))))))))))))
theorem mz_i_wsX7_agrees_110 : (.fieldLink RX0 13 "MadeItSo$Big" "used" "I" : Cond) ∈ wsX7_agrees := mz_mt (mz_ml (mz_ml (mz_ml (mz_ml (mz_ml (mz_ml (mz_mr (mz_mr (mz_mr (mz_mr (mz_ml (mz_mt (mz_mt (mz_mt (mz_mt (mz_mt (mz_mt (mz_mt (mz_mt (mz_mt (mz_mt (mz_mt (mz_mt (mz_mt mz_mh))))))))))))))))))))))))
theorem mz_i_wsX7_agrees_109 : (.code yX0_becomeDigit cX0_becomeDigit 3 none : Cond) ∈ wsX7_agrees := mz_mt (mz_ml (mz_ml (mz_ml (mz_ml (mz_ml (mz_ml (mz_mr (mz_mr (mz_mr (mz_mr (mz_ml (mz_mt (mz_mt (mz_mt (mz_mt (mz_mt (mz_mt (mz_mt (mz_mt (mz_mt (mz_mt (mz_mt (mz_mt mz_mh)))))))))))))))))))))))
theorem mz_i_wsX7_agrees_108 : (.initialized RX0 : Cond) ∈ wsX7_agrees := mz_mt (mz_ml (mz_ml (mz_ml (mz_ml (mz_ml (mz_ml (mz_mr (mz_mr (mz_mr (mz_mr (mz_ml (mz_mt (mz_mt (mz_mt (mz_mt (mz_mt (mz_mt (mz_mt (mz_mt (mz_mt (mz_mt (mz_mt mz_mh))))))))))))))))))))))
theorem mz_i_wsX7_agrees_107 : (.selects RX0 yX0_becomeDigit yX0_becomeDigit : Cond) ∈ wsX7_agrees := mz_mt (mz_ml (mz_ml (mz_ml (mz_ml (mz_ml (mz_ml (mz_mr (mz_mr (mz_mr (mz_mr (mz_ml (mz_mt (mz_mt (mz_mt (mz_mt (mz_mt (mz_mt (mz_mt (mz_mt (mz_mt (mz_mt mz_mh)))))))))))))))))))))
theorem mz_i_wsX7_agrees_106 : (.instanceMethod yX0_becomeDigit : Cond) ∈ wsX7_agrees := mz_mt (mz_ml (mz_ml (mz_ml (mz_ml (mz_ml (mz_ml (mz_mr (mz_mr (mz_mr (mz_mr (mz_ml (mz_mt (mz_mt (mz_mt (mz_mt (mz_mt (mz_mt (mz_mt (mz_mt (mz_mt mz_mh))))))))))))))))))))
theorem mz_i_wsX7_agrees_105 : (.methodLink RX5 22 yX0_becomeDigit : Cond) ∈ wsX7_agrees := mz_mt (mz_ml (mz_ml (mz_ml (mz_ml (mz_ml (mz_ml (mz_mr (mz_mr (mz_mr (mz_mr (mz_ml (mz_mt (mz_mt (mz_mt (mz_mt (mz_mt (mz_mt (mz_mt (mz_mt mz_mh)))))))))))))))))))
theorem mz_i_wsX7_agrees_104 : (.fieldLink RX5 16 "MadeItSo$Total" "bottom" "LMadeItSo$Big;" : Cond) ∈ wsX7_agrees := mz_mt (mz_ml (mz_ml (mz_ml (mz_ml (mz_ml (mz_ml (mz_mr (mz_mr (mz_mr (mz_mr (mz_ml (mz_mt (mz_mt (mz_mt (mz_mt (mz_mt (mz_mt (mz_mt mz_mh))))))))))))))))))
theorem mz_i_wsX7_agrees_103 : (.fieldLink RX5 10 "MadeItSo$Total" "top" "LMadeItSo$Big;" : Cond) ∈ wsX7_agrees := mz_mt (mz_ml (mz_ml (mz_ml (mz_ml (mz_ml (mz_ml (mz_mr (mz_mr (mz_mr (mz_mr (mz_ml (mz_mt (mz_mt (mz_mt (mz_mt (mz_mt (mz_mt mz_mh)))))))))))))))))
theorem mz_i_wsX7_agrees_102 : (.code yX5_clear cX5_clear 1 none : Cond) ∈ wsX7_agrees := mz_mt (mz_ml (mz_ml (mz_ml (mz_ml (mz_ml (mz_ml (mz_mr (mz_mr (mz_mr (mz_mr (mz_ml (mz_mt (mz_mt (mz_mt (mz_mt (mz_mt mz_mh))))))))))))))))
theorem mz_i_wsX7_agrees_101 : (.initialized RX5 : Cond) ∈ wsX7_agrees := mz_mt (mz_ml (mz_ml (mz_ml (mz_ml (mz_ml (mz_ml (mz_mr (mz_mr (mz_mr (mz_mr (mz_ml (mz_mt (mz_mt (mz_mt (mz_mt mz_mh)))))))))))))))
theorem mz_i_wsX7_agrees_100 : (.selects RX5 yX5_clear yX5_clear : Cond) ∈ wsX7_agrees := mz_mt (mz_ml (mz_ml (mz_ml (mz_ml (mz_ml (mz_ml (mz_mr (mz_mr (mz_mr (mz_mr (mz_ml (mz_mt (mz_mt (mz_mt mz_mh))))))))))))))
theorem mz_i_wsX7_agrees_99 : (.instanceMethod yX5_clear : Cond) ∈ wsX7_agrees := mz_mt (mz_ml (mz_ml (mz_ml (mz_ml (mz_ml (mz_ml (mz_mr (mz_mr (mz_mr (mz_mr (mz_ml (mz_mt (mz_mt mz_mh)))))))))))))
theorem mz_i_wsX7_agrees_98 : (.methodLink RX7 226 yX5_clear : Cond) ∈ wsX7_agrees := mz_mt (mz_ml (mz_ml (mz_ml (mz_ml (mz_ml (mz_ml (mz_mr (mz_mr (mz_mr (mz_mr (mz_ml (mz_mt mz_mh))))))))))))
theorem mz_i_wsX7_agrees_2 : (.fieldLink RX7 29 "MadeItSo" "weights" "LMadeItSo$Weights;" : Cond) ∈ wsX7_agrees := mz_mt (mz_ml (mz_ml (mz_ml (mz_ml (mz_ml (mz_ml (mz_ml (mz_mt mz_mh))))))))
theorem mz_i_wsX7_agrees_4 : (.fieldLink RX7 36 "MadeItSo" "total" "LMadeItSo$Total;" : Cond) ∈ wsX7_agrees := mz_mt (mz_ml (mz_ml (mz_ml (mz_ml (mz_ml (mz_ml (mz_ml (mz_mt (mz_mt (mz_mt mz_mh))))))))))
theorem mz_i_wsX7_agrees_119 : (.static yX7_clash : Cond) ∈ wsX7_agrees := mz_mt (mz_ml (mz_ml (mz_ml (mz_ml (mz_ml (mz_ml (mz_mr (mz_mr (mz_mr (mz_mr (mz_ml (mz_mt (mz_mt (mz_mt (mz_mt (mz_mt (mz_mt (mz_mt (mz_mt (mz_mt (mz_mt (mz_mt (mz_mt (mz_mt (mz_mt (mz_mt (mz_mt (mz_mt (mz_mt (mz_mt (mz_mt (mz_mt (mz_mt mz_mh)))))))))))))))))))))))))))))))))
theorem mz_i_wsX7_agrees_118 : (.methodLink RX7 137 yX7_clash : Cond) ∈ wsX7_agrees := mz_mt (mz_ml (mz_ml (mz_ml (mz_ml (mz_ml (mz_ml (mz_mr (mz_mr (mz_mr (mz_mr (mz_ml (mz_mt (mz_mt (mz_mt (mz_mt (mz_mt (mz_mt (mz_mt (mz_mt (mz_mt (mz_mt (mz_mt (mz_mt (mz_mt (mz_mt (mz_mt (mz_mt (mz_mt (mz_mt (mz_mt (mz_mt (mz_mt mz_mh))))))))))))))))))))))))))))))))
theorem mz_i_wsX7_agrees_117 : (.methodLink RX7 127 yX7_heapOf : Cond) ∈ wsX7_agrees := mz_mt (mz_ml (mz_ml (mz_ml (mz_ml (mz_ml (mz_ml (mz_mr (mz_mr (mz_mr (mz_mr (mz_ml (mz_mt (mz_mt (mz_mt (mz_mt (mz_mt (mz_mt (mz_mt (mz_mt (mz_mt (mz_mt (mz_mt (mz_mt (mz_mt (mz_mt (mz_mt (mz_mt (mz_mt (mz_mt (mz_mt (mz_mt mz_mh)))))))))))))))))))))))))))))))
theorem mz_i_wsX7_agrees_143 : (.constantLong RX0 26 (1073741823) : Cond) ∈ wsX7_agrees := mz_mt (mz_ml (mz_ml (mz_ml (mz_ml (mz_ml (mz_ml (mz_mr (mz_mr (mz_mr (mz_mr (mz_mr (mz_ml (mz_mt (mz_mt (mz_mt (mz_mt (mz_mt (mz_mt (mz_mt (mz_mt (mz_mt (mz_mt (mz_mt (mz_mt (mz_mt (mz_mt (mz_mt (mz_mt (mz_mt (mz_mt (mz_mt (mz_mt (mz_mt (mz_mt mz_mh))))))))))))))))))))))))))))))))))
theorem mz_i_wsX7_agrees_142 : (.code yX0_times cX0_times 16 none : Cond) ∈ wsX7_agrees := mz_mt (mz_ml (mz_ml (mz_ml (mz_ml (mz_ml (mz_ml (mz_mr (mz_mr (mz_mr (mz_mr (mz_mr (mz_ml (mz_mt (mz_mt (mz_mt (mz_mt (mz_mt (mz_mt (mz_mt (mz_mt (mz_mt (mz_mt (mz_mt (mz_mt (mz_mt (mz_mt (mz_mt (mz_mt (mz_mt (mz_mt (mz_mt (mz_mt (mz_mt mz_mh)))))))))))))))))))))))))))))))))
theorem mz_i_wsX7_agrees_141 : (.selects RX0 yX0_times yX0_times : Cond) ∈ wsX7_agrees := mz_mt (mz_ml (mz_ml (mz_ml (mz_ml (mz_ml (mz_ml (mz_mr (mz_mr (mz_mr (mz_mr (mz_mr (mz_ml (mz_mt (mz_mt (mz_mt (mz_mt (mz_mt (mz_mt (mz_mt (mz_mt (mz_mt (mz_mt (mz_mt (mz_mt (mz_mt (mz_mt (mz_mt (mz_mt (mz_mt (mz_mt (mz_mt (mz_mt mz_mh))))))))))))))))))))))))))))))))
theorem mz_i_wsX7_agrees_140 : (.instanceMethod yX0_times : Cond) ∈ wsX7_agrees := mz_mt (mz_ml (mz_ml (mz_ml (mz_ml (mz_ml (mz_ml (mz_mr (mz_mr (mz_mr (mz_mr (mz_mr (mz_ml (mz_mt (mz_mt (mz_mt (mz_mt (mz_mt (mz_mt (mz_mt (mz_mt (mz_mt (mz_mt (mz_mt (mz_mt (mz_mt (mz_mt (mz_mt (mz_mt (mz_mt (mz_mt (mz_mt mz_mh)))))))))))))))))))))))))))))))
theorem mz_i_wsX7_agrees_139 : (.methodLink RX5 36 yX0_times : Cond) ∈ wsX7_agrees := mz_mt (mz_ml (mz_ml (mz_ml (mz_ml (mz_ml (mz_ml (mz_mr (mz_mr (mz_mr (mz_mr (mz_mr (mz_ml (mz_mt (mz_mt (mz_mt (mz_mt (mz_mt (mz_mt (mz_mt (mz_mt (mz_mt (mz_mt (mz_mt (mz_mt (mz_mt (mz_mt (mz_mt (mz_mt (mz_mt (mz_mt mz_mh))))))))))))))))))))))))))))))
theorem mz_i_wsX7_agrees_138 : (.code Lib.Math.max.name Lib.Math.max.code 2 (some .int) : Cond) ∈ wsX7_agrees := mz_mt (mz_ml (mz_ml (mz_ml (mz_ml (mz_ml (mz_ml (mz_mr (mz_mr (mz_mr (mz_mr (mz_mr (mz_ml (mz_mt (mz_mt (mz_mt (mz_mt (mz_mt (mz_mt (mz_mt (mz_mt (mz_mt (mz_mt (mz_mt (mz_mt (mz_mt (mz_mt (mz_mt (mz_mt (mz_mt mz_mh)))))))))))))))))))))))))))))
theorem mz_i_wsX7_agrees_137 : (.static Lib.Math.max.name : Cond) ∈ wsX7_agrees := mz_mt (mz_ml (mz_ml (mz_ml (mz_ml (mz_ml (mz_ml (mz_mr (mz_mr (mz_mr (mz_mr (mz_mr (mz_ml (mz_mt (mz_mt (mz_mt (mz_mt (mz_mt (mz_mt (mz_mt (mz_mt (mz_mt (mz_mt (mz_mt (mz_mt (mz_mt (mz_mt (mz_mt (mz_mt mz_mh))))))))))))))))))))))))))))
theorem mz_i_wsX7_agrees_136 : (.methodLink RX0 20 Lib.Math.max.name : Cond) ∈ wsX7_agrees := mz_mt (mz_ml (mz_ml (mz_ml (mz_ml (mz_ml (mz_ml (mz_mr (mz_mr (mz_mr (mz_mr (mz_mr (mz_ml (mz_mt (mz_mt (mz_mt (mz_mt (mz_mt (mz_mt (mz_mt (mz_mt (mz_mt (mz_mt (mz_mt (mz_mt (mz_mt (mz_mt (mz_mt mz_mh)))))))))))))))))))))))))))
theorem mz_i_wsX7_agrees_135 : (.code yX0_become cX0_become 4 none : Cond) ∈ wsX7_agrees := mz_mt (mz_ml (mz_ml (mz_ml (mz_ml (mz_ml (mz_ml (mz_mr (mz_mr (mz_mr (mz_mr (mz_mr (mz_ml (mz_mt (mz_mt (mz_mt (mz_mt (mz_mt (mz_mt (mz_mt (mz_mt (mz_mt (mz_mt (mz_mt (mz_mt (mz_mt (mz_mt mz_mh))))))))))))))))))))))))))
theorem mz_i_wsX7_agrees_134 : (.selects RX0 yX0_become yX0_become : Cond) ∈ wsX7_agrees := mz_mt (mz_ml (mz_ml (mz_ml (mz_ml (mz_ml (mz_ml (mz_mr (mz_mr (mz_mr (mz_mr (mz_mr (mz_ml (mz_mt (mz_mt (mz_mt (mz_mt (mz_mt (mz_mt (mz_mt (mz_mt (mz_mt (mz_mt (mz_mt (mz_mt (mz_mt mz_mh)))))))))))))))))))))))))
theorem mz_i_wsX7_agrees_133 : (.instanceMethod yX0_become : Cond) ∈ wsX7_agrees := mz_mt (mz_ml (mz_ml (mz_ml (mz_ml (mz_ml (mz_ml (mz_mr (mz_mr (mz_mr (mz_mr (mz_mr (mz_ml (mz_mt (mz_mt (mz_mt (mz_mt (mz_mt (mz_mt (mz_mt (mz_mt (mz_mt (mz_mt (mz_mt (mz_mt mz_mh))))))))))))))))))))))))
theorem mz_i_wsX7_agrees_132 : (.methodLink RX5 32 yX0_become : Cond) ∈ wsX7_agrees := mz_mt (mz_ml (mz_ml (mz_ml (mz_ml (mz_ml (mz_ml (mz_mr (mz_mr (mz_mr (mz_mr (mz_mr (mz_ml (mz_mt (mz_mt (mz_mt (mz_mt (mz_mt (mz_mt (mz_mt (mz_mt (mz_mt (mz_mt (mz_mt mz_mh)))))))))))))))))))))))
theorem mz_i_wsX7_agrees_131 : (.code Lib.MathLoose.max_long.x Lib.MathLoose.max_long.code 4 (some .long) : Cond) ∈ wsX7_agrees := mz_mt (mz_ml (mz_ml (mz_ml (mz_ml (mz_ml (mz_ml (mz_mr (mz_mr (mz_mr (mz_mr (mz_mr (mz_ml (mz_mt (mz_mt (mz_mt (mz_mt (mz_mt (mz_mt (mz_mt (mz_mt (mz_mt (mz_mt mz_mh))))))))))))))))))))))
theorem mz_i_wsX7_agrees_130 : (.initialized "java/lang/Math" : Cond) ∈ wsX7_agrees := mz_mt (mz_ml (mz_ml (mz_ml (mz_ml (mz_ml (mz_ml (mz_mr (mz_mr (mz_mr (mz_mr (mz_mr (mz_ml (mz_mt (mz_mt (mz_mt (mz_mt (mz_mt (mz_mt (mz_mt (mz_mt (mz_mt mz_mh)))))))))))))))))))))
theorem mz_i_wsX7_agrees_129 : (.static Lib.MathLoose.max_long.x : Cond) ∈ wsX7_agrees := mz_mt (mz_ml (mz_ml (mz_ml (mz_ml (mz_ml (mz_ml (mz_mr (mz_mr (mz_mr (mz_mr (mz_mr (mz_ml (mz_mt (mz_mt (mz_mt (mz_mt (mz_mt (mz_mt (mz_mt (mz_mt mz_mh))))))))))))))))))))
theorem mz_i_wsX7_agrees_128 : (.methodLink RX7 199 Lib.MathLoose.max_long.x : Cond) ∈ wsX7_agrees := mz_mt (mz_ml (mz_ml (mz_ml (mz_ml (mz_ml (mz_ml (mz_mr (mz_mr (mz_mr (mz_mr (mz_mr (mz_ml (mz_mt (mz_mt (mz_mt (mz_mt (mz_mt (mz_mt (mz_mt mz_mh)))))))))))))))))))
theorem mz_i_wsX7_agrees_127 : (.code yX7_commonDivisor cX7_commonDivisor 11 (some .long) : Cond) ∈ wsX7_agrees := mz_mt (mz_ml (mz_ml (mz_ml (mz_ml (mz_ml (mz_ml (mz_mr (mz_mr (mz_mr (mz_mr (mz_mr (mz_ml (mz_mt (mz_mt (mz_mt (mz_mt (mz_mt (mz_mt mz_mh))))))))))))))))))
theorem mz_i_wsX7_agrees_126 : (.static yX7_commonDivisor : Cond) ∈ wsX7_agrees := mz_mt (mz_ml (mz_ml (mz_ml (mz_ml (mz_ml (mz_ml (mz_mr (mz_mr (mz_mr (mz_mr (mz_mr (mz_ml (mz_mt (mz_mt (mz_mt (mz_mt (mz_mt mz_mh)))))))))))))))))
theorem mz_i_wsX7_agrees_125 : (.fieldLink RX5 19 "MadeItSo$Total" "spare" "LMadeItSo$Big;" : Cond) ∈ wsX7_agrees := mz_mt (mz_ml (mz_ml (mz_ml (mz_ml (mz_ml (mz_ml (mz_mr (mz_mr (mz_mr (mz_mr (mz_mr (mz_ml (mz_mt (mz_mt (mz_mt (mz_mt mz_mh))))))))))))))))
theorem mz_i_wsX7_agrees_124 : (.code yX5_add cX5_add 13 none : Cond) ∈ wsX7_agrees := mz_mt (mz_ml (mz_ml (mz_ml (mz_ml (mz_ml (mz_ml (mz_mr (mz_mr (mz_mr (mz_mr (mz_mr (mz_ml (mz_mt (mz_mt (mz_mt mz_mh)))))))))))))))
theorem mz_i_wsX7_agrees_123 : (.selects RX5 yX5_add yX5_add : Cond) ∈ wsX7_agrees := mz_mt (mz_ml (mz_ml (mz_ml (mz_ml (mz_ml (mz_ml (mz_mr (mz_mr (mz_mr (mz_mr (mz_mr (mz_ml (mz_mt (mz_mt mz_mh))))))))))))))
theorem mz_i_wsX7_agrees_122 : (.instanceMethod yX5_add : Cond) ∈ wsX7_agrees := mz_mt (mz_ml (mz_ml (mz_ml (mz_ml (mz_ml (mz_ml (mz_mr (mz_mr (mz_mr (mz_mr (mz_mr (mz_ml (mz_mt mz_mh)))))))))))))
theorem mz_i_wsX7_agrees_121 : (.methodLink RX7 229 yX5_add : Cond) ∈ wsX7_agrees := mz_mt (mz_ml (mz_ml (mz_ml (mz_ml (mz_ml (mz_ml (mz_mr (mz_mr (mz_mr (mz_mr (mz_mr (mz_ml mz_mh))))))))))))
theorem mz_i_wsX7_agrees_120 : (.code yX7_clash cX7_clash 2 (some .boolean) : Cond) ∈ wsX7_agrees := mz_mt (mz_ml (mz_ml (mz_ml (mz_ml (mz_ml (mz_ml (mz_mr (mz_mr (mz_mr (mz_mr (mz_ml (mz_mt (mz_mt (mz_mt (mz_mt (mz_mt (mz_mt (mz_mt (mz_mt (mz_mt (mz_mt (mz_mt (mz_mt (mz_mt (mz_mt (mz_mt (mz_mt (mz_mt (mz_mt (mz_mt (mz_mt (mz_mt (mz_mt (mz_mt mz_mh))))))))))))))))))))))))))))))))))
theorem mz_i_wsX7_agrees_151 : (.methodLink RX7 233 yX7_nextPart : Cond) ∈ wsX7_agrees := mz_mt (mz_ml (mz_ml (mz_ml (mz_ml (mz_ml (mz_ml (mz_mr (mz_mr (mz_mr (mz_mr (mz_mr (mz_mr (mz_mt (mz_mt (mz_mt (mz_mt (mz_mt (mz_mt mz_mh))))))))))))))))))
theorem mz_i_wsX7_agrees_150 : (.code yX0_plus cX0_plus 7 none : Cond) ∈ wsX7_agrees := mz_mt (mz_ml (mz_ml (mz_ml (mz_ml (mz_ml (mz_ml (mz_mr (mz_mr (mz_mr (mz_mr (mz_mr (mz_mr (mz_mt (mz_mt (mz_mt (mz_mt (mz_mt mz_mh)))))))))))))))))
theorem mz_i_wsX7_agrees_149 : (.selects RX0 yX0_plus yX0_plus : Cond) ∈ wsX7_agrees := mz_mt (mz_ml (mz_ml (mz_ml (mz_ml (mz_ml (mz_ml (mz_mr (mz_mr (mz_mr (mz_mr (mz_mr (mz_mr (mz_mt (mz_mt (mz_mt (mz_mt mz_mh))))))))))))))))
theorem mz_i_wsX7_agrees_148 : (.instanceMethod yX0_plus : Cond) ∈ wsX7_agrees := mz_mt (mz_ml (mz_ml (mz_ml (mz_ml (mz_ml (mz_ml (mz_mr (mz_mr (mz_mr (mz_mr (mz_mr (mz_mr (mz_mt (mz_mt (mz_mt mz_mh)))))))))))))))
theorem mz_i_wsX7_agrees_147 : (.methodLink RX5 40 yX0_plus : Cond) ∈ wsX7_agrees := mz_mt (mz_ml (mz_ml (mz_ml (mz_ml (mz_ml (mz_ml (mz_mr (mz_mr (mz_mr (mz_mr (mz_mr (mz_mr (mz_mt (mz_mt mz_mh))))))))))))))
theorem mz_i_wsX7_agrees_146 : (.code Lib.Math.min.name Lib.Math.min.code 2 (some .int) : Cond) ∈ wsX7_agrees := mz_mt (mz_ml (mz_ml (mz_ml (mz_ml (mz_ml (mz_ml (mz_mr (mz_mr (mz_mr (mz_mr (mz_mr (mz_mr (mz_mt mz_mh)))))))))))))
theorem mz_i_wsX7_agrees_145 : (.static Lib.Math.min.name : Cond) ∈ wsX7_agrees := mz_mt (mz_ml (mz_ml (mz_ml (mz_ml (mz_ml (mz_ml (mz_mr (mz_mr (mz_mr (mz_mr (mz_mr (mz_mr mz_mh))))))))))))
theorem mz_i_wsX7_agrees_144 : (.methodLink RX0 28 Lib.Math.min.name : Cond) ∈ wsX7_agrees := mz_mt (mz_ml (mz_ml (mz_ml (mz_ml (mz_ml (mz_ml (mz_mr (mz_mr (mz_mr (mz_mr (mz_mr (mz_ml (mz_mt (mz_mt (mz_mt (mz_mt (mz_mt (mz_mt (mz_mt (mz_mt (mz_mt (mz_mt (mz_mt (mz_mt (mz_mt (mz_mt (mz_mt (mz_mt (mz_mt (mz_mt (mz_mt (mz_mt (mz_mt (mz_mt (mz_mt mz_mh)))))))))))))))))))))))))))))))))))
theorem mz_f_wsX7_agrees_wsX50 : ∀ w ∈ wsX50, w ∈ wsX7_agrees := fun _ h => mz_mt (mz_ml (mz_mr h))
theorem mz_f_wsX7_agrees_wsX00 : ∀ w ∈ wsX00, w ∈ wsX7_agrees := fun _ h => mz_mt (mz_mr h)
set_option maxRecDepth 20000 in
theorem ggX7_agrees_X7_sumOver : GoodIn wsX7_agrees wsX7_sumOver := goodIn_sub (mz_fc mz_i_wsX7_agrees_97 (mz_fa (mz_fa (mz_fa (mz_fa (mz_fa (mz_fc mz_i_wsX7_agrees_4 (mz_fc mz_i_wsX7_agrees_2 (mz_fc mz_i_wsX7_agrees_98 (mz_fc mz_i_wsX7_agrees_99 (mz_fc mz_i_wsX7_agrees_100 (mz_fc mz_i_wsX7_agrees_101 (mz_fc mz_i_wsX7_agrees_102 (mz_fc mz_i_wsX7_agrees_103 (mz_fc mz_i_wsX7_agrees_104 (mz_fc mz_i_wsX7_agrees_105 (mz_fc mz_i_wsX7_agrees_106 (mz_fc mz_i_wsX7_agrees_107 (mz_fc mz_i_wsX7_agrees_108 (mz_fc mz_i_wsX7_agrees_109 (mz_fc mz_i_wsX7_agrees_110 (mz_fc mz_i_wsX7_agrees_111 (mz_fc mz_i_wsX7_agrees_112 (mz_fc mz_i_wsX7_agrees_113 (mz_fc mz_i_wsX7_agrees_114 (mz_fc mz_i_wsX7_agrees_115 (mz_fc mz_i_wsX7_agrees_116 (mz_fc mz_i_wsX7_agrees_49 (mz_fc mz_i_wsX7_agrees_14 (mz_fc mz_i_wsX7_agrees_50 mz_fn)))))))))))))))))))))))) (mz_fa (mz_fc mz_i_wsX7_agrees_51 (mz_fc mz_i_wsX7_agrees_52 (mz_fc mz_i_wsX7_agrees_53 (mz_fc mz_i_wsX7_agrees_54 (mz_fc mz_i_wsX7_agrees_55 (mz_fc mz_i_wsX7_agrees_56 (mz_fc mz_i_wsX7_agrees_57 (mz_fc mz_i_wsX7_agrees_90 (mz_fc mz_i_wsX7_agrees_91 (mz_fc mz_i_wsX7_agrees_92 (mz_fc mz_i_wsX7_agrees_35 (mz_fc mz_i_wsX7_agrees_93 (mz_fc mz_i_wsX7_agrees_37 (mz_fc mz_i_wsX7_agrees_38 (mz_fc mz_i_wsX7_agrees_87 (mz_fc mz_i_wsX7_agrees_88 (mz_fc mz_i_wsX7_agrees_117 (mz_fc mz_i_wsX7_agrees_63 (mz_fc mz_i_wsX7_agrees_64 (mz_fc mz_i_wsX7_agrees_89 (mz_fc mz_i_wsX7_agrees_65 (mz_fc mz_i_wsX7_agrees_66 (mz_fc mz_i_wsX7_agrees_118 (mz_fc mz_i_wsX7_agrees_119 mz_fn)))))))))))))))))))))))) (mz_fa (mz_fc mz_i_wsX7_agrees_120 (mz_fc mz_i_wsX7_agrees_121 (mz_fc mz_i_wsX7_agrees_122 (mz_fc mz_i_wsX7_agrees_123 (mz_fc mz_i_wsX7_agrees_124 (mz_fc mz_i_wsX7_agrees_125 (mz_fc mz_i_wsX7_agrees_126 (mz_fc mz_i_wsX7_agrees_127 (mz_fc mz_i_wsX7_agrees_128 (mz_fc mz_i_wsX7_agrees_129 (mz_fc mz_i_wsX7_agrees_130 (mz_fc mz_i_wsX7_agrees_131 (mz_fc mz_i_wsX7_agrees_132 (mz_fc mz_i_wsX7_agrees_133 (mz_fc mz_i_wsX7_agrees_134 (mz_fc mz_i_wsX7_agrees_135 (mz_fc mz_i_wsX7_agrees_136 (mz_fc mz_i_wsX7_agrees_137 (mz_fc mz_i_wsX7_agrees_138 (mz_fc mz_i_wsX7_agrees_139 (mz_fc mz_i_wsX7_agrees_140 (mz_fc mz_i_wsX7_agrees_141 (mz_fc mz_i_wsX7_agrees_142 (mz_fc mz_i_wsX7_agrees_143 mz_fn)))))))))))))))))))))))) (mz_fc mz_i_wsX7_agrees_144 (mz_fc mz_i_wsX7_agrees_145 (mz_fc mz_i_wsX7_agrees_146 (mz_fc mz_i_wsX7_agrees_147 (mz_fc mz_i_wsX7_agrees_148 (mz_fc mz_i_wsX7_agrees_149 (mz_fc mz_i_wsX7_agrees_150 (mz_fc mz_i_wsX7_agrees_151 mz_fn))))))))))) (mz_f_wsX7_agrees_wsX70)) (mz_f_wsX7_agrees_wsX50)) (mz_f_wsX7_agrees_wsX00)) (mz_f_wsX7_agrees_wsX60))) (by decide +kernel)
theorem mz_i_wsX7_agrees_96 : (.selects RX7 yX7_sumOver yX7_sumOver : Cond) ∈ wsX7_agrees := mz_mt (mz_ml (mz_ml (mz_ml (mz_ml (mz_ml (mz_ml (mz_mr (mz_mr (mz_mr (mz_ml (mz_mt (mz_mt (mz_mt (mz_mt (mz_mt (mz_mt (mz_mt (mz_mt (mz_mt (mz_mt (mz_mt (mz_mt (mz_mt (mz_mt (mz_mt (mz_mt (mz_mt (mz_mt (mz_mt (mz_mt (mz_mt (mz_mt (mz_mt mz_mh)))))))))))))))))))))))))))))))))
theorem mz_i_wsX7_agrees_95 : (.instanceMethod yX7_sumOver : Cond) ∈ wsX7_agrees := mz_mt (mz_ml (mz_ml (mz_ml (mz_ml (mz_ml (mz_ml (mz_mr (mz_mr (mz_mr (mz_ml (mz_mt (mz_mt (mz_mt (mz_mt (mz_mt (mz_mt (mz_mt (mz_mt (mz_mt (mz_mt (mz_mt (mz_mt (mz_mt (mz_mt (mz_mt (mz_mt (mz_mt (mz_mt (mz_mt (mz_mt (mz_mt (mz_mt mz_mh))))))))))))))))))))))))))))))))
theorem mz_i_wsX7_agrees_94 : (.methodLink RX7 180 yX7_sumOver : Cond) ∈ wsX7_agrees := mz_mt (mz_ml (mz_ml (mz_ml (mz_ml (mz_ml (mz_ml (mz_mr (mz_mr (mz_mr (mz_ml (mz_mt (mz_mt (mz_mt (mz_mt (mz_mt (mz_mt (mz_mt (mz_mt (mz_mt (mz_mt (mz_mt (mz_mt (mz_mt (mz_mt (mz_mt (mz_mt (mz_mt (mz_mt (mz_mt (mz_mt (mz_mt mz_mh)))))))))))))))))))))))))))))))
set_option maxRecDepth 20000 in
theorem gX7_agrees_X7_sumOver : GoodIn wsX7_agrees (wsV RX7 180 RX7 yX7_sumOver wsX7_sumOver) := goodIn_app (goodIn_sub (mz_fc mz_i_wsX7_agrees_94 (mz_fc mz_i_wsX7_agrees_95 (mz_fc mz_i_wsX7_agrees_96 (mz_fc mz_i_wsX7_agrees_14 mz_fn)))) (by decide +kernel)) ggX7_agrees_X7_sumOver
theorem mz_i_wsX7_agrees_155 : (.code yX5_is cX5_is 3 (some .boolean) : Cond) ∈ wsX7_agrees := mz_mt (mz_ml (mz_ml (mz_ml (mz_ml (mz_ml (mz_ml (mz_mr (mz_mr (mz_mr (mz_mr (mz_mr (mz_mr (mz_mt (mz_mt (mz_mt (mz_mt (mz_mt (mz_mt (mz_mt (mz_mt (mz_mt (mz_mt mz_mh))))))))))))))))))))))
theorem mz_i_wsX7_agrees_159 : (.code yX0_same cX0_same 3 (some .boolean) : Cond) ∈ wsX7_agrees := mz_mt (mz_ml (mz_ml (mz_ml (mz_ml (mz_ml (mz_ml (mz_mr (mz_mr (mz_mr (mz_mr (mz_mr (mz_mr (mz_mt (mz_mt (mz_mt (mz_mt (mz_mt (mz_mt (mz_mt (mz_mt (mz_mt (mz_mt (mz_mt (mz_mt (mz_mt (mz_mt mz_mh))))))))))))))))))))))))))
theorem mz_i_wsX7_agrees_158 : (.selects RX0 yX0_same yX0_same : Cond) ∈ wsX7_agrees := mz_mt (mz_ml (mz_ml (mz_ml (mz_ml (mz_ml (mz_ml (mz_mr (mz_mr (mz_mr (mz_mr (mz_mr (mz_mr (mz_mt (mz_mt (mz_mt (mz_mt (mz_mt (mz_mt (mz_mt (mz_mt (mz_mt (mz_mt (mz_mt (mz_mt (mz_mt mz_mh)))))))))))))))))))))))))
theorem mz_i_wsX7_agrees_157 : (.instanceMethod yX0_same : Cond) ∈ wsX7_agrees := mz_mt (mz_ml (mz_ml (mz_ml (mz_ml (mz_ml (mz_ml (mz_mr (mz_mr (mz_mr (mz_mr (mz_mr (mz_mr (mz_mt (mz_mt (mz_mt (mz_mt (mz_mt (mz_mt (mz_mt (mz_mt (mz_mt (mz_mt (mz_mt (mz_mt mz_mh))))))))))))))))))))))))
theorem mz_i_wsX7_agrees_156 : (.methodLink RX5 43 yX0_same : Cond) ∈ wsX7_agrees := mz_mt (mz_ml (mz_ml (mz_ml (mz_ml (mz_ml (mz_ml (mz_mr (mz_mr (mz_mr (mz_mr (mz_mr (mz_mr (mz_mt (mz_mt (mz_mt (mz_mt (mz_mt (mz_mt (mz_mt (mz_mt (mz_mt (mz_mt (mz_mt mz_mh)))))))))))))))))))))))
set_option maxRecDepth 20000 in
theorem ggX7_agrees_X5_is : GoodIn wsX7_agrees wsX5_is := goodIn_sub (mz_fc mz_i_wsX7_agrees_155 (mz_fa (mz_fa (mz_fa (mz_fc mz_i_wsX7_agrees_125 (mz_fc mz_i_wsX7_agrees_104 (mz_fc mz_i_wsX7_agrees_103 (mz_fc mz_i_wsX7_agrees_132 (mz_fc mz_i_wsX7_agrees_133 (mz_fc mz_i_wsX7_agrees_134 (mz_fc mz_i_wsX7_agrees_108 (mz_fc mz_i_wsX7_agrees_135 (mz_fc mz_i_wsX7_agrees_110 (mz_fc mz_i_wsX7_agrees_136 (mz_fc mz_i_wsX7_agrees_137 (mz_fc mz_i_wsX7_agrees_130 (mz_fc mz_i_wsX7_agrees_138 (mz_fc mz_i_wsX7_agrees_111 (mz_fc mz_i_wsX7_agrees_139 (mz_fc mz_i_wsX7_agrees_140 (mz_fc mz_i_wsX7_agrees_141 (mz_fc mz_i_wsX7_agrees_142 (mz_fc mz_i_wsX7_agrees_143 (mz_fc mz_i_wsX7_agrees_144 (mz_fc mz_i_wsX7_agrees_145 (mz_fc mz_i_wsX7_agrees_146 (mz_fc mz_i_wsX7_agrees_112 (mz_fc mz_i_wsX7_agrees_113 mz_fn)))))))))))))))))))))))) (mz_fc mz_i_wsX7_agrees_114 (mz_fc mz_i_wsX7_agrees_115 (mz_fc mz_i_wsX7_agrees_156 (mz_fc mz_i_wsX7_agrees_157 (mz_fc mz_i_wsX7_agrees_158 (mz_fc mz_i_wsX7_agrees_159 mz_fn))))))) (mz_f_wsX7_agrees_wsX50)) (mz_f_wsX7_agrees_wsX00))) (by decide +kernel)
theorem mz_i_wsX7_agrees_154 : (.selects RX5 yX5_is yX5_is : Cond) ∈ wsX7_agrees := mz_mt (mz_ml (mz_ml (mz_ml (mz_ml (mz_ml (mz_ml (mz_mr (mz_mr (mz_mr (mz_mr (mz_mr (mz_mr (mz_mt (mz_mt (mz_mt (mz_mt (mz_mt (mz_mt (mz_mt (mz_mt (mz_mt mz_mh)))))))))))))))))))))
theorem mz_i_wsX7_agrees_153 : (.instanceMethod yX5_is : Cond) ∈ wsX7_agrees := mz_mt (mz_ml (mz_ml (mz_ml (mz_ml (mz_ml (mz_ml (mz_mr (mz_mr (mz_mr (mz_mr (mz_mr (mz_mr (mz_mt (mz_mt (mz_mt (mz_mt (mz_mt (mz_mt (mz_mt (mz_mt mz_mh))))))))))))))))))))
theorem mz_i_wsX7_agrees_152 : (.methodLink RX7 183 yX5_is : Cond) ∈ wsX7_agrees := mz_mt (mz_ml (mz_ml (mz_ml (mz_ml (mz_ml (mz_ml (mz_mr (mz_mr (mz_mr (mz_mr (mz_mr (mz_mr (mz_mt (mz_mt (mz_mt (mz_mt (mz_mt (mz_mt (mz_mt mz_mh)))))))))))))))))))
set_option maxRecDepth 20000 in
theorem gX7_agrees_X5_is : GoodIn wsX7_agrees (wsV RX7 183 RX5 yX5_is wsX5_is) := goodIn_app (goodIn_sub (mz_fc mz_i_wsX7_agrees_152 (mz_fc mz_i_wsX7_agrees_153 (mz_fc mz_i_wsX7_agrees_154 (mz_fc mz_i_wsX7_agrees_101 mz_fn)))) (by decide +kernel)) ggX7_agrees_X5_is
theorem dX7_agrees_0 : decode cX7_agrees 0 = .ok (.aload_n 0, 1) := by decide +kernel
theorem dX7_agrees_1 : decode cX7_agrees 1 = .ok (.getfield 12, 3) := by decide +kernel
theorem dX7_agrees_4 : decode cX7_agrees 4 = .ok (.iload_n 1, 1) := by decide +kernel
theorem dX7_agrees_5 : decode cX7_agrees 5 = .ok (.invokevirtual 77, 3) := by decide +kernel
theorem dX7_agrees_8 : decode cX7_agrees 8 = .ok (.ifCond .eq 38, 3) := by decide +kernel
theorem dX7_agrees_11 : decode cX7_agrees 11 = .ok (.aload_n 0, 1) := by decide +kernel
theorem dX7_agrees_12 : decode cX7_agrees 12 = .ok (.getfield 12, 3) := by decide +kernel
theorem dX7_agrees_15 : decode cX7_agrees 15 = .ok (.iload_n 2, 1) := by decide +kernel
theorem dX7_agrees_16 : decode cX7_agrees 16 = .ok (.invokevirtual 77, 3) := by decide +kernel
theorem dX7_agrees_19 : decode cX7_agrees 19 = .ok (.ifCond .eq 27, 3) := by decide +kernel
theorem dX7_agrees_22 : decode cX7_agrees 22 = .ok (.aload_n 0, 1) := by decide +kernel
theorem dX7_agrees_23 : decode cX7_agrees 23 = .ok (.iload_n 3, 1) := by decide +kernel
theorem dX7_agrees_24 : decode cX7_agrees 24 = .ok (.invokevirtual 144, 3) := by decide +kernel
theorem dX7_agrees_27 : decode cX7_agrees 27 = .ok (.ifCond .eq 19, 3) := by decide +kernel
theorem dX7_agrees_30 : decode cX7_agrees 30 = .ok (.iload_n 3, 1) := by decide +kernel
theorem dX7_agrees_31 : decode cX7_agrees 31 = .ok (.iload_n 1, 1) := by decide +kernel
theorem dX7_agrees_32 : decode cX7_agrees 32 = .ok (.invokestatic 106, 3) := by decide +kernel
theorem dX7_agrees_35 : decode cX7_agrees 35 = .ok (.ifCond .ne 11, 3) := by decide +kernel
theorem dX7_agrees_38 : decode cX7_agrees 38 = .ok (.iload_n 3, 1) := by decide +kernel
theorem dX7_agrees_39 : decode cX7_agrees 39 = .ok (.iload_n 2, 1) := by decide +kernel
theorem dX7_agrees_40 : decode cX7_agrees 40 = .ok (.invokestatic 106, 3) := by decide +kernel
theorem dX7_agrees_43 : decode cX7_agrees 43 = .ok (.ifCond .eq 5, 3) := by decide +kernel
theorem dX7_agrees_46 : decode cX7_agrees 46 = .ok (.iconst (-1), 1) := by decide +kernel
theorem dX7_agrees_47 : decode cX7_agrees 47 = .ok (.ireturn, 1) := by decide +kernel
theorem dX7_agrees_48 : decode cX7_agrees 48 = .ok (.iload 4, 2) := by decide +kernel
theorem dX7_agrees_50 : decode cX7_agrees 50 = .ok (.invokestatic 174, 3) := by decide +kernel
theorem dX7_agrees_53 : decode cX7_agrees 53 = .ok (.ifCond .eq 11, 3) := by decide +kernel
theorem dX7_agrees_56 : decode cX7_agrees 56 = .ok (.iload 5, 2) := by decide +kernel
theorem dX7_agrees_58 : decode cX7_agrees 58 = .ok (.invokestatic 174, 3) := by decide +kernel
theorem dX7_agrees_61 : decode cX7_agrees 61 = .ok (.ifCond .ne 5, 3) := by decide +kernel
theorem dX7_agrees_64 : decode cX7_agrees 64 = .ok (.iconst (-1), 1) := by decide +kernel
theorem dX7_agrees_65 : decode cX7_agrees 65 = .ok (.ireturn, 1) := by decide +kernel
theorem dX7_agrees_66 : decode cX7_agrees 66 = .ok (.aload_n 0, 1) := by decide +kernel
theorem dX7_agrees_67 : decode cX7_agrees 67 = .ok (.getfield 29, 3) := by decide +kernel
theorem dX7_agrees_70 : decode cX7_agrees 70 = .ok (.aload_n 0, 1) := by decide +kernel
theorem dX7_agrees_71 : decode cX7_agrees 71 = .ok (.getfield 12, 3) := by decide +kernel
theorem dX7_agrees_74 : decode cX7_agrees 74 = .ok (.aload_n 0, 1) := by decide +kernel
theorem dX7_agrees_75 : decode cX7_agrees 75 = .ok (.getfield 22, 3) := by decide +kernel
theorem dX7_agrees_78 : decode cX7_agrees 78 = .ok (.iload_n 1, 1) := by decide +kernel
theorem dX7_agrees_79 : decode cX7_agrees 79 = .ok (.iload 4, 2) := by decide +kernel
theorem dX7_agrees_81 : decode cX7_agrees 81 = .ok (.invokestatic 177, 3) := by decide +kernel
theorem dX7_agrees_84 : decode cX7_agrees 84 = .ok (.invokevirtual 123, 3) := by decide +kernel
theorem dX7_agrees_87 : decode cX7_agrees 87 = .ok (.aload_n 0, 1) := by decide +kernel
theorem dX7_agrees_88 : decode cX7_agrees 88 = .ok (.getfield 29, 3) := by decide +kernel
theorem dX7_agrees_91 : decode cX7_agrees 91 = .ok (.iload_n 2, 1) := by decide +kernel
theorem dX7_agrees_92 : decode cX7_agrees 92 = .ok (.invokestatic 73, 3) := by decide +kernel
theorem dX7_agrees_95 : decode cX7_agrees 95 = .ok (.iload_n 2, 1) := by decide +kernel
theorem dX7_agrees_96 : decode cX7_agrees 96 = .ok (.iload 5, 2) := by decide +kernel
theorem dX7_agrees_98 : decode cX7_agrees 98 = .ok (.invokestatic 177, 3) := by decide +kernel
theorem dX7_agrees_101 : decode cX7_agrees 101 = .ok (.invokestatic 130, 3) := by decide +kernel
theorem dX7_agrees_104 : decode cX7_agrees 104 = .ok (.invokevirtual 133, 3) := by decide +kernel
theorem dX7_agrees_107 : decode cX7_agrees 107 = .ok (.lstore 6, 2) := by decide +kernel
theorem dX7_agrees_109 : decode cX7_agrees 109 = .ok (.aload_n 0, 1) := by decide +kernel
theorem dX7_agrees_110 : decode cX7_agrees 110 = .ok (.getfield 29, 3) := by decide +kernel
theorem dX7_agrees_113 : decode cX7_agrees 113 = .ok (.aload_n 0, 1) := by decide +kernel
theorem dX7_agrees_114 : decode cX7_agrees 114 = .ok (.getfield 12, 3) := by decide +kernel
theorem dX7_agrees_117 : decode cX7_agrees 117 = .ok (.aload_n 0, 1) := by decide +kernel
theorem dX7_agrees_118 : decode cX7_agrees 118 = .ok (.getfield 22, 3) := by decide +kernel
theorem dX7_agrees_121 : decode cX7_agrees 121 = .ok (.iconst 0, 1) := by decide +kernel
theorem dX7_agrees_122 : decode cX7_agrees 122 = .ok (.invokevirtual 123, 3) := by decide +kernel
theorem dX7_agrees_125 : decode cX7_agrees 125 = .ok (.aload_n 0, 1) := by decide +kernel
theorem dX7_agrees_126 : decode cX7_agrees 126 = .ok (.iload_n 3, 1) := by decide +kernel
theorem dX7_agrees_127 : decode cX7_agrees 127 = .ok (.iload_n 1, 1) := by decide +kernel
theorem dX7_agrees_128 : decode cX7_agrees 128 = .ok (.iload 4, 2) := by decide +kernel
theorem dX7_agrees_130 : decode cX7_agrees 130 = .ok (.invokestatic 177, 3) := by decide +kernel
theorem dX7_agrees_133 : decode cX7_agrees 133 = .ok (.iload_n 2, 1) := by decide +kernel
theorem dX7_agrees_134 : decode cX7_agrees 134 = .ok (.iload 5, 2) := by decide +kernel
theorem dX7_agrees_136 : decode cX7_agrees 136 = .ok (.invokestatic 177, 3) := by decide +kernel
theorem dX7_agrees_139 : decode cX7_agrees 139 = .ok (.invokevirtual 180, 3) := by decide +kernel
theorem dX7_agrees_142 : decode cX7_agrees 142 = .ok (.ifCond .ne 6, 3) := by decide +kernel
theorem dX7_agrees_145 : decode cX7_agrees 145 = .ok (.bipush (-2), 2) := by decide +kernel
theorem dX7_agrees_147 : decode cX7_agrees 147 = .ok (.ireturn, 1) := by decide +kernel
theorem dX7_agrees_148 : decode cX7_agrees 148 = .ok (.aload_n 0, 1) := by decide +kernel
theorem dX7_agrees_149 : decode cX7_agrees 149 = .ok (.getfield 36, 3) := by decide +kernel
theorem dX7_agrees_152 : decode cX7_agrees 152 = .ok (.lload 6, 2) := by decide +kernel
theorem dX7_agrees_154 : decode cX7_agrees 154 = .ok (.invokevirtual 183, 3) := by decide +kernel
theorem dX7_agrees_157 : decode cX7_agrees 157 = .ok (.ifCond .eq 7, 3) := by decide +kernel
theorem dX7_agrees_160 : decode cX7_agrees 160 = .ok (.iconst 1, 1) := by decide +kernel
theorem dX7_agrees_161 : decode cX7_agrees 161 = .ok (.goto 4, 3) := by decide +kernel
theorem dX7_agrees_164 : decode cX7_agrees 164 = .ok (.iconst 0, 1) := by decide +kernel
theorem dX7_agrees_165 : decode cX7_agrees 165 = .ok (.ireturn, 1) := by decide +kernel
theorem mz_i_wsX7_alike_7 : (.code yX4_reckon cX4_reckon 7 (some .int) : Cond) ∈ wsX7_alike := mz_mt (mz_ml (mz_ml (mz_ml (mz_ml (mz_mt (mz_mt (mz_mt (mz_mt (mz_mt (mz_mt mz_mh))))))))))
theorem mz_i_wsX7_alike_30 : (.fieldLink RX2 15 "MadeItSo$Drawing" "children" "[I" : Cond) ∈ wsX7_alike := mz_mt (mz_ml (mz_ml (mz_ml (mz_mr (mz_ml (mz_mt (mz_mt (mz_mt (mz_mt (mz_mt mz_mh))))))))))
theorem mz_i_wsX7_alike_29 : (.fieldLink RX2 9 "MadeItSo$Drawing" "parents" "[I" : Cond) ∈ wsX7_alike := mz_mt (mz_ml (mz_ml (mz_ml (mz_mr (mz_ml (mz_mt (mz_mt (mz_mt (mz_mt mz_mh)))))))))
theorem mz_i_wsX7_alike_28 : (.code yX2_joinedTo cX2_joinedTo 2 (some .int) : Cond) ∈ wsX7_alike := mz_mt (mz_ml (mz_ml (mz_ml (mz_mr (mz_ml (mz_mt (mz_mt (mz_mt mz_mh))))))))
theorem mz_i_wsX7_alike_27 : (.selects RX2 yX2_joinedTo yX2_joinedTo : Cond) ∈ wsX7_alike := mz_mt (mz_ml (mz_ml (mz_ml (mz_mr (mz_ml (mz_mt (mz_mt mz_mh)))))))
theorem mz_i_wsX7_alike_26 : (.instanceMethod yX2_joinedTo : Cond) ∈ wsX7_alike := mz_mt (mz_ml (mz_ml (mz_ml (mz_mr (mz_ml (mz_mt mz_mh))))))
theorem mz_i_wsX7_alike_25 : (.methodLink RX4 56 yX2_joinedTo : Cond) ∈ wsX7_alike := mz_mt (mz_ml (mz_ml (mz_ml (mz_mr (mz_ml mz_mh)))))
theorem mz_i_wsX7_alike_24 : (.code yX7_inHeap cX7_inHeap 2 (some .boolean) : Cond) ∈ wsX7_alike := mz_mt (mz_ml (mz_ml (mz_ml (mz_ml (mz_mt (mz_mt (mz_mt (mz_mt (mz_mt (mz_mt (mz_mt (mz_mt (mz_mt (mz_mt (mz_mt (mz_mt (mz_mt (mz_mt (mz_mt (mz_mt (mz_mt (mz_mt (mz_mt (mz_mt (mz_mt (mz_mt (mz_mt mz_mh)))))))))))))))))))))))))))
theorem mz_i_wsX7_alike_23 : (.initialized RX7 : Cond) ∈ wsX7_alike := mz_mt (mz_ml (mz_ml (mz_ml (mz_ml (mz_mt (mz_mt (mz_mt (mz_mt (mz_mt (mz_mt (mz_mt (mz_mt (mz_mt (mz_mt (mz_mt (mz_mt (mz_mt (mz_mt (mz_mt (mz_mt (mz_mt (mz_mt (mz_mt (mz_mt (mz_mt (mz_mt mz_mh))))))))))))))))))))))))))
theorem mz_i_wsX7_alike_22 : (.static yX7_inHeap : Cond) ∈ wsX7_alike := mz_mt (mz_ml (mz_ml (mz_ml (mz_ml (mz_mt (mz_mt (mz_mt (mz_mt (mz_mt (mz_mt (mz_mt (mz_mt (mz_mt (mz_mt (mz_mt (mz_mt (mz_mt (mz_mt (mz_mt (mz_mt (mz_mt (mz_mt (mz_mt (mz_mt (mz_mt mz_mh)))))))))))))))))))))))))
theorem mz_i_wsX7_alike_21 : (.code yX2_size cX2_size 1 (some .int) : Cond) ∈ wsX7_alike := mz_mt (mz_ml (mz_ml (mz_ml (mz_ml (mz_mt (mz_mt (mz_mt (mz_mt (mz_mt (mz_mt (mz_mt (mz_mt (mz_mt (mz_mt (mz_mt (mz_mt (mz_mt (mz_mt (mz_mt (mz_mt (mz_mt (mz_mt (mz_mt (mz_mt mz_mh))))))))))))))))))))))))
theorem mz_i_wsX7_alike_20 : (.selects RX2 yX2_size yX2_size : Cond) ∈ wsX7_alike := mz_mt (mz_ml (mz_ml (mz_ml (mz_ml (mz_mt (mz_mt (mz_mt (mz_mt (mz_mt (mz_mt (mz_mt (mz_mt (mz_mt (mz_mt (mz_mt (mz_mt (mz_mt (mz_mt (mz_mt (mz_mt (mz_mt (mz_mt (mz_mt mz_mh)))))))))))))))))))))))
theorem mz_i_wsX7_alike_19 : (.instanceMethod yX2_size : Cond) ∈ wsX7_alike := mz_mt (mz_ml (mz_ml (mz_ml (mz_ml (mz_mt (mz_mt (mz_mt (mz_mt (mz_mt (mz_mt (mz_mt (mz_mt (mz_mt (mz_mt (mz_mt (mz_mt (mz_mt (mz_mt (mz_mt (mz_mt (mz_mt (mz_mt mz_mh))))))))))))))))))))))
theorem mz_i_wsX7_alike_18 : (.methodLink RX4 53 yX2_size : Cond) ∈ wsX7_alike := mz_mt (mz_ml (mz_ml (mz_ml (mz_ml (mz_mt (mz_mt (mz_mt (mz_mt (mz_mt (mz_mt (mz_mt (mz_mt (mz_mt (mz_mt (mz_mt (mz_mt (mz_mt (mz_mt (mz_mt (mz_mt (mz_mt mz_mh)))))))))))))))))))))
theorem mz_i_wsX7_alike_17 : (.code yX4_canBeLast cX4_canBeLast 4 (some .int) : Cond) ∈ wsX7_alike := mz_mt (mz_ml (mz_ml (mz_ml (mz_ml (mz_mt (mz_mt (mz_mt (mz_mt (mz_mt (mz_mt (mz_mt (mz_mt (mz_mt (mz_mt (mz_mt (mz_mt (mz_mt (mz_mt (mz_mt (mz_mt mz_mh))))))))))))))))))))
theorem mz_i_wsX7_alike_6 : (.initialized RX4 : Cond) ∈ wsX7_alike := mz_mt (mz_ml (mz_ml (mz_ml (mz_ml (mz_mt (mz_mt (mz_mt (mz_mt (mz_mt mz_mh)))))))))
theorem mz_i_wsX7_alike_16 : (.static yX4_canBeLast : Cond) ∈ wsX7_alike := mz_mt (mz_ml (mz_ml (mz_ml (mz_ml (mz_mt (mz_mt (mz_mt (mz_mt (mz_mt (mz_mt (mz_mt (mz_mt (mz_mt (mz_mt (mz_mt (mz_mt (mz_mt (mz_mt (mz_mt mz_mh)))))))))))))))))))
theorem mz_i_wsX7_alike_15 : (.methodLink RX4 21 yX4_canBeLast : Cond) ∈ wsX7_alike := mz_mt (mz_ml (mz_ml (mz_ml (mz_ml (mz_mt (mz_mt (mz_mt (mz_mt (mz_mt (mz_mt (mz_mt (mz_mt (mz_mt (mz_mt (mz_mt (mz_mt (mz_mt (mz_mt mz_mh))))))))))))))))))
theorem mz_i_wsX7_alike_14 : (.fieldLink RX2 18 "MadeItSo$Drawing" "things" "I" : Cond) ∈ wsX7_alike := mz_mt (mz_ml (mz_ml (mz_ml (mz_ml (mz_mt (mz_mt (mz_mt (mz_mt (mz_mt (mz_mt (mz_mt (mz_mt (mz_mt (mz_mt (mz_mt (mz_mt (mz_mt mz_mh)))))))))))))))))
theorem mz_i_wsX7_alike_13 : (.code yX2_everything cX2_everything 1 (some .int) : Cond) ∈ wsX7_alike := mz_mt (mz_ml (mz_ml (mz_ml (mz_ml (mz_mt (mz_mt (mz_mt (mz_mt (mz_mt (mz_mt (mz_mt (mz_mt (mz_mt (mz_mt (mz_mt (mz_mt mz_mh))))))))))))))))
theorem mz_i_wsX7_alike_12 : (.initialized RX2 : Cond) ∈ wsX7_alike := mz_mt (mz_ml (mz_ml (mz_ml (mz_ml (mz_mt (mz_mt (mz_mt (mz_mt (mz_mt (mz_mt (mz_mt (mz_mt (mz_mt (mz_mt (mz_mt mz_mh)))))))))))))))
theorem mz_i_wsX7_alike_11 : (.selects RX2 yX2_everything yX2_everything : Cond) ∈ wsX7_alike := mz_mt (mz_ml (mz_ml (mz_ml (mz_ml (mz_mt (mz_mt (mz_mt (mz_mt (mz_mt (mz_mt (mz_mt (mz_mt (mz_mt (mz_mt mz_mh))))))))))))))
theorem mz_i_wsX7_alike_10 : (.instanceMethod yX2_everything : Cond) ∈ wsX7_alike := mz_mt (mz_ml (mz_ml (mz_ml (mz_ml (mz_mt (mz_mt (mz_mt (mz_mt (mz_mt (mz_mt (mz_mt (mz_mt (mz_mt mz_mh)))))))))))))
theorem mz_i_wsX7_alike_9 : (.methodLink RX4 15 yX2_everything : Cond) ∈ wsX7_alike := mz_mt (mz_ml (mz_ml (mz_ml (mz_ml (mz_mt (mz_mt (mz_mt (mz_mt (mz_mt (mz_mt (mz_mt (mz_mt mz_mh))))))))))))
theorem mz_i_wsX7_alike_8 : (.fieldLink RX4 9 "MadeItSo$Lookalikes" "waysOf" "[I" : Cond) ∈ wsX7_alike := mz_mt (mz_ml (mz_ml (mz_ml (mz_ml (mz_mt (mz_mt (mz_mt (mz_mt (mz_mt (mz_mt (mz_mt mz_mh)))))))))))
theorem mz_i_wsX7_alike_54 : (.static yX7_partsOf : Cond) ∈ wsX7_alike := mz_mt (mz_ml (mz_ml (mz_ml (mz_mr (mz_mr (mz_mt (mz_mt (mz_mt (mz_mt (mz_mt mz_mh))))))))))
theorem mz_i_wsX7_alike_53 : (.code yX4_waysEndingIn cX4_waysEndingIn 9 (some .int) : Cond) ∈ wsX7_alike := mz_mt (mz_ml (mz_ml (mz_ml (mz_mr (mz_mr (mz_mt (mz_mt (mz_mt (mz_mt mz_mh)))))))))
theorem mz_i_wsX7_alike_52 : (.selects RX4 yX4_waysEndingIn yX4_waysEndingIn : Cond) ∈ wsX7_alike := mz_mt (mz_ml (mz_ml (mz_ml (mz_mr (mz_mr (mz_mt (mz_mt (mz_mt mz_mh))))))))
theorem mz_i_wsX7_alike_51 : (.instanceMethod yX4_waysEndingIn : Cond) ∈ wsX7_alike := mz_mt (mz_ml (mz_ml (mz_ml (mz_mr (mz_mr (mz_mt (mz_mt mz_mh)))))))
theorem mz_i_wsX7_alike_50 : (.methodLink RX4 33 yX4_waysEndingIn : Cond) ∈ wsX7_alike := mz_mt (mz_ml (mz_ml (mz_ml (mz_mr (mz_mr (mz_mt mz_mh))))))
theorem mz_i_wsX7_alike_49 : (.code yX7_bit cX7_bit 1 (some .int) : Cond) ∈ wsX7_alike := mz_mt (mz_ml (mz_ml (mz_ml (mz_mr (mz_mr mz_mh)))))
theorem mz_i_wsX7_alike_48 : (.static yX7_bit : Cond) ∈ wsX7_alike := mz_mt (mz_ml (mz_ml (mz_ml (mz_mr (mz_ml (mz_mt (mz_mt (mz_mt (mz_mt (mz_mt (mz_mt (mz_mt (mz_mt (mz_mt (mz_mt (mz_mt (mz_mt (mz_mt (mz_mt (mz_mt (mz_mt (mz_mt (mz_mt (mz_mt (mz_mt (mz_mt (mz_mt (mz_mt mz_mh))))))))))))))))))))))))))))
theorem mz_i_wsX7_alike_47 : (.methodLink RX2 30 yX2_joinedTo : Cond) ∈ wsX7_alike := mz_mt (mz_ml (mz_ml (mz_ml (mz_mr (mz_ml (mz_mt (mz_mt (mz_mt (mz_mt (mz_mt (mz_mt (mz_mt (mz_mt (mz_mt (mz_mt (mz_mt (mz_mt (mz_mt (mz_mt (mz_mt (mz_mt (mz_mt (mz_mt (mz_mt (mz_mt (mz_mt (mz_mt mz_mh)))))))))))))))))))))))))))
theorem mz_i_wsX7_alike_46 : (.code yX2_unjoinedWith cX2_unjoinedWith 3 (some .int) : Cond) ∈ wsX7_alike := mz_mt (mz_ml (mz_ml (mz_ml (mz_mr (mz_ml (mz_mt (mz_mt (mz_mt (mz_mt (mz_mt (mz_mt (mz_mt (mz_mt (mz_mt (mz_mt (mz_mt (mz_mt (mz_mt (mz_mt (mz_mt (mz_mt (mz_mt (mz_mt (mz_mt (mz_mt (mz_mt mz_mh))))))))))))))))))))))))))
theorem mz_i_wsX7_alike_45 : (.selects RX2 yX2_unjoinedWith yX2_unjoinedWith : Cond) ∈ wsX7_alike := mz_mt (mz_ml (mz_ml (mz_ml (mz_mr (mz_ml (mz_mt (mz_mt (mz_mt (mz_mt (mz_mt (mz_mt (mz_mt (mz_mt (mz_mt (mz_mt (mz_mt (mz_mt (mz_mt (mz_mt (mz_mt (mz_mt (mz_mt (mz_mt (mz_mt (mz_mt mz_mh)))))))))))))))))))))))))
theorem mz_i_wsX7_alike_44 : (.instanceMethod yX2_unjoinedWith : Cond) ∈ wsX7_alike := mz_mt (mz_ml (mz_ml (mz_ml (mz_mr (mz_ml (mz_mt (mz_mt (mz_mt (mz_mt (mz_mt (mz_mt (mz_mt (mz_mt (mz_mt (mz_mt (mz_mt (mz_mt (mz_mt (mz_mt (mz_mt (mz_mt (mz_mt (mz_mt (mz_mt mz_mh))))))))))))))))))))))))
theorem mz_i_wsX7_alike_43 : (.methodLink RX2 61 yX2_unjoinedWith : Cond) ∈ wsX7_alike := mz_mt (mz_ml (mz_ml (mz_ml (mz_mr (mz_ml (mz_mt (mz_mt (mz_mt (mz_mt (mz_mt (mz_mt (mz_mt (mz_mt (mz_mt (mz_mt (mz_mt (mz_mt (mz_mt (mz_mt (mz_mt (mz_mt (mz_mt (mz_mt mz_mh)))))))))))))))))))))))
theorem mz_i_wsX7_alike_42 : (.code yX2_parentsOf cX2_parentsOf 2 (some .int) : Cond) ∈ wsX7_alike := mz_mt (mz_ml (mz_ml (mz_ml (mz_mr (mz_ml (mz_mt (mz_mt (mz_mt (mz_mt (mz_mt (mz_mt (mz_mt (mz_mt (mz_mt (mz_mt (mz_mt (mz_mt (mz_mt (mz_mt (mz_mt (mz_mt (mz_mt mz_mh))))))))))))))))))))))
theorem mz_i_wsX7_alike_41 : (.selects RX2 yX2_parentsOf yX2_parentsOf : Cond) ∈ wsX7_alike := mz_mt (mz_ml (mz_ml (mz_ml (mz_mr (mz_ml (mz_mt (mz_mt (mz_mt (mz_mt (mz_mt (mz_mt (mz_mt (mz_mt (mz_mt (mz_mt (mz_mt (mz_mt (mz_mt (mz_mt (mz_mt (mz_mt mz_mh)))))))))))))))))))))
theorem mz_i_wsX7_alike_40 : (.instanceMethod yX2_parentsOf : Cond) ∈ wsX7_alike := mz_mt (mz_ml (mz_ml (mz_ml (mz_mr (mz_ml (mz_mt (mz_mt (mz_mt (mz_mt (mz_mt (mz_mt (mz_mt (mz_mt (mz_mt (mz_mt (mz_mt (mz_mt (mz_mt (mz_mt (mz_mt mz_mh))))))))))))))))))))
theorem mz_i_wsX7_alike_39 : (.methodLink RX2 58 yX2_parentsOf : Cond) ∈ wsX7_alike := mz_mt (mz_ml (mz_ml (mz_ml (mz_mr (mz_ml (mz_mt (mz_mt (mz_mt (mz_mt (mz_mt (mz_mt (mz_mt (mz_mt (mz_mt (mz_mt (mz_mt (mz_mt (mz_mt (mz_mt mz_mh)))))))))))))))))))
theorem mz_i_wsX7_alike_38 : (.code yX2_sameThirds cX2_sameThirds 5 (some .boolean) : Cond) ∈ wsX7_alike := mz_mt (mz_ml (mz_ml (mz_ml (mz_mr (mz_ml (mz_mt (mz_mt (mz_mt (mz_mt (mz_mt (mz_mt (mz_mt (mz_mt (mz_mt (mz_mt (mz_mt (mz_mt (mz_mt mz_mh))))))))))))))))))
theorem mz_i_wsX7_alike_37 : (.selects RX2 yX2_sameThirds yX2_sameThirds : Cond) ∈ wsX7_alike := mz_mt (mz_ml (mz_ml (mz_ml (mz_mr (mz_ml (mz_mt (mz_mt (mz_mt (mz_mt (mz_mt (mz_mt (mz_mt (mz_mt (mz_mt (mz_mt (mz_mt (mz_mt mz_mh)))))))))))))))))
theorem mz_i_wsX7_alike_36 : (.instanceMethod yX2_sameThirds : Cond) ∈ wsX7_alike := mz_mt (mz_ml (mz_ml (mz_ml (mz_mr (mz_ml (mz_mt (mz_mt (mz_mt (mz_mt (mz_mt (mz_mt (mz_mt (mz_mt (mz_mt (mz_mt (mz_mt mz_mh))))))))))))))))
theorem mz_i_wsX7_alike_35 : (.methodLink RX4 59 yX2_sameThirds : Cond) ∈ wsX7_alike := mz_mt (mz_ml (mz_ml (mz_ml (mz_mr (mz_ml (mz_mt (mz_mt (mz_mt (mz_mt (mz_mt (mz_mt (mz_mt (mz_mt (mz_mt (mz_mt mz_mh)))))))))))))))
theorem mz_i_wsX7_alike_34 : (.code yX2_has cX2_has 2 (some .boolean) : Cond) ∈ wsX7_alike := mz_mt (mz_ml (mz_ml (mz_ml (mz_mr (mz_ml (mz_mt (mz_mt (mz_mt (mz_mt (mz_mt (mz_mt (mz_mt (mz_mt (mz_mt mz_mh))))))))))))))
theorem mz_i_wsX7_alike_33 : (.selects RX2 yX2_has yX2_has : Cond) ∈ wsX7_alike := mz_mt (mz_ml (mz_ml (mz_ml (mz_mr (mz_ml (mz_mt (mz_mt (mz_mt (mz_mt (mz_mt (mz_mt (mz_mt (mz_mt mz_mh)))))))))))))
theorem mz_i_wsX7_alike_32 : (.instanceMethod yX2_has : Cond) ∈ wsX7_alike := mz_mt (mz_ml (mz_ml (mz_ml (mz_mr (mz_ml (mz_mt (mz_mt (mz_mt (mz_mt (mz_mt (mz_mt (mz_mt mz_mh))))))))))))
theorem mz_i_wsX7_alike_31 : (.methodLink RX2 22 yX2_has : Cond) ∈ wsX7_alike := mz_mt (mz_ml (mz_ml (mz_ml (mz_mr (mz_ml (mz_mt (mz_mt (mz_mt (mz_mt (mz_mt (mz_mt mz_mh)))))))))))
theorem mz_i_wsX7_alike_69 : (.methodLink RX4 48 yJ6_bitCount_0f7a4 : Cond) ∈ wsX7_alike := mz_mt (mz_ml (mz_ml (mz_ml (mz_mr (mz_mr (mz_mt (mz_mt (mz_mt (mz_mt (mz_mt (mz_mt (mz_mt (mz_mt (mz_mt (mz_mt (mz_mt (mz_mt (mz_mt (mz_mt (mz_mt (mz_mt (mz_mt (mz_mt (mz_mt (mz_mt mz_mh)))))))))))))))))))))))))
theorem mz_i_wsX7_alike_68 : (.code yX2_apart cX2_apart 3 (some .boolean) : Cond) ∈ wsX7_alike := mz_mt (mz_ml (mz_ml (mz_ml (mz_mr (mz_mr (mz_mt (mz_mt (mz_mt (mz_mt (mz_mt (mz_mt (mz_mt (mz_mt (mz_mt (mz_mt (mz_mt (mz_mt (mz_mt (mz_mt (mz_mt (mz_mt (mz_mt (mz_mt (mz_mt mz_mh))))))))))))))))))))))))
theorem mz_i_wsX7_alike_67 : (.selects RX2 yX2_apart yX2_apart : Cond) ∈ wsX7_alike := mz_mt (mz_ml (mz_ml (mz_ml (mz_mr (mz_mr (mz_mt (mz_mt (mz_mt (mz_mt (mz_mt (mz_mt (mz_mt (mz_mt (mz_mt (mz_mt (mz_mt (mz_mt (mz_mt (mz_mt (mz_mt (mz_mt (mz_mt (mz_mt mz_mh)))))))))))))))))))))))
theorem mz_i_wsX7_alike_66 : (.instanceMethod yX2_apart : Cond) ∈ wsX7_alike := mz_mt (mz_ml (mz_ml (mz_ml (mz_mr (mz_mr (mz_mt (mz_mt (mz_mt (mz_mt (mz_mt (mz_mt (mz_mt (mz_mt (mz_mt (mz_mt (mz_mt (mz_mt (mz_mt (mz_mt (mz_mt (mz_mt (mz_mt mz_mh))))))))))))))))))))))
theorem mz_i_wsX7_alike_65 : (.methodLink RX4 44 yX2_apart : Cond) ∈ wsX7_alike := mz_mt (mz_ml (mz_ml (mz_ml (mz_mr (mz_mr (mz_mt (mz_mt (mz_mt (mz_mt (mz_mt (mz_mt (mz_mt (mz_mt (mz_mt (mz_mt (mz_mt (mz_mt (mz_mt (mz_mt (mz_mt (mz_mt mz_mh)))))))))))))))))))))
theorem mz_i_wsX7_alike_64 : (.code yX7_nextPart cX7_nextPart 2 (some .int) : Cond) ∈ wsX7_alike := mz_mt (mz_ml (mz_ml (mz_ml (mz_mr (mz_mr (mz_mt (mz_mt (mz_mt (mz_mt (mz_mt (mz_mt (mz_mt (mz_mt (mz_mt (mz_mt (mz_mt (mz_mt (mz_mt (mz_mt (mz_mt mz_mh))))))))))))))))))))
theorem mz_i_wsX7_alike_63 : (.static yX7_nextPart : Cond) ∈ wsX7_alike := mz_mt (mz_ml (mz_ml (mz_ml (mz_mr (mz_mr (mz_mt (mz_mt (mz_mt (mz_mt (mz_mt (mz_mt (mz_mt (mz_mt (mz_mt (mz_mt (mz_mt (mz_mt (mz_mt (mz_mt mz_mh)))))))))))))))))))
theorem mz_i_wsX7_alike_62 : (.constant RJ6 267 (252645135) : Cond) ∈ wsX7_alike := mz_mt (mz_ml (mz_ml (mz_ml (mz_mr (mz_mr (mz_mt (mz_mt (mz_mt (mz_mt (mz_mt (mz_mt (mz_mt (mz_mt (mz_mt (mz_mt (mz_mt (mz_mt (mz_mt mz_mh))))))))))))))))))
theorem mz_i_wsX7_alike_61 : (.constant RJ6 266 (858993459) : Cond) ∈ wsX7_alike := mz_mt (mz_ml (mz_ml (mz_ml (mz_mr (mz_mr (mz_mt (mz_mt (mz_mt (mz_mt (mz_mt (mz_mt (mz_mt (mz_mt (mz_mt (mz_mt (mz_mt (mz_mt mz_mh)))))))))))))))))
theorem mz_i_wsX7_alike_60 : (.constant RJ6 265 (1431655765) : Cond) ∈ wsX7_alike := mz_mt (mz_ml (mz_ml (mz_ml (mz_mr (mz_mr (mz_mt (mz_mt (mz_mt (mz_mt (mz_mt (mz_mt (mz_mt (mz_mt (mz_mt (mz_mt (mz_mt mz_mh))))))))))))))))
theorem mz_i_wsX7_alike_59 : (.code yJ6_bitCount_0f7a4 cJ6_bitCount_0f7a4 1 (some .int) : Cond) ∈ wsX7_alike := mz_mt (mz_ml (mz_ml (mz_ml (mz_mr (mz_mr (mz_mt (mz_mt (mz_mt (mz_mt (mz_mt (mz_mt (mz_mt (mz_mt (mz_mt (mz_mt mz_mh)))))))))))))))
theorem mz_i_wsX7_alike_58 : (.initialized RJ6 : Cond) ∈ wsX7_alike := mz_mt (mz_ml (mz_ml (mz_ml (mz_mr (mz_mr (mz_mt (mz_mt (mz_mt (mz_mt (mz_mt (mz_mt (mz_mt (mz_mt (mz_mt mz_mh))))))))))))))
theorem mz_i_wsX7_alike_57 : (.static yJ6_bitCount_0f7a4 : Cond) ∈ wsX7_alike := mz_mt (mz_ml (mz_ml (mz_ml (mz_mr (mz_mr (mz_mt (mz_mt (mz_mt (mz_mt (mz_mt (mz_mt (mz_mt (mz_mt mz_mh)))))))))))))
theorem mz_i_wsX7_alike_56 : (.methodLink RX7 239 yJ6_bitCount_0f7a4 : Cond) ∈ wsX7_alike := mz_mt (mz_ml (mz_ml (mz_ml (mz_mr (mz_mr (mz_mt (mz_mt (mz_mt (mz_mt (mz_mt (mz_mt (mz_mt mz_mh))))))))))))
theorem mz_i_wsX7_alike_55 : (.code yX7_partsOf cX7_partsOf 1 (some .int) : Cond) ∈ wsX7_alike := mz_mt (mz_ml (mz_ml (mz_ml (mz_mr (mz_mr (mz_mt (mz_mt (mz_mt (mz_mt (mz_mt (mz_mt mz_mh)))))))))))
theorem mz_f_wsX7_alike_wsX40 : ∀ w ∈ wsX40, w ∈ wsX7_alike := fun _ h => mz_mt (mz_ml (mz_mr h))
theorem mz_f_wsX7_alike_wsX20 : ∀ w ∈ wsX20, w ∈ wsX7_alike := fun _ h => mz_mt (mz_mr h)
set_option maxRecDepth 20000 in
theorem ggX7_alike_X4_reckon : GoodIn wsX7_alike wsX4_reckon := goodIn_sub (mz_fc mz_i_wsX7_alike_7 (mz_fa (mz_fa (mz_fa (mz_fc mz_i_wsX7_alike_8 (mz_fc mz_i_wsX7_alike_9 (mz_fc mz_i_wsX7_alike_10 (mz_fc mz_i_wsX7_alike_11 (mz_fc mz_i_wsX7_alike_12 (mz_fc mz_i_wsX7_alike_13 (mz_fc mz_i_wsX7_alike_14 (mz_fc mz_i_wsX7_alike_15 (mz_fc mz_i_wsX7_alike_16 (mz_fc mz_i_wsX7_alike_6 (mz_fc mz_i_wsX7_alike_17 (mz_fc mz_i_wsX7_alike_18 (mz_fc mz_i_wsX7_alike_19 (mz_fc mz_i_wsX7_alike_20 (mz_fc mz_i_wsX7_alike_21 (mz_fc mz_i_wsX7_alike_22 (mz_fc mz_i_wsX7_alike_23 (mz_fc mz_i_wsX7_alike_24 (mz_fc mz_i_wsX7_alike_25 (mz_fc mz_i_wsX7_alike_26 (mz_fc mz_i_wsX7_alike_27 (mz_fc mz_i_wsX7_alike_28 (mz_fc mz_i_wsX7_alike_29 (mz_fc mz_i_wsX7_alike_30 mz_fn)))))))))))))))))))))))) (mz_fa (mz_fc mz_i_wsX7_alike_31 (mz_fc mz_i_wsX7_alike_32 (mz_fc mz_i_wsX7_alike_33 (mz_fc mz_i_wsX7_alike_34 (mz_fc mz_i_wsX7_alike_35 (mz_fc mz_i_wsX7_alike_36 (mz_fc mz_i_wsX7_alike_37 (mz_fc mz_i_wsX7_alike_38 (mz_fc mz_i_wsX7_alike_39 (mz_fc mz_i_wsX7_alike_40 (mz_fc mz_i_wsX7_alike_41 (mz_fc mz_i_wsX7_alike_42 (mz_fc mz_i_wsX7_alike_43 (mz_fc mz_i_wsX7_alike_44 (mz_fc mz_i_wsX7_alike_45 (mz_fc mz_i_wsX7_alike_46 (mz_fc mz_i_wsX7_alike_47 (mz_fc mz_i_wsX7_alike_48 (mz_fc mz_i_wsX7_alike_49 (mz_fc mz_i_wsX7_alike_50 (mz_fc mz_i_wsX7_alike_51 (mz_fc mz_i_wsX7_alike_52 (mz_fc mz_i_wsX7_alike_53 (mz_fc mz_i_wsX7_alike_54 mz_fn)))))))))))))))))))))))) (mz_fc mz_i_wsX7_alike_55 (mz_fc mz_i_wsX7_alike_56 (mz_fc mz_i_wsX7_alike_57 (mz_fc mz_i_wsX7_alike_58 (mz_fc mz_i_wsX7_alike_59 (mz_fc mz_i_wsX7_alike_60 (mz_fc mz_i_wsX7_alike_61 (mz_fc mz_i_wsX7_alike_62 (mz_fc mz_i_wsX7_alike_63 (mz_fc mz_i_wsX7_alike_64 (mz_fc mz_i_wsX7_alike_65 (mz_fc mz_i_wsX7_alike_66 (mz_fc mz_i_wsX7_alike_67 (mz_fc mz_i_wsX7_alike_68 (mz_fc mz_i_wsX7_alike_69 mz_fn))))))))))))))))) (mz_f_wsX7_alike_wsX40)) (mz_f_wsX7_alike_wsX20))) (by decide +kernel)
theorem mz_i_wsX7_alike_5 : (.selects RX4 yX4_reckon yX4_reckon : Cond) ∈ wsX7_alike := mz_mt (mz_ml (mz_ml (mz_ml (mz_ml (mz_mt (mz_mt (mz_mt (mz_mt mz_mh))))))))
theorem mz_i_wsX7_alike_4 : (.instanceMethod yX4_reckon : Cond) ∈ wsX7_alike := mz_mt (mz_ml (mz_ml (mz_ml (mz_ml (mz_mt (mz_mt (mz_mt mz_mh)))))))
theorem mz_i_wsX7_alike_3 : (.methodLink RX7 187 yX4_reckon : Cond) ∈ wsX7_alike := mz_mt (mz_ml (mz_ml (mz_ml (mz_ml (mz_mt (mz_mt mz_mh))))))
set_option maxRecDepth 20000 in
theorem gX7_alike_X4_reckon : GoodIn wsX7_alike (wsV RX7 187 RX4 yX4_reckon wsX4_reckon) := goodIn_app (goodIn_sub (mz_fc mz_i_wsX7_alike_3 (mz_fc mz_i_wsX7_alike_4 (mz_fc mz_i_wsX7_alike_5 (mz_fc mz_i_wsX7_alike_6 mz_fn)))) (by decide +kernel)) ggX7_alike_X4_reckon
theorem dX7_alike_0 : decode cX7_alike 0 = .ok (.aload_n 0, 1) := by decide +kernel
theorem dX7_alike_1 : decode cX7_alike 1 = .ok (.getfield 50, 3) := by decide +kernel
theorem dX7_alike_4 : decode cX7_alike 4 = .ok (.aload_n 0, 1) := by decide +kernel
theorem dX7_alike_5 : decode cX7_alike 5 = .ok (.getfield 12, 3) := by decide +kernel
theorem dX7_alike_8 : decode cX7_alike 8 = .ok (.iconst (-1), 1) := by decide +kernel
theorem dX7_alike_9 : decode cX7_alike 9 = .ok (.iconst (-1), 1) := by decide +kernel
theorem dX7_alike_10 : decode cX7_alike 10 = .ok (.invokevirtual 187, 3) := by decide +kernel
theorem dX7_alike_13 : decode cX7_alike 13 = .ok (.ireturn, 1) := by decide +kernel
theorem mz_i_wsX7_fixed_7 : (.code yX2_leads cX2_leads 3 (some .boolean) : Cond) ∈ wsX7_fixed := mz_mt (mz_ml (mz_ml (mz_ml (mz_ml (mz_mt (mz_mt (mz_mt (mz_mt (mz_mt (mz_mt mz_mh))))))))))
theorem mz_i_wsX7_fixed_16 : (.code yX7_inHeap cX7_inHeap 2 (some .boolean) : Cond) ∈ wsX7_fixed := mz_mt (mz_ml (mz_ml (mz_ml (mz_ml (mz_mt (mz_mt (mz_mt (mz_mt (mz_mt (mz_mt (mz_mt (mz_mt (mz_mt (mz_mt (mz_mt (mz_mt (mz_mt (mz_mt (mz_mt mz_mh)))))))))))))))))))
theorem mz_i_wsX7_fixed_15 : (.initialized RX7 : Cond) ∈ wsX7_fixed := mz_mt (mz_ml (mz_ml (mz_ml (mz_ml (mz_mt (mz_mt (mz_mt (mz_mt (mz_mt (mz_mt (mz_mt (mz_mt (mz_mt (mz_mt (mz_mt (mz_mt (mz_mt (mz_mt mz_mh))))))))))))))))))
theorem mz_i_wsX7_fixed_14 : (.static yX7_inHeap : Cond) ∈ wsX7_fixed := mz_mt (mz_ml (mz_ml (mz_ml (mz_ml (mz_mt (mz_mt (mz_mt (mz_mt (mz_mt (mz_mt (mz_mt (mz_mt (mz_mt (mz_mt (mz_mt (mz_mt (mz_mt mz_mh)))))))))))))))))
theorem mz_i_wsX7_fixed_13 : (.fieldLink RX2 18 "MadeItSo$Drawing" "things" "I" : Cond) ∈ wsX7_fixed := mz_mt (mz_ml (mz_ml (mz_ml (mz_ml (mz_mt (mz_mt (mz_mt (mz_mt (mz_mt (mz_mt (mz_mt (mz_mt (mz_mt (mz_mt (mz_mt (mz_mt mz_mh))))))))))))))))
theorem mz_i_wsX7_fixed_12 : (.code yX2_has cX2_has 2 (some .boolean) : Cond) ∈ wsX7_fixed := mz_mt (mz_ml (mz_ml (mz_ml (mz_ml (mz_mt (mz_mt (mz_mt (mz_mt (mz_mt (mz_mt (mz_mt (mz_mt (mz_mt (mz_mt (mz_mt mz_mh)))))))))))))))
theorem mz_i_wsX7_fixed_6 : (.initialized RX2 : Cond) ∈ wsX7_fixed := mz_mt (mz_ml (mz_ml (mz_ml (mz_ml (mz_mt (mz_mt (mz_mt (mz_mt (mz_mt mz_mh)))))))))
theorem mz_i_wsX7_fixed_11 : (.selects RX2 yX2_has yX2_has : Cond) ∈ wsX7_fixed := mz_mt (mz_ml (mz_ml (mz_ml (mz_ml (mz_mt (mz_mt (mz_mt (mz_mt (mz_mt (mz_mt (mz_mt (mz_mt (mz_mt (mz_mt mz_mh))))))))))))))
theorem mz_i_wsX7_fixed_10 : (.instanceMethod yX2_has : Cond) ∈ wsX7_fixed := mz_mt (mz_ml (mz_ml (mz_ml (mz_ml (mz_mt (mz_mt (mz_mt (mz_mt (mz_mt (mz_mt (mz_mt (mz_mt (mz_mt mz_mh)))))))))))))
theorem mz_i_wsX7_fixed_9 : (.methodLink RX2 22 yX2_has : Cond) ∈ wsX7_fixed := mz_mt (mz_ml (mz_ml (mz_ml (mz_ml (mz_mt (mz_mt (mz_mt (mz_mt (mz_mt (mz_mt (mz_mt (mz_mt mz_mh))))))))))))
theorem mz_i_wsX7_fixed_8 : (.fieldLink RX2 15 "MadeItSo$Drawing" "children" "[I" : Cond) ∈ wsX7_fixed := mz_mt (mz_ml (mz_ml (mz_ml (mz_ml (mz_mt (mz_mt (mz_mt (mz_mt (mz_mt (mz_mt (mz_mt mz_mh)))))))))))
theorem mz_f_wsX7_fixed_wsX20 : ∀ w ∈ wsX20, w ∈ wsX7_fixed := fun _ h => mz_mt (mz_ml (mz_mr h))
set_option maxRecDepth 20000 in
theorem ggX7_fixed_X2_leads : GoodIn wsX7_fixed wsX2_leads := goodIn_sub (mz_fc mz_i_wsX7_fixed_7 (mz_fa (mz_fc mz_i_wsX7_fixed_8 (mz_fc mz_i_wsX7_fixed_9 (mz_fc mz_i_wsX7_fixed_10 (mz_fc mz_i_wsX7_fixed_11 (mz_fc mz_i_wsX7_fixed_6 (mz_fc mz_i_wsX7_fixed_12 (mz_fc mz_i_wsX7_fixed_13 (mz_fc mz_i_wsX7_fixed_14 (mz_fc mz_i_wsX7_fixed_15 (mz_fc mz_i_wsX7_fixed_16 mz_fn)))))))))) (mz_f_wsX7_fixed_wsX20))) (by decide +kernel)
theorem mz_i_wsX7_fixed_5 : (.selects RX2 yX2_leads yX2_leads : Cond) ∈ wsX7_fixed := mz_mt (mz_ml (mz_ml (mz_ml (mz_ml (mz_mt (mz_mt (mz_mt (mz_mt mz_mh))))))))
theorem mz_i_wsX7_fixed_4 : (.instanceMethod yX2_leads : Cond) ∈ wsX7_fixed := mz_mt (mz_ml (mz_ml (mz_ml (mz_ml (mz_mt (mz_mt (mz_mt mz_mh)))))))
theorem mz_i_wsX7_fixed_3 : (.methodLink RX7 89 yX2_leads : Cond) ∈ wsX7_fixed := mz_mt (mz_ml (mz_ml (mz_ml (mz_ml (mz_mt (mz_mt mz_mh))))))
set_option maxRecDepth 20000 in
theorem gX7_fixed_X2_leads : GoodIn wsX7_fixed (wsV RX7 89 RX2 yX2_leads wsX2_leads) := goodIn_app (goodIn_sub (mz_fc mz_i_wsX7_fixed_3 (mz_fc mz_i_wsX7_fixed_4 (mz_fc mz_i_wsX7_fixed_5 (mz_fc mz_i_wsX7_fixed_6 mz_fn)))) (by decide +kernel)) ggX7_fixed_X2_leads
theorem mz_i_wsX7_fixed_21 : (.code yX4_reckon cX4_reckon 7 (some .int) : Cond) ∈ wsX7_fixed := mz_mt (mz_ml (mz_ml (mz_ml (mz_ml (mz_mt (mz_mt (mz_mt (mz_mt (mz_mt (mz_mt (mz_mt (mz_mt (mz_mt (mz_mt (mz_mt (mz_mt (mz_mt (mz_mt (mz_mt (mz_mt (mz_mt (mz_mt (mz_mt (mz_mt mz_mh))))))))))))))))))))))))
theorem mz_i_wsX7_fixed_38 : (.fieldLink RX2 9 "MadeItSo$Drawing" "parents" "[I" : Cond) ∈ wsX7_fixed := mz_mt (mz_ml (mz_ml (mz_ml (mz_mr (mz_ml (mz_mt (mz_mt (mz_mt (mz_mt (mz_mt (mz_mt (mz_mt (mz_mt (mz_mt (mz_mt (mz_mt (mz_mt (mz_mt mz_mh))))))))))))))))))
theorem mz_i_wsX7_fixed_37 : (.code yX2_joinedTo cX2_joinedTo 2 (some .int) : Cond) ∈ wsX7_fixed := mz_mt (mz_ml (mz_ml (mz_ml (mz_mr (mz_ml (mz_mt (mz_mt (mz_mt (mz_mt (mz_mt (mz_mt (mz_mt (mz_mt (mz_mt (mz_mt (mz_mt (mz_mt mz_mh)))))))))))))))))
theorem mz_i_wsX7_fixed_36 : (.selects RX2 yX2_joinedTo yX2_joinedTo : Cond) ∈ wsX7_fixed := mz_mt (mz_ml (mz_ml (mz_ml (mz_mr (mz_ml (mz_mt (mz_mt (mz_mt (mz_mt (mz_mt (mz_mt (mz_mt (mz_mt (mz_mt (mz_mt (mz_mt mz_mh))))))))))))))))
theorem mz_i_wsX7_fixed_35 : (.instanceMethod yX2_joinedTo : Cond) ∈ wsX7_fixed := mz_mt (mz_ml (mz_ml (mz_ml (mz_mr (mz_ml (mz_mt (mz_mt (mz_mt (mz_mt (mz_mt (mz_mt (mz_mt (mz_mt (mz_mt (mz_mt mz_mh)))))))))))))))
theorem mz_i_wsX7_fixed_34 : (.methodLink RX4 56 yX2_joinedTo : Cond) ∈ wsX7_fixed := mz_mt (mz_ml (mz_ml (mz_ml (mz_mr (mz_ml (mz_mt (mz_mt (mz_mt (mz_mt (mz_mt (mz_mt (mz_mt (mz_mt (mz_mt mz_mh))))))))))))))
theorem mz_i_wsX7_fixed_33 : (.code yX2_size cX2_size 1 (some .int) : Cond) ∈ wsX7_fixed := mz_mt (mz_ml (mz_ml (mz_ml (mz_mr (mz_ml (mz_mt (mz_mt (mz_mt (mz_mt (mz_mt (mz_mt (mz_mt (mz_mt mz_mh)))))))))))))
theorem mz_i_wsX7_fixed_32 : (.selects RX2 yX2_size yX2_size : Cond) ∈ wsX7_fixed := mz_mt (mz_ml (mz_ml (mz_ml (mz_mr (mz_ml (mz_mt (mz_mt (mz_mt (mz_mt (mz_mt (mz_mt (mz_mt mz_mh))))))))))))
theorem mz_i_wsX7_fixed_31 : (.instanceMethod yX2_size : Cond) ∈ wsX7_fixed := mz_mt (mz_ml (mz_ml (mz_ml (mz_mr (mz_ml (mz_mt (mz_mt (mz_mt (mz_mt (mz_mt (mz_mt mz_mh)))))))))))
theorem mz_i_wsX7_fixed_30 : (.methodLink RX4 53 yX2_size : Cond) ∈ wsX7_fixed := mz_mt (mz_ml (mz_ml (mz_ml (mz_mr (mz_ml (mz_mt (mz_mt (mz_mt (mz_mt (mz_mt mz_mh))))))))))
theorem mz_i_wsX7_fixed_29 : (.code yX4_canBeLast cX4_canBeLast 4 (some .int) : Cond) ∈ wsX7_fixed := mz_mt (mz_ml (mz_ml (mz_ml (mz_mr (mz_ml (mz_mt (mz_mt (mz_mt (mz_mt mz_mh)))))))))
theorem mz_i_wsX7_fixed_20 : (.initialized RX4 : Cond) ∈ wsX7_fixed := mz_mt (mz_ml (mz_ml (mz_ml (mz_ml (mz_mt (mz_mt (mz_mt (mz_mt (mz_mt (mz_mt (mz_mt (mz_mt (mz_mt (mz_mt (mz_mt (mz_mt (mz_mt (mz_mt (mz_mt (mz_mt (mz_mt (mz_mt (mz_mt mz_mh)))))))))))))))))))))))
theorem mz_i_wsX7_fixed_28 : (.static yX4_canBeLast : Cond) ∈ wsX7_fixed := mz_mt (mz_ml (mz_ml (mz_ml (mz_mr (mz_ml (mz_mt (mz_mt (mz_mt mz_mh))))))))
theorem mz_i_wsX7_fixed_27 : (.methodLink RX4 21 yX4_canBeLast : Cond) ∈ wsX7_fixed := mz_mt (mz_ml (mz_ml (mz_ml (mz_mr (mz_ml (mz_mt (mz_mt mz_mh)))))))
theorem mz_i_wsX7_fixed_26 : (.code yX2_everything cX2_everything 1 (some .int) : Cond) ∈ wsX7_fixed := mz_mt (mz_ml (mz_ml (mz_ml (mz_mr (mz_ml (mz_mt mz_mh))))))
theorem mz_i_wsX7_fixed_25 : (.selects RX2 yX2_everything yX2_everything : Cond) ∈ wsX7_fixed := mz_mt (mz_ml (mz_ml (mz_ml (mz_mr (mz_ml mz_mh)))))
theorem mz_i_wsX7_fixed_24 : (.instanceMethod yX2_everything : Cond) ∈ wsX7_fixed := mz_mt (mz_ml (mz_ml (mz_ml (mz_ml (mz_mt (mz_mt (mz_mt (mz_mt (mz_mt (mz_mt (mz_mt (mz_mt (mz_mt (mz_mt (mz_mt (mz_mt (mz_mt (mz_mt (mz_mt (mz_mt (mz_mt (mz_mt (mz_mt (mz_mt (mz_mt (mz_mt (mz_mt mz_mh)))))))))))))))))))))))))))
theorem mz_i_wsX7_fixed_23 : (.methodLink RX4 15 yX2_everything : Cond) ∈ wsX7_fixed := mz_mt (mz_ml (mz_ml (mz_ml (mz_ml (mz_mt (mz_mt (mz_mt (mz_mt (mz_mt (mz_mt (mz_mt (mz_mt (mz_mt (mz_mt (mz_mt (mz_mt (mz_mt (mz_mt (mz_mt (mz_mt (mz_mt (mz_mt (mz_mt (mz_mt (mz_mt (mz_mt mz_mh))))))))))))))))))))))))))
theorem mz_i_wsX7_fixed_22 : (.fieldLink RX4 9 "MadeItSo$Lookalikes" "waysOf" "[I" : Cond) ∈ wsX7_fixed := mz_mt (mz_ml (mz_ml (mz_ml (mz_ml (mz_mt (mz_mt (mz_mt (mz_mt (mz_mt (mz_mt (mz_mt (mz_mt (mz_mt (mz_mt (mz_mt (mz_mt (mz_mt (mz_mt (mz_mt (mz_mt (mz_mt (mz_mt (mz_mt (mz_mt (mz_mt mz_mh)))))))))))))))))))))))))
theorem mz_i_wsX7_fixed_58 : (.static yX7_partsOf : Cond) ∈ wsX7_fixed := mz_mt (mz_ml (mz_ml (mz_ml (mz_mr (mz_mr (mz_ml (mz_mt (mz_mt (mz_mt (mz_mt (mz_mt (mz_mt (mz_mt (mz_mt (mz_mt mz_mh)))))))))))))))
theorem mz_i_wsX7_fixed_57 : (.code yX4_waysEndingIn cX4_waysEndingIn 9 (some .int) : Cond) ∈ wsX7_fixed := mz_mt (mz_ml (mz_ml (mz_ml (mz_mr (mz_mr (mz_ml (mz_mt (mz_mt (mz_mt (mz_mt (mz_mt (mz_mt (mz_mt (mz_mt mz_mh))))))))))))))
theorem mz_i_wsX7_fixed_56 : (.selects RX4 yX4_waysEndingIn yX4_waysEndingIn : Cond) ∈ wsX7_fixed := mz_mt (mz_ml (mz_ml (mz_ml (mz_mr (mz_mr (mz_ml (mz_mt (mz_mt (mz_mt (mz_mt (mz_mt (mz_mt (mz_mt mz_mh)))))))))))))
theorem mz_i_wsX7_fixed_55 : (.instanceMethod yX4_waysEndingIn : Cond) ∈ wsX7_fixed := mz_mt (mz_ml (mz_ml (mz_ml (mz_mr (mz_mr (mz_ml (mz_mt (mz_mt (mz_mt (mz_mt (mz_mt (mz_mt mz_mh))))))))))))
theorem mz_i_wsX7_fixed_54 : (.methodLink RX4 33 yX4_waysEndingIn : Cond) ∈ wsX7_fixed := mz_mt (mz_ml (mz_ml (mz_ml (mz_mr (mz_mr (mz_ml (mz_mt (mz_mt (mz_mt (mz_mt (mz_mt mz_mh)))))))))))
theorem mz_i_wsX7_fixed_53 : (.code yX7_bit cX7_bit 1 (some .int) : Cond) ∈ wsX7_fixed := mz_mt (mz_ml (mz_ml (mz_ml (mz_mr (mz_mr (mz_ml (mz_mt (mz_mt (mz_mt (mz_mt mz_mh))))))))))
theorem mz_i_wsX7_fixed_52 : (.static yX7_bit : Cond) ∈ wsX7_fixed := mz_mt (mz_ml (mz_ml (mz_ml (mz_mr (mz_mr (mz_ml (mz_mt (mz_mt (mz_mt mz_mh)))))))))
theorem mz_i_wsX7_fixed_51 : (.methodLink RX2 30 yX2_joinedTo : Cond) ∈ wsX7_fixed := mz_mt (mz_ml (mz_ml (mz_ml (mz_mr (mz_mr (mz_ml (mz_mt (mz_mt mz_mh))))))))
theorem mz_i_wsX7_fixed_50 : (.code yX2_unjoinedWith cX2_unjoinedWith 3 (some .int) : Cond) ∈ wsX7_fixed := mz_mt (mz_ml (mz_ml (mz_ml (mz_mr (mz_mr (mz_ml (mz_mt mz_mh)))))))
theorem mz_i_wsX7_fixed_49 : (.selects RX2 yX2_unjoinedWith yX2_unjoinedWith : Cond) ∈ wsX7_fixed := mz_mt (mz_ml (mz_ml (mz_ml (mz_mr (mz_mr (mz_ml mz_mh))))))
theorem mz_i_wsX7_fixed_48 : (.instanceMethod yX2_unjoinedWith : Cond) ∈ wsX7_fixed := mz_mt (mz_ml (mz_ml (mz_ml (mz_mr (mz_ml (mz_mt (mz_mt (mz_mt (mz_mt (mz_mt (mz_mt (mz_mt (mz_mt (mz_mt (mz_mt (mz_mt (mz_mt (mz_mt (mz_mt (mz_mt (mz_mt (mz_mt (mz_mt (mz_mt (mz_mt (mz_mt (mz_mt (mz_mt mz_mh))))))))))))))))))))))))))))
theorem mz_i_wsX7_fixed_47 : (.methodLink RX2 61 yX2_unjoinedWith : Cond) ∈ wsX7_fixed := mz_mt (mz_ml (mz_ml (mz_ml (mz_mr (mz_ml (mz_mt (mz_mt (mz_mt (mz_mt (mz_mt (mz_mt (mz_mt (mz_mt (mz_mt (mz_mt (mz_mt (mz_mt (mz_mt (mz_mt (mz_mt (mz_mt (mz_mt (mz_mt (mz_mt (mz_mt (mz_mt (mz_mt mz_mh)))))))))))))))))))))))))))
theorem mz_i_wsX7_fixed_46 : (.code yX2_parentsOf cX2_parentsOf 2 (some .int) : Cond) ∈ wsX7_fixed := mz_mt (mz_ml (mz_ml (mz_ml (mz_mr (mz_ml (mz_mt (mz_mt (mz_mt (mz_mt (mz_mt (mz_mt (mz_mt (mz_mt (mz_mt (mz_mt (mz_mt (mz_mt (mz_mt (mz_mt (mz_mt (mz_mt (mz_mt (mz_mt (mz_mt (mz_mt (mz_mt mz_mh))))))))))))))))))))))))))
theorem mz_i_wsX7_fixed_45 : (.selects RX2 yX2_parentsOf yX2_parentsOf : Cond) ∈ wsX7_fixed := mz_mt (mz_ml (mz_ml (mz_ml (mz_mr (mz_ml (mz_mt (mz_mt (mz_mt (mz_mt (mz_mt (mz_mt (mz_mt (mz_mt (mz_mt (mz_mt (mz_mt (mz_mt (mz_mt (mz_mt (mz_mt (mz_mt (mz_mt (mz_mt (mz_mt (mz_mt mz_mh)))))))))))))))))))))))))
theorem mz_i_wsX7_fixed_44 : (.instanceMethod yX2_parentsOf : Cond) ∈ wsX7_fixed := mz_mt (mz_ml (mz_ml (mz_ml (mz_mr (mz_ml (mz_mt (mz_mt (mz_mt (mz_mt (mz_mt (mz_mt (mz_mt (mz_mt (mz_mt (mz_mt (mz_mt (mz_mt (mz_mt (mz_mt (mz_mt (mz_mt (mz_mt (mz_mt (mz_mt mz_mh))))))))))))))))))))))))
theorem mz_i_wsX7_fixed_43 : (.methodLink RX2 58 yX2_parentsOf : Cond) ∈ wsX7_fixed := mz_mt (mz_ml (mz_ml (mz_ml (mz_mr (mz_ml (mz_mt (mz_mt (mz_mt (mz_mt (mz_mt (mz_mt (mz_mt (mz_mt (mz_mt (mz_mt (mz_mt (mz_mt (mz_mt (mz_mt (mz_mt (mz_mt (mz_mt (mz_mt mz_mh)))))))))))))))))))))))
theorem mz_i_wsX7_fixed_42 : (.code yX2_sameThirds cX2_sameThirds 5 (some .boolean) : Cond) ∈ wsX7_fixed := mz_mt (mz_ml (mz_ml (mz_ml (mz_mr (mz_ml (mz_mt (mz_mt (mz_mt (mz_mt (mz_mt (mz_mt (mz_mt (mz_mt (mz_mt (mz_mt (mz_mt (mz_mt (mz_mt (mz_mt (mz_mt (mz_mt (mz_mt mz_mh))))))))))))))))))))))
theorem mz_i_wsX7_fixed_41 : (.selects RX2 yX2_sameThirds yX2_sameThirds : Cond) ∈ wsX7_fixed := mz_mt (mz_ml (mz_ml (mz_ml (mz_mr (mz_ml (mz_mt (mz_mt (mz_mt (mz_mt (mz_mt (mz_mt (mz_mt (mz_mt (mz_mt (mz_mt (mz_mt (mz_mt (mz_mt (mz_mt (mz_mt (mz_mt mz_mh)))))))))))))))))))))
theorem mz_i_wsX7_fixed_40 : (.instanceMethod yX2_sameThirds : Cond) ∈ wsX7_fixed := mz_mt (mz_ml (mz_ml (mz_ml (mz_mr (mz_ml (mz_mt (mz_mt (mz_mt (mz_mt (mz_mt (mz_mt (mz_mt (mz_mt (mz_mt (mz_mt (mz_mt (mz_mt (mz_mt (mz_mt (mz_mt mz_mh))))))))))))))))))))
theorem mz_i_wsX7_fixed_39 : (.methodLink RX4 59 yX2_sameThirds : Cond) ∈ wsX7_fixed := mz_mt (mz_ml (mz_ml (mz_ml (mz_mr (mz_ml (mz_mt (mz_mt (mz_mt (mz_mt (mz_mt (mz_mt (mz_mt (mz_mt (mz_mt (mz_mt (mz_mt (mz_mt (mz_mt (mz_mt mz_mh)))))))))))))))))))
theorem mz_i_wsX7_fixed_73 : (.methodLink RX4 48 yJ6_bitCount_0f7a4 : Cond) ∈ wsX7_fixed := mz_mt (mz_ml (mz_ml (mz_ml (mz_mr (mz_mr (mz_mr mz_mh))))))
theorem mz_i_wsX7_fixed_72 : (.code yX2_apart cX2_apart 3 (some .boolean) : Cond) ∈ wsX7_fixed := mz_mt (mz_ml (mz_ml (mz_ml (mz_mr (mz_mr (mz_ml (mz_mt (mz_mt (mz_mt (mz_mt (mz_mt (mz_mt (mz_mt (mz_mt (mz_mt (mz_mt (mz_mt (mz_mt (mz_mt (mz_mt (mz_mt (mz_mt (mz_mt (mz_mt (mz_mt (mz_mt (mz_mt (mz_mt (mz_mt mz_mh)))))))))))))))))))))))))))))
theorem mz_i_wsX7_fixed_71 : (.selects RX2 yX2_apart yX2_apart : Cond) ∈ wsX7_fixed := mz_mt (mz_ml (mz_ml (mz_ml (mz_mr (mz_mr (mz_ml (mz_mt (mz_mt (mz_mt (mz_mt (mz_mt (mz_mt (mz_mt (mz_mt (mz_mt (mz_mt (mz_mt (mz_mt (mz_mt (mz_mt (mz_mt (mz_mt (mz_mt (mz_mt (mz_mt (mz_mt (mz_mt (mz_mt mz_mh))))))))))))))))))))))))))))
theorem mz_i_wsX7_fixed_70 : (.instanceMethod yX2_apart : Cond) ∈ wsX7_fixed := mz_mt (mz_ml (mz_ml (mz_ml (mz_mr (mz_mr (mz_ml (mz_mt (mz_mt (mz_mt (mz_mt (mz_mt (mz_mt (mz_mt (mz_mt (mz_mt (mz_mt (mz_mt (mz_mt (mz_mt (mz_mt (mz_mt (mz_mt (mz_mt (mz_mt (mz_mt (mz_mt (mz_mt mz_mh)))))))))))))))))))))))))))
theorem mz_i_wsX7_fixed_69 : (.methodLink RX4 44 yX2_apart : Cond) ∈ wsX7_fixed := mz_mt (mz_ml (mz_ml (mz_ml (mz_mr (mz_mr (mz_ml (mz_mt (mz_mt (mz_mt (mz_mt (mz_mt (mz_mt (mz_mt (mz_mt (mz_mt (mz_mt (mz_mt (mz_mt (mz_mt (mz_mt (mz_mt (mz_mt (mz_mt (mz_mt (mz_mt (mz_mt mz_mh))))))))))))))))))))))))))
theorem mz_i_wsX7_fixed_68 : (.code yX7_nextPart cX7_nextPart 2 (some .int) : Cond) ∈ wsX7_fixed := mz_mt (mz_ml (mz_ml (mz_ml (mz_mr (mz_mr (mz_ml (mz_mt (mz_mt (mz_mt (mz_mt (mz_mt (mz_mt (mz_mt (mz_mt (mz_mt (mz_mt (mz_mt (mz_mt (mz_mt (mz_mt (mz_mt (mz_mt (mz_mt (mz_mt (mz_mt mz_mh)))))))))))))))))))))))))
theorem mz_i_wsX7_fixed_67 : (.static yX7_nextPart : Cond) ∈ wsX7_fixed := mz_mt (mz_ml (mz_ml (mz_ml (mz_mr (mz_mr (mz_ml (mz_mt (mz_mt (mz_mt (mz_mt (mz_mt (mz_mt (mz_mt (mz_mt (mz_mt (mz_mt (mz_mt (mz_mt (mz_mt (mz_mt (mz_mt (mz_mt (mz_mt (mz_mt mz_mh))))))))))))))))))))))))
theorem mz_i_wsX7_fixed_66 : (.constant RJ6 267 (252645135) : Cond) ∈ wsX7_fixed := mz_mt (mz_ml (mz_ml (mz_ml (mz_mr (mz_mr (mz_ml (mz_mt (mz_mt (mz_mt (mz_mt (mz_mt (mz_mt (mz_mt (mz_mt (mz_mt (mz_mt (mz_mt (mz_mt (mz_mt (mz_mt (mz_mt (mz_mt (mz_mt mz_mh)))))))))))))))))))))))
theorem mz_i_wsX7_fixed_65 : (.constant RJ6 266 (858993459) : Cond) ∈ wsX7_fixed := mz_mt (mz_ml (mz_ml (mz_ml (mz_mr (mz_mr (mz_ml (mz_mt (mz_mt (mz_mt (mz_mt (mz_mt (mz_mt (mz_mt (mz_mt (mz_mt (mz_mt (mz_mt (mz_mt (mz_mt (mz_mt (mz_mt (mz_mt mz_mh))))))))))))))))))))))
theorem mz_i_wsX7_fixed_64 : (.constant RJ6 265 (1431655765) : Cond) ∈ wsX7_fixed := mz_mt (mz_ml (mz_ml (mz_ml (mz_mr (mz_mr (mz_ml (mz_mt (mz_mt (mz_mt (mz_mt (mz_mt (mz_mt (mz_mt (mz_mt (mz_mt (mz_mt (mz_mt (mz_mt (mz_mt (mz_mt (mz_mt mz_mh)))))))))))))))))))))
theorem mz_i_wsX7_fixed_63 : (.code yJ6_bitCount_0f7a4 cJ6_bitCount_0f7a4 1 (some .int) : Cond) ∈ wsX7_fixed := mz_mt (mz_ml (mz_ml (mz_ml (mz_mr (mz_mr (mz_ml (mz_mt (mz_mt (mz_mt (mz_mt (mz_mt (mz_mt (mz_mt (mz_mt (mz_mt (mz_mt (mz_mt (mz_mt (mz_mt (mz_mt mz_mh))))))))))))))))))))
theorem mz_i_wsX7_fixed_62 : (.initialized RJ6 : Cond) ∈ wsX7_fixed := mz_mt (mz_ml (mz_ml (mz_ml (mz_mr (mz_mr (mz_ml (mz_mt (mz_mt (mz_mt (mz_mt (mz_mt (mz_mt (mz_mt (mz_mt (mz_mt (mz_mt (mz_mt (mz_mt (mz_mt mz_mh)))))))))))))))))))
theorem mz_i_wsX7_fixed_61 : (.static yJ6_bitCount_0f7a4 : Cond) ∈ wsX7_fixed := mz_mt (mz_ml (mz_ml (mz_ml (mz_mr (mz_mr (mz_ml (mz_mt (mz_mt (mz_mt (mz_mt (mz_mt (mz_mt (mz_mt (mz_mt (mz_mt (mz_mt (mz_mt (mz_mt mz_mh))))))))))))))))))
theorem mz_i_wsX7_fixed_60 : (.methodLink RX7 239 yJ6_bitCount_0f7a4 : Cond) ∈ wsX7_fixed := mz_mt (mz_ml (mz_ml (mz_ml (mz_mr (mz_mr (mz_ml (mz_mt (mz_mt (mz_mt (mz_mt (mz_mt (mz_mt (mz_mt (mz_mt (mz_mt (mz_mt (mz_mt mz_mh)))))))))))))))))
theorem mz_i_wsX7_fixed_59 : (.code yX7_partsOf cX7_partsOf 1 (some .int) : Cond) ∈ wsX7_fixed := mz_mt (mz_ml (mz_ml (mz_ml (mz_mr (mz_mr (mz_ml (mz_mt (mz_mt (mz_mt (mz_mt (mz_mt (mz_mt (mz_mt (mz_mt (mz_mt (mz_mt mz_mh))))))))))))))))
theorem mz_f_wsX7_fixed_wsX40 : ∀ w ∈ wsX40, w ∈ wsX7_fixed := fun _ h => mz_mt (mz_mr h)
set_option maxRecDepth 20000 in
theorem ggX7_fixed_X4_reckon : GoodIn wsX7_fixed wsX4_reckon := goodIn_sub (mz_fc mz_i_wsX7_fixed_21 (mz_fa (mz_fa (mz_fa (mz_fc mz_i_wsX7_fixed_22 (mz_fc mz_i_wsX7_fixed_23 (mz_fc mz_i_wsX7_fixed_24 (mz_fc mz_i_wsX7_fixed_25 (mz_fc mz_i_wsX7_fixed_6 (mz_fc mz_i_wsX7_fixed_26 (mz_fc mz_i_wsX7_fixed_13 (mz_fc mz_i_wsX7_fixed_27 (mz_fc mz_i_wsX7_fixed_28 (mz_fc mz_i_wsX7_fixed_20 (mz_fc mz_i_wsX7_fixed_29 (mz_fc mz_i_wsX7_fixed_30 (mz_fc mz_i_wsX7_fixed_31 (mz_fc mz_i_wsX7_fixed_32 (mz_fc mz_i_wsX7_fixed_33 (mz_fc mz_i_wsX7_fixed_14 (mz_fc mz_i_wsX7_fixed_15 (mz_fc mz_i_wsX7_fixed_16 (mz_fc mz_i_wsX7_fixed_34 (mz_fc mz_i_wsX7_fixed_35 (mz_fc mz_i_wsX7_fixed_36 (mz_fc mz_i_wsX7_fixed_37 (mz_fc mz_i_wsX7_fixed_38 (mz_fc mz_i_wsX7_fixed_8 mz_fn)))))))))))))))))))))))) (mz_fa (mz_fc mz_i_wsX7_fixed_9 (mz_fc mz_i_wsX7_fixed_10 (mz_fc mz_i_wsX7_fixed_11 (mz_fc mz_i_wsX7_fixed_12 (mz_fc mz_i_wsX7_fixed_39 (mz_fc mz_i_wsX7_fixed_40 (mz_fc mz_i_wsX7_fixed_41 (mz_fc mz_i_wsX7_fixed_42 (mz_fc mz_i_wsX7_fixed_43 (mz_fc mz_i_wsX7_fixed_44 (mz_fc mz_i_wsX7_fixed_45 (mz_fc mz_i_wsX7_fixed_46 (mz_fc mz_i_wsX7_fixed_47 (mz_fc mz_i_wsX7_fixed_48 (mz_fc mz_i_wsX7_fixed_49 (mz_fc mz_i_wsX7_fixed_50 (mz_fc mz_i_wsX7_fixed_51 (mz_fc mz_i_wsX7_fixed_52 (mz_fc mz_i_wsX7_fixed_53 (mz_fc mz_i_wsX7_fixed_54 (mz_fc mz_i_wsX7_fixed_55 (mz_fc mz_i_wsX7_fixed_56 (mz_fc mz_i_wsX7_fixed_57 (mz_fc mz_i_wsX7_fixed_58 mz_fn)))))))))))))))))))))))) (mz_fc mz_i_wsX7_fixed_59 (mz_fc mz_i_wsX7_fixed_60 (mz_fc mz_i_wsX7_fixed_61 (mz_fc mz_i_wsX7_fixed_62 (mz_fc mz_i_wsX7_fixed_63 (mz_fc mz_i_wsX7_fixed_64 (mz_fc mz_i_wsX7_fixed_65 (mz_fc mz_i_wsX7_fixed_66 (mz_fc mz_i_wsX7_fixed_67 (mz_fc mz_i_wsX7_fixed_68 (mz_fc mz_i_wsX7_fixed_69 (mz_fc mz_i_wsX7_fixed_70 (mz_fc mz_i_wsX7_fixed_71 (mz_fc mz_i_wsX7_fixed_72 (mz_fc mz_i_wsX7_fixed_73 mz_fn))))))))))))))))) (mz_f_wsX7_fixed_wsX40)) (mz_f_wsX7_fixed_wsX20))) (by decide +kernel)
theorem mz_i_wsX7_fixed_19 : (.selects RX4 yX4_reckon yX4_reckon : Cond) ∈ wsX7_fixed := mz_mt (mz_ml (mz_ml (mz_ml (mz_ml (mz_mt (mz_mt (mz_mt (mz_mt (mz_mt (mz_mt (mz_mt (mz_mt (mz_mt (mz_mt (mz_mt (mz_mt (mz_mt (mz_mt (mz_mt (mz_mt (mz_mt (mz_mt mz_mh))))))))))))))))))))))
theorem mz_i_wsX7_fixed_18 : (.instanceMethod yX4_reckon : Cond) ∈ wsX7_fixed := mz_mt (mz_ml (mz_ml (mz_ml (mz_ml (mz_mt (mz_mt (mz_mt (mz_mt (mz_mt (mz_mt (mz_mt (mz_mt (mz_mt (mz_mt (mz_mt (mz_mt (mz_mt (mz_mt (mz_mt (mz_mt (mz_mt mz_mh)))))))))))))))))))))
theorem mz_i_wsX7_fixed_17 : (.methodLink RX7 187 yX4_reckon : Cond) ∈ wsX7_fixed := mz_mt (mz_ml (mz_ml (mz_ml (mz_ml (mz_mt (mz_mt (mz_mt (mz_mt (mz_mt (mz_mt (mz_mt (mz_mt (mz_mt (mz_mt (mz_mt (mz_mt (mz_mt (mz_mt (mz_mt (mz_mt mz_mh))))))))))))))))))))
set_option maxRecDepth 20000 in
theorem gX7_fixed_X4_reckon : GoodIn wsX7_fixed (wsV RX7 187 RX4 yX4_reckon wsX4_reckon) := goodIn_app (goodIn_sub (mz_fc mz_i_wsX7_fixed_17 (mz_fc mz_i_wsX7_fixed_18 (mz_fc mz_i_wsX7_fixed_19 (mz_fc mz_i_wsX7_fixed_20 mz_fn)))) (by decide +kernel)) ggX7_fixed_X4_reckon
theorem dX7_fixed_0 : decode cX7_fixed 0 = .ok (.aload_n 0, 1) := by decide +kernel
theorem dX7_fixed_1 : decode cX7_fixed 1 = .ok (.getfield 12, 3) := by decide +kernel
theorem dX7_fixed_4 : decode cX7_fixed 4 = .ok (.iload_n 1, 1) := by decide +kernel
theorem dX7_fixed_5 : decode cX7_fixed 5 = .ok (.iload_n 2, 1) := by decide +kernel
theorem dX7_fixed_6 : decode cX7_fixed 6 = .ok (.invokevirtual 89, 3) := by decide +kernel
theorem dX7_fixed_9 : decode cX7_fixed 9 = .ok (.ifCond .ne 5, 3) := by decide +kernel
theorem dX7_fixed_12 : decode cX7_fixed 12 = .ok (.iconst 0, 1) := by decide +kernel
theorem dX7_fixed_13 : decode cX7_fixed 13 = .ok (.ireturn, 1) := by decide +kernel
theorem dX7_fixed_14 : decode cX7_fixed 14 = .ok (.aload_n 0, 1) := by decide +kernel
theorem dX7_fixed_15 : decode cX7_fixed 15 = .ok (.getfield 50, 3) := by decide +kernel
theorem dX7_fixed_18 : decode cX7_fixed 18 = .ok (.aload_n 0, 1) := by decide +kernel
theorem dX7_fixed_19 : decode cX7_fixed 19 = .ok (.getfield 12, 3) := by decide +kernel
theorem dX7_fixed_22 : decode cX7_fixed 22 = .ok (.iload_n 2, 1) := by decide +kernel
theorem dX7_fixed_23 : decode cX7_fixed 23 = .ok (.iload_n 1, 1) := by decide +kernel
theorem dX7_fixed_24 : decode cX7_fixed 24 = .ok (.invokevirtual 187, 3) := by decide +kernel
theorem dX7_fixed_27 : decode cX7_fixed 27 = .ok (.ifCond .ne 7, 3) := by decide +kernel
theorem dX7_fixed_30 : decode cX7_fixed 30 = .ok (.iconst 1, 1) := by decide +kernel
theorem dX7_fixed_31 : decode cX7_fixed 31 = .ok (.goto 4, 3) := by decide +kernel
theorem dX7_fixed_34 : decode cX7_fixed 34 = .ok (.iconst 0, 1) := by decide +kernel
theorem dX7_fixed_35 : decode cX7_fixed 35 = .ok (.ireturn, 1) := by decide +kernel
theorem mz_i_wsX7_otherwise_13 : (.code yX7_areTwo cX7_areTwo 3 (some .boolean) : Cond) ∈ wsX7_otherwise := mz_mt (mz_ml (mz_ml (mz_ml (mz_ml (mz_ml (mz_mt (mz_mt (mz_mt (mz_mt (mz_mt (mz_mt (mz_mt (mz_mt (mz_mt (mz_mt (mz_mt (mz_mt mz_mh)))))))))))))))))
theorem mz_i_wsX7_otherwise_19 : (.fieldLink RX2 18 "MadeItSo$Drawing" "things" "I" : Cond) ∈ wsX7_otherwise := mz_mt (mz_ml (mz_ml (mz_ml (mz_ml (mz_ml (mz_mt (mz_mt (mz_mt (mz_mt (mz_mt (mz_mt (mz_mt (mz_mt (mz_mt (mz_mt (mz_mt (mz_mt (mz_mt (mz_mt (mz_mt (mz_mt (mz_mt (mz_mt mz_mh)))))))))))))))))))))))
theorem mz_i_wsX7_otherwise_18 : (.code yX2_has cX2_has 2 (some .boolean) : Cond) ∈ wsX7_otherwise := mz_mt (mz_ml (mz_ml (mz_ml (mz_ml (mz_ml (mz_mt (mz_mt (mz_mt (mz_mt (mz_mt (mz_mt (mz_mt (mz_mt (mz_mt (mz_mt (mz_mt (mz_mt (mz_mt (mz_mt (mz_mt (mz_mt (mz_mt mz_mh))))))))))))))))))))))
theorem mz_i_wsX7_otherwise_17 : (.initialized RX2 : Cond) ∈ wsX7_otherwise := mz_mt (mz_ml (mz_ml (mz_ml (mz_ml (mz_ml (mz_mt (mz_mt (mz_mt (mz_mt (mz_mt (mz_mt (mz_mt (mz_mt (mz_mt (mz_mt (mz_mt (mz_mt (mz_mt (mz_mt (mz_mt (mz_mt mz_mh)))))))))))))))))))))
theorem mz_i_wsX7_otherwise_16 : (.selects RX2 yX2_has yX2_has : Cond) ∈ wsX7_otherwise := mz_mt (mz_ml (mz_ml (mz_ml (mz_ml (mz_ml (mz_mt (mz_mt (mz_mt (mz_mt (mz_mt (mz_mt (mz_mt (mz_mt (mz_mt (mz_mt (mz_mt (mz_mt (mz_mt (mz_mt (mz_mt mz_mh))))))))))))))))))))
theorem mz_i_wsX7_otherwise_15 : (.instanceMethod yX2_has : Cond) ∈ wsX7_otherwise := mz_mt (mz_ml (mz_ml (mz_ml (mz_ml (mz_ml (mz_mt (mz_mt (mz_mt (mz_mt (mz_mt (mz_mt (mz_mt (mz_mt (mz_mt (mz_mt (mz_mt (mz_mt (mz_mt (mz_mt mz_mh)))))))))))))))))))
theorem mz_i_wsX7_otherwise_14 : (.methodLink RX7 77 yX2_has : Cond) ∈ wsX7_otherwise := mz_mt (mz_ml (mz_ml (mz_ml (mz_ml (mz_ml (mz_mt (mz_mt (mz_mt (mz_mt (mz_mt (mz_mt (mz_mt (mz_mt (mz_mt (mz_mt (mz_mt (mz_mt (mz_mt mz_mh))))))))))))))))))
theorem mz_i_wsX7_otherwise_3 : (.fieldLink RX7 12 "MadeItSo" "drawing" "LMadeItSo$Drawing;" : Cond) ∈ wsX7_otherwise := mz_mt (mz_ml (mz_ml (mz_ml (mz_ml (mz_ml (mz_mt (mz_mt mz_mh)))))))
theorem mz_f_wsX7_otherwise_wsX70 : ∀ w ∈ wsX70, w ∈ wsX7_otherwise := fun _ h => mz_mt (mz_ml (mz_ml (mz_ml (mz_mr h))))
theorem mz_f_wsX7_otherwise_wsX20 : ∀ w ∈ wsX20, w ∈ wsX7_otherwise := fun _ h => mz_mt (mz_ml (mz_ml (mz_mr h)))
set_option maxRecDepth 20000 in
theorem ggX7_otherwise_X7_areTwo : GoodIn wsX7_otherwise wsX7_areTwo := goodIn_sub (mz_fc mz_i_wsX7_otherwise_13 (mz_fa (mz_fa (mz_fc mz_i_wsX7_otherwise_3 (mz_fc mz_i_wsX7_otherwise_14 (mz_fc mz_i_wsX7_otherwise_15 (mz_fc mz_i_wsX7_otherwise_16 (mz_fc mz_i_wsX7_otherwise_17 (mz_fc mz_i_wsX7_otherwise_18 (mz_fc mz_i_wsX7_otherwise_19 mz_fn))))))) (mz_f_wsX7_otherwise_wsX70)) (mz_f_wsX7_otherwise_wsX20))) (by decide +kernel)
theorem mz_i_wsX7_otherwise_12 : (.initialized RX7 : Cond) ∈ wsX7_otherwise := mz_mt (mz_ml (mz_ml (mz_ml (mz_ml (mz_ml (mz_mt (mz_mt (mz_mt (mz_mt (mz_mt (mz_mt (mz_mt (mz_mt (mz_mt (mz_mt (mz_mt mz_mh))))))))))))))))
theorem mz_i_wsX7_otherwise_11 : (.selects RX7 yX7_areTwo yX7_areTwo : Cond) ∈ wsX7_otherwise := mz_mt (mz_ml (mz_ml (mz_ml (mz_ml (mz_ml (mz_mt (mz_mt (mz_mt (mz_mt (mz_mt (mz_mt (mz_mt (mz_mt (mz_mt (mz_mt mz_mh)))))))))))))))
theorem mz_i_wsX7_otherwise_10 : (.instanceMethod yX7_areTwo : Cond) ∈ wsX7_otherwise := mz_mt (mz_ml (mz_ml (mz_ml (mz_ml (mz_ml (mz_mt (mz_mt (mz_mt (mz_mt (mz_mt (mz_mt (mz_mt (mz_mt (mz_mt mz_mh))))))))))))))
theorem mz_i_wsX7_otherwise_9 : (.methodLink RX7 151 yX7_areTwo : Cond) ∈ wsX7_otherwise := mz_mt (mz_ml (mz_ml (mz_ml (mz_ml (mz_ml (mz_mt (mz_mt (mz_mt (mz_mt (mz_mt (mz_mt (mz_mt (mz_mt mz_mh)))))))))))))
set_option maxRecDepth 20000 in
theorem gX7_otherwise_X7_areTwo : GoodIn wsX7_otherwise (wsV RX7 151 RX7 yX7_areTwo wsX7_areTwo) := goodIn_app (goodIn_sub (mz_fc mz_i_wsX7_otherwise_9 (mz_fc mz_i_wsX7_otherwise_10 (mz_fc mz_i_wsX7_otherwise_11 (mz_fc mz_i_wsX7_otherwise_12 mz_fn)))) (by decide +kernel)) ggX7_otherwise_X7_areTwo
theorem mz_i_wsX7_otherwise_22 : (.code yX7_settingOf cX7_settingOf 2 (some .int) : Cond) ∈ wsX7_otherwise := mz_mt (mz_ml (mz_ml (mz_ml (mz_ml (mz_ml (mz_mt (mz_mt (mz_mt (mz_mt (mz_mt (mz_mt (mz_mt (mz_mt (mz_mt (mz_mt (mz_mt (mz_mt (mz_mt (mz_mt (mz_mt (mz_mt (mz_mt (mz_mt (mz_mt (mz_mt (mz_mt mz_mh))))))))))))))))))))))))))
theorem mz_i_wsX7_otherwise_25 : (.code yX7_bit cX7_bit 1 (some .int) : Cond) ∈ wsX7_otherwise := mz_mt (mz_ml (mz_ml (mz_ml (mz_ml (mz_mr (mz_ml mz_mh))))))
theorem mz_i_wsX7_otherwise_24 : (.static yX7_bit : Cond) ∈ wsX7_otherwise := mz_mt (mz_ml (mz_ml (mz_ml (mz_ml (mz_ml (mz_mt (mz_mt (mz_mt (mz_mt (mz_mt (mz_mt (mz_mt (mz_mt (mz_mt (mz_mt (mz_mt (mz_mt (mz_mt (mz_mt (mz_mt (mz_mt (mz_mt (mz_mt (mz_mt (mz_mt (mz_mt (mz_mt (mz_mt mz_mh))))))))))))))))))))))))))))
theorem mz_i_wsX7_otherwise_23 : (.methodLink RX7 73 yX7_bit : Cond) ∈ wsX7_otherwise := mz_mt (mz_ml (mz_ml (mz_ml (mz_ml (mz_ml (mz_mt (mz_mt (mz_mt (mz_mt (mz_mt (mz_mt (mz_mt (mz_mt (mz_mt (mz_mt (mz_mt (mz_mt (mz_mt (mz_mt (mz_mt (mz_mt (mz_mt (mz_mt (mz_mt (mz_mt (mz_mt (mz_mt mz_mh)))))))))))))))))))))))))))
set_option maxRecDepth 20000 in
theorem ggX7_otherwise_X7_settingOf : GoodIn wsX7_otherwise wsX7_settingOf := goodIn_sub (mz_fc mz_i_wsX7_otherwise_22 (mz_fc mz_i_wsX7_otherwise_23 (mz_fc mz_i_wsX7_otherwise_24 (mz_fc mz_i_wsX7_otherwise_12 (mz_fc mz_i_wsX7_otherwise_25 mz_fn))))) (by decide +kernel)
theorem mz_i_wsX7_otherwise_21 : (.static yX7_settingOf : Cond) ∈ wsX7_otherwise := mz_mt (mz_ml (mz_ml (mz_ml (mz_ml (mz_ml (mz_mt (mz_mt (mz_mt (mz_mt (mz_mt (mz_mt (mz_mt (mz_mt (mz_mt (mz_mt (mz_mt (mz_mt (mz_mt (mz_mt (mz_mt (mz_mt (mz_mt (mz_mt (mz_mt (mz_mt mz_mh)))))))))))))))))))))))))
theorem mz_i_wsX7_otherwise_20 : (.methodLink RX7 177 yX7_settingOf : Cond) ∈ wsX7_otherwise := mz_mt (mz_ml (mz_ml (mz_ml (mz_ml (mz_ml (mz_mt (mz_mt (mz_mt (mz_mt (mz_mt (mz_mt (mz_mt (mz_mt (mz_mt (mz_mt (mz_mt (mz_mt (mz_mt (mz_mt (mz_mt (mz_mt (mz_mt (mz_mt (mz_mt mz_mh))))))))))))))))))))))))
set_option maxRecDepth 20000 in
theorem gX7_otherwise_X7_settingOf : GoodIn wsX7_otherwise (va_wsS RX7 177 yX7_settingOf wsX7_settingOf) := goodIn_app (goodIn_sub (mz_fc mz_i_wsX7_otherwise_20 (mz_fc mz_i_wsX7_otherwise_21 (mz_fc mz_i_wsX7_otherwise_12 mz_fn))) (by decide +kernel)) ggX7_otherwise_X7_settingOf
theorem mz_i_wsX7_otherwise_30 : (.code yX6_weigh cX6_weigh 10 none : Cond) ∈ wsX7_otherwise := mz_mt (mz_ml (mz_ml (mz_ml (mz_ml (mz_mr (mz_ml (mz_mt (mz_mt (mz_mt (mz_mt (mz_mt mz_mh)))))))))))
theorem mz_i_wsX7_otherwise_51 : (.static yJ6_bitCount_0f7a4 : Cond) ∈ wsX7_otherwise := mz_mt (mz_ml (mz_ml (mz_ml (mz_ml (mz_mr (mz_mr (mz_ml (mz_mt (mz_mt mz_mh)))))))))
theorem mz_i_wsX7_otherwise_50 : (.methodLink RX7 239 yJ6_bitCount_0f7a4 : Cond) ∈ wsX7_otherwise := mz_mt (mz_ml (mz_ml (mz_ml (mz_ml (mz_mr (mz_mr (mz_ml (mz_mt mz_mh))))))))
theorem mz_i_wsX7_otherwise_49 : (.code yX7_partsOf cX7_partsOf 1 (some .int) : Cond) ∈ wsX7_otherwise := mz_mt (mz_ml (mz_ml (mz_ml (mz_ml (mz_mr (mz_mr (mz_ml mz_mh)))))))
theorem mz_i_wsX7_otherwise_48 : (.static yX7_partsOf : Cond) ∈ wsX7_otherwise := mz_mt (mz_ml (mz_ml (mz_ml (mz_ml (mz_mr (mz_ml (mz_mt (mz_mt (mz_mt (mz_mt (mz_mt (mz_mt (mz_mt (mz_mt (mz_mt (mz_mt (mz_mt (mz_mt (mz_mt (mz_mt (mz_mt (mz_mt (mz_mt (mz_mt (mz_mt (mz_mt (mz_mt (mz_mt (mz_mt mz_mh)))))))))))))))))))))))))))))
theorem mz_i_wsX7_otherwise_47 : (.code yX7_inHeap cX7_inHeap 2 (some .boolean) : Cond) ∈ wsX7_otherwise := mz_mt (mz_ml (mz_ml (mz_ml (mz_ml (mz_mr (mz_ml (mz_mt (mz_mt (mz_mt (mz_mt (mz_mt (mz_mt (mz_mt (mz_mt (mz_mt (mz_mt (mz_mt (mz_mt (mz_mt (mz_mt (mz_mt (mz_mt (mz_mt (mz_mt (mz_mt (mz_mt (mz_mt (mz_mt mz_mh))))))))))))))))))))))))))))
theorem mz_i_wsX7_otherwise_46 : (.static yX7_inHeap : Cond) ∈ wsX7_otherwise := mz_mt (mz_ml (mz_ml (mz_ml (mz_ml (mz_mr (mz_ml (mz_mt (mz_mt (mz_mt (mz_mt (mz_mt (mz_mt (mz_mt (mz_mt (mz_mt (mz_mt (mz_mt (mz_mt (mz_mt (mz_mt (mz_mt (mz_mt (mz_mt (mz_mt (mz_mt (mz_mt (mz_mt mz_mh)))))))))))))))))))))))))))
theorem mz_i_wsX7_otherwise_45 : (.fieldLink RX2 9 "MadeItSo$Drawing" "parents" "[I" : Cond) ∈ wsX7_otherwise := mz_mt (mz_ml (mz_ml (mz_ml (mz_ml (mz_mr (mz_ml (mz_mt (mz_mt (mz_mt (mz_mt (mz_mt (mz_mt (mz_mt (mz_mt (mz_mt (mz_mt (mz_mt (mz_mt (mz_mt (mz_mt (mz_mt (mz_mt (mz_mt (mz_mt (mz_mt (mz_mt mz_mh))))))))))))))))))))))))))
theorem mz_i_wsX7_otherwise_44 : (.code yX2_nextAfter cX2_nextAfter 3 (some .int) : Cond) ∈ wsX7_otherwise := mz_mt (mz_ml (mz_ml (mz_ml (mz_ml (mz_mr (mz_ml (mz_mt (mz_mt (mz_mt (mz_mt (mz_mt (mz_mt (mz_mt (mz_mt (mz_mt (mz_mt (mz_mt (mz_mt (mz_mt (mz_mt (mz_mt (mz_mt (mz_mt (mz_mt (mz_mt mz_mh)))))))))))))))))))))))))
theorem mz_i_wsX7_otherwise_43 : (.selects RX2 yX2_nextAfter yX2_nextAfter : Cond) ∈ wsX7_otherwise := mz_mt (mz_ml (mz_ml (mz_ml (mz_ml (mz_mr (mz_ml (mz_mt (mz_mt (mz_mt (mz_mt (mz_mt (mz_mt (mz_mt (mz_mt (mz_mt (mz_mt (mz_mt (mz_mt (mz_mt (mz_mt (mz_mt (mz_mt (mz_mt (mz_mt mz_mh))))))))))))))))))))))))
theorem mz_i_wsX7_otherwise_42 : (.instanceMethod yX2_nextAfter : Cond) ∈ wsX7_otherwise := mz_mt (mz_ml (mz_ml (mz_ml (mz_ml (mz_mr (mz_ml (mz_mt (mz_mt (mz_mt (mz_mt (mz_mt (mz_mt (mz_mt (mz_mt (mz_mt (mz_mt (mz_mt (mz_mt (mz_mt (mz_mt (mz_mt (mz_mt (mz_mt mz_mh)))))))))))))))))))))))
theorem mz_i_wsX7_otherwise_41 : (.methodLink RX6 27 yX2_nextAfter : Cond) ∈ wsX7_otherwise := mz_mt (mz_ml (mz_ml (mz_ml (mz_ml (mz_mr (mz_ml (mz_mt (mz_mt (mz_mt (mz_mt (mz_mt (mz_mt (mz_mt (mz_mt (mz_mt (mz_mt (mz_mt (mz_mt (mz_mt (mz_mt (mz_mt (mz_mt mz_mh))))))))))))))))))))))
theorem mz_i_wsX7_otherwise_40 : (.code yX2_size cX2_size 1 (some .int) : Cond) ∈ wsX7_otherwise := mz_mt (mz_ml (mz_ml (mz_ml (mz_ml (mz_mr (mz_ml (mz_mt (mz_mt (mz_mt (mz_mt (mz_mt (mz_mt (mz_mt (mz_mt (mz_mt (mz_mt (mz_mt (mz_mt (mz_mt (mz_mt (mz_mt mz_mh)))))))))))))))))))))
theorem mz_i_wsX7_otherwise_39 : (.selects RX2 yX2_size yX2_size : Cond) ∈ wsX7_otherwise := mz_mt (mz_ml (mz_ml (mz_ml (mz_ml (mz_mr (mz_ml (mz_mt (mz_mt (mz_mt (mz_mt (mz_mt (mz_mt (mz_mt (mz_mt (mz_mt (mz_mt (mz_mt (mz_mt (mz_mt (mz_mt mz_mh))))))))))))))))))))
theorem mz_i_wsX7_otherwise_38 : (.instanceMethod yX2_size : Cond) ∈ wsX7_otherwise := mz_mt (mz_ml (mz_ml (mz_ml (mz_ml (mz_mr (mz_ml (mz_mt (mz_mt (mz_mt (mz_mt (mz_mt (mz_mt (mz_mt (mz_mt (mz_mt (mz_mt (mz_mt (mz_mt (mz_mt mz_mh)))))))))))))))))))
theorem mz_i_wsX7_otherwise_37 : (.methodLink RX6 24 yX2_size : Cond) ∈ wsX7_otherwise := mz_mt (mz_ml (mz_ml (mz_ml (mz_ml (mz_mr (mz_ml (mz_mt (mz_mt (mz_mt (mz_mt (mz_mt (mz_mt (mz_mt (mz_mt (mz_mt (mz_mt (mz_mt (mz_mt mz_mh))))))))))))))))))
theorem mz_i_wsX7_otherwise_36 : (.code yX2_everything cX2_everything 1 (some .int) : Cond) ∈ wsX7_otherwise := mz_mt (mz_ml (mz_ml (mz_ml (mz_ml (mz_mr (mz_ml (mz_mt (mz_mt (mz_mt (mz_mt (mz_mt (mz_mt (mz_mt (mz_mt (mz_mt (mz_mt (mz_mt mz_mh)))))))))))))))))
theorem mz_i_wsX7_otherwise_35 : (.selects RX2 yX2_everything yX2_everything : Cond) ∈ wsX7_otherwise := mz_mt (mz_ml (mz_ml (mz_ml (mz_ml (mz_mr (mz_ml (mz_mt (mz_mt (mz_mt (mz_mt (mz_mt (mz_mt (mz_mt (mz_mt (mz_mt (mz_mt mz_mh))))))))))))))))
theorem mz_i_wsX7_otherwise_34 : (.instanceMethod yX2_everything : Cond) ∈ wsX7_otherwise := mz_mt (mz_ml (mz_ml (mz_ml (mz_ml (mz_mr (mz_ml (mz_mt (mz_mt (mz_mt (mz_mt (mz_mt (mz_mt (mz_mt (mz_mt (mz_mt mz_mh)))))))))))))))
theorem mz_i_wsX7_otherwise_33 : (.methodLink RX6 19 yX2_everything : Cond) ∈ wsX7_otherwise := mz_mt (mz_ml (mz_ml (mz_ml (mz_ml (mz_mr (mz_ml (mz_mt (mz_mt (mz_mt (mz_mt (mz_mt (mz_mt (mz_mt (mz_mt mz_mh))))))))))))))
theorem mz_i_wsX7_otherwise_32 : (.fieldLink RX6 9 "MadeItSo$Weights" "ofCase" "[J" : Cond) ∈ wsX7_otherwise := mz_mt (mz_ml (mz_ml (mz_ml (mz_ml (mz_mr (mz_ml (mz_mt (mz_mt (mz_mt (mz_mt (mz_mt (mz_mt (mz_mt mz_mh)))))))))))))
theorem mz_i_wsX7_otherwise_31 : (.fieldLink RX6 15 "MadeItSo$Weights" "everything" "I" : Cond) ∈ wsX7_otherwise := mz_mt (mz_ml (mz_ml (mz_ml (mz_ml (mz_mr (mz_ml (mz_mt (mz_mt (mz_mt (mz_mt (mz_mt (mz_mt mz_mh))))))))))))
theorem mz_i_wsX7_otherwise_70 : (.methodLink RX2 22 yX2_has : Cond) ∈ wsX7_otherwise := mz_mt (mz_ml (mz_ml (mz_ml (mz_ml (mz_mr (mz_mr (mz_ml (mz_mt (mz_mt (mz_mt (mz_mt (mz_mt (mz_mt (mz_mt (mz_mt (mz_mt (mz_mt (mz_mt (mz_mt (mz_mt (mz_mt (mz_mt (mz_mt (mz_mt (mz_mt (mz_mt (mz_mt (mz_mt mz_mh))))))))))))))))))))))))))))
theorem mz_i_wsX7_otherwise_69 : (.code yX2_parentsOf cX2_parentsOf 2 (some .int) : Cond) ∈ wsX7_otherwise := mz_mt (mz_ml (mz_ml (mz_ml (mz_ml (mz_mr (mz_mr (mz_ml (mz_mt (mz_mt (mz_mt (mz_mt (mz_mt (mz_mt (mz_mt (mz_mt (mz_mt (mz_mt (mz_mt (mz_mt (mz_mt (mz_mt (mz_mt (mz_mt (mz_mt (mz_mt (mz_mt (mz_mt mz_mh)))))))))))))))))))))))))))
theorem mz_i_wsX7_otherwise_68 : (.selects RX2 yX2_parentsOf yX2_parentsOf : Cond) ∈ wsX7_otherwise := mz_mt (mz_ml (mz_ml (mz_ml (mz_ml (mz_mr (mz_mr (mz_ml (mz_mt (mz_mt (mz_mt (mz_mt (mz_mt (mz_mt (mz_mt (mz_mt (mz_mt (mz_mt (mz_mt (mz_mt (mz_mt (mz_mt (mz_mt (mz_mt (mz_mt (mz_mt (mz_mt mz_mh))))))))))))))))))))))))))
theorem mz_i_wsX7_otherwise_67 : (.instanceMethod yX2_parentsOf : Cond) ∈ wsX7_otherwise := mz_mt (mz_ml (mz_ml (mz_ml (mz_ml (mz_mr (mz_mr (mz_ml (mz_mt (mz_mt (mz_mt (mz_mt (mz_mt (mz_mt (mz_mt (mz_mt (mz_mt (mz_mt (mz_mt (mz_mt (mz_mt (mz_mt (mz_mt (mz_mt (mz_mt (mz_mt mz_mh)))))))))))))))))))))))))
theorem mz_i_wsX7_otherwise_66 : (.methodLink RX1 29 yX2_parentsOf : Cond) ∈ wsX7_otherwise := mz_mt (mz_ml (mz_ml (mz_ml (mz_ml (mz_mr (mz_mr (mz_ml (mz_mt (mz_mt (mz_mt (mz_mt (mz_mt (mz_mt (mz_mt (mz_mt (mz_mt (mz_mt (mz_mt (mz_mt (mz_mt (mz_mt (mz_mt (mz_mt (mz_mt mz_mh))))))))))))))))))))))))
theorem mz_i_wsX7_otherwise_65 : (.code yX7_onesOf cX7_onesOf 1 (some .int) : Cond) ∈ wsX7_otherwise := mz_mt (mz_ml (mz_ml (mz_ml (mz_ml (mz_mr (mz_mr (mz_ml (mz_mt (mz_mt (mz_mt (mz_mt (mz_mt (mz_mt (mz_mt (mz_mt (mz_mt (mz_mt (mz_mt (mz_mt (mz_mt (mz_mt (mz_mt (mz_mt mz_mh)))))))))))))))))))))))
theorem mz_i_wsX7_otherwise_64 : (.static yX7_onesOf : Cond) ∈ wsX7_otherwise := mz_mt (mz_ml (mz_ml (mz_ml (mz_ml (mz_mr (mz_mr (mz_ml (mz_mt (mz_mt (mz_mt (mz_mt (mz_mt (mz_mt (mz_mt (mz_mt (mz_mt (mz_mt (mz_mt (mz_mt (mz_mt (mz_mt (mz_mt mz_mh))))))))))))))))))))))
theorem mz_i_wsX7_otherwise_63 : (.code yX7_heapOf cX7_heapOf 1 (some .int) : Cond) ∈ wsX7_otherwise := mz_mt (mz_ml (mz_ml (mz_ml (mz_ml (mz_mr (mz_mr (mz_ml (mz_mt (mz_mt (mz_mt (mz_mt (mz_mt (mz_mt (mz_mt (mz_mt (mz_mt (mz_mt (mz_mt (mz_mt (mz_mt (mz_mt mz_mh)))))))))))))))))))))
theorem mz_i_wsX7_otherwise_62 : (.static yX7_heapOf : Cond) ∈ wsX7_otherwise := mz_mt (mz_ml (mz_ml (mz_ml (mz_ml (mz_mr (mz_mr (mz_ml (mz_mt (mz_mt (mz_mt (mz_mt (mz_mt (mz_mt (mz_mt (mz_mt (mz_mt (mz_mt (mz_mt (mz_mt (mz_mt mz_mh))))))))))))))))))))
theorem mz_i_wsX7_otherwise_61 : (.code yX1_partsUnder cX1_partsUnder 5 (some .int) : Cond) ∈ wsX7_otherwise := mz_mt (mz_ml (mz_ml (mz_ml (mz_ml (mz_mr (mz_mr (mz_ml (mz_mt (mz_mt (mz_mt (mz_mt (mz_mt (mz_mt (mz_mt (mz_mt (mz_mt (mz_mt (mz_mt (mz_mt mz_mh)))))))))))))))))))
theorem mz_i_wsX7_otherwise_60 : (.initialized RX1 : Cond) ∈ wsX7_otherwise := mz_mt (mz_ml (mz_ml (mz_ml (mz_ml (mz_mr (mz_mr (mz_ml (mz_mt (mz_mt (mz_mt (mz_mt (mz_mt (mz_mt (mz_mt (mz_mt (mz_mt (mz_mt (mz_mt mz_mh))))))))))))))))))
theorem mz_i_wsX7_otherwise_59 : (.selects RX1 yX1_partsUnder yX1_partsUnder : Cond) ∈ wsX7_otherwise := mz_mt (mz_ml (mz_ml (mz_ml (mz_ml (mz_mr (mz_mr (mz_ml (mz_mt (mz_mt (mz_mt (mz_mt (mz_mt (mz_mt (mz_mt (mz_mt (mz_mt (mz_mt mz_mh)))))))))))))))))
theorem mz_i_wsX7_otherwise_58 : (.instanceMethod yX1_partsUnder : Cond) ∈ wsX7_otherwise := mz_mt (mz_ml (mz_ml (mz_ml (mz_ml (mz_mr (mz_mr (mz_ml (mz_mt (mz_mt (mz_mt (mz_mt (mz_mt (mz_mt (mz_mt (mz_mt (mz_mt mz_mh))))))))))))))))
theorem mz_i_wsX7_otherwise_57 : (.methodLink RX6 37 yX1_partsUnder : Cond) ∈ wsX7_otherwise := mz_mt (mz_ml (mz_ml (mz_ml (mz_ml (mz_mr (mz_mr (mz_ml (mz_mt (mz_mt (mz_mt (mz_mt (mz_mt (mz_mt (mz_mt (mz_mt mz_mh)))))))))))))))
theorem mz_i_wsX7_otherwise_56 : (.constant RJ6 267 (252645135) : Cond) ∈ wsX7_otherwise := mz_mt (mz_ml (mz_ml (mz_ml (mz_ml (mz_mr (mz_mr (mz_ml (mz_mt (mz_mt (mz_mt (mz_mt (mz_mt (mz_mt (mz_mt mz_mh))))))))))))))
theorem mz_i_wsX7_otherwise_55 : (.constant RJ6 266 (858993459) : Cond) ∈ wsX7_otherwise := mz_mt (mz_ml (mz_ml (mz_ml (mz_ml (mz_mr (mz_mr (mz_ml (mz_mt (mz_mt (mz_mt (mz_mt (mz_mt (mz_mt mz_mh)))))))))))))
theorem mz_i_wsX7_otherwise_54 : (.constant RJ6 265 (1431655765) : Cond) ∈ wsX7_otherwise := mz_mt (mz_ml (mz_ml (mz_ml (mz_ml (mz_mr (mz_mr (mz_ml (mz_mt (mz_mt (mz_mt (mz_mt (mz_mt mz_mh))))))))))))
theorem mz_i_wsX7_otherwise_53 : (.code yJ6_bitCount_0f7a4 cJ6_bitCount_0f7a4 1 (some .int) : Cond) ∈ wsX7_otherwise := mz_mt (mz_ml (mz_ml (mz_ml (mz_ml (mz_mr (mz_mr (mz_ml (mz_mt (mz_mt (mz_mt (mz_mt mz_mh)))))))))))
theorem mz_i_wsX7_otherwise_52 : (.initialized RJ6 : Cond) ∈ wsX7_otherwise := mz_mt (mz_ml (mz_ml (mz_ml (mz_ml (mz_mr (mz_mr (mz_ml (mz_mt (mz_mt (mz_mt mz_mh))))))))))
theorem mz_i_wsX7_otherwise_87 : (.code yX7_nextPart cX7_nextPart 2 (some .int) : Cond) ∈ wsX7_otherwise := mz_mt (mz_ml (mz_ml (mz_ml (mz_ml (mz_mr (mz_mr (mz_mr (mz_ml (mz_mt (mz_mt (mz_mt (mz_mt (mz_mt (mz_mt (mz_mt (mz_mt (mz_mt (mz_mt (mz_mt (mz_mt (mz_mt (mz_mt mz_mh))))))))))))))))))))))
theorem mz_i_wsX7_otherwise_86 : (.static yX7_nextPart : Cond) ∈ wsX7_otherwise := mz_mt (mz_ml (mz_ml (mz_ml (mz_ml (mz_mr (mz_mr (mz_mr (mz_ml (mz_mt (mz_mt (mz_mt (mz_mt (mz_mt (mz_mt (mz_mt (mz_mt (mz_mt (mz_mt (mz_mt (mz_mt (mz_mt mz_mh)))))))))))))))))))))
theorem mz_i_wsX7_otherwise_85 : (.code yX6_split cX6_split 6 none : Cond) ∈ wsX7_otherwise := mz_mt (mz_ml (mz_ml (mz_ml (mz_ml (mz_mr (mz_mr (mz_mr (mz_ml (mz_mt (mz_mt (mz_mt (mz_mt (mz_mt (mz_mt (mz_mt (mz_mt (mz_mt (mz_mt (mz_mt (mz_mt mz_mh))))))))))))))))))))
theorem mz_i_wsX7_otherwise_29 : (.initialized RX6 : Cond) ∈ wsX7_otherwise := mz_mt (mz_ml (mz_ml (mz_ml (mz_ml (mz_mr (mz_ml (mz_mt (mz_mt (mz_mt (mz_mt mz_mh))))))))))
theorem mz_i_wsX7_otherwise_84 : (.selects RX6 yX6_split yX6_split : Cond) ∈ wsX7_otherwise := mz_mt (mz_ml (mz_ml (mz_ml (mz_ml (mz_mr (mz_mr (mz_mr (mz_ml (mz_mt (mz_mt (mz_mt (mz_mt (mz_mt (mz_mt (mz_mt (mz_mt (mz_mt (mz_mt (mz_mt mz_mh)))))))))))))))))))
theorem mz_i_wsX7_otherwise_83 : (.instanceMethod yX6_split : Cond) ∈ wsX7_otherwise := mz_mt (mz_ml (mz_ml (mz_ml (mz_ml (mz_mr (mz_mr (mz_mr (mz_ml (mz_mt (mz_mt (mz_mt (mz_mt (mz_mt (mz_mt (mz_mt (mz_mt (mz_mt (mz_mt mz_mh))))))))))))))))))
theorem mz_i_wsX7_otherwise_82 : (.methodLink RX6 43 yX6_split : Cond) ∈ wsX7_otherwise := mz_mt (mz_ml (mz_ml (mz_ml (mz_ml (mz_mr (mz_mr (mz_mr (mz_ml (mz_mt (mz_mt (mz_mt (mz_mt (mz_mt (mz_mt (mz_mt (mz_mt (mz_mt mz_mh)))))))))))))))))
theorem mz_i_wsX7_otherwise_81 : (.code yX1_isPlace cX1_isPlace 2 (some .boolean) : Cond) ∈ wsX7_otherwise := mz_mt (mz_ml (mz_ml (mz_ml (mz_ml (mz_mr (mz_mr (mz_mr (mz_ml (mz_mt (mz_mt (mz_mt (mz_mt (mz_mt (mz_mt (mz_mt (mz_mt mz_mh))))))))))))))))
theorem mz_i_wsX7_otherwise_80 : (.static yX1_isPlace : Cond) ∈ wsX7_otherwise := mz_mt (mz_ml (mz_ml (mz_ml (mz_ml (mz_mr (mz_mr (mz_mr (mz_ml (mz_mt (mz_mt (mz_mt (mz_mt (mz_mt (mz_mt (mz_mt mz_mh)))))))))))))))
theorem mz_i_wsX7_otherwise_79 : (.methodLink RX1 15 yX1_isPlace : Cond) ∈ wsX7_otherwise := mz_mt (mz_ml (mz_ml (mz_ml (mz_ml (mz_mr (mz_mr (mz_mr (mz_ml (mz_mt (mz_mt (mz_mt (mz_mt (mz_mt (mz_mt mz_mh))))))))))))))
theorem mz_i_wsX7_otherwise_78 : (.fieldLink RX1 9 "MadeItSo$Books" "parts" "[I" : Cond) ∈ wsX7_otherwise := mz_mt (mz_ml (mz_ml (mz_ml (mz_ml (mz_mr (mz_mr (mz_mr (mz_ml (mz_mt (mz_mt (mz_mt (mz_mt (mz_mt mz_mh)))))))))))))
theorem mz_i_wsX7_otherwise_77 : (.code yX1_read cX1_read 3 (some .int) : Cond) ∈ wsX7_otherwise := mz_mt (mz_ml (mz_ml (mz_ml (mz_ml (mz_mr (mz_mr (mz_mr (mz_ml (mz_mt (mz_mt (mz_mt (mz_mt mz_mh))))))))))))
theorem mz_i_wsX7_otherwise_76 : (.selects RX1 yX1_read yX1_read : Cond) ∈ wsX7_otherwise := mz_mt (mz_ml (mz_ml (mz_ml (mz_ml (mz_mr (mz_mr (mz_mr (mz_ml (mz_mt (mz_mt (mz_mt mz_mh)))))))))))
theorem mz_i_wsX7_otherwise_75 : (.instanceMethod yX1_read : Cond) ∈ wsX7_otherwise := mz_mt (mz_ml (mz_ml (mz_ml (mz_ml (mz_mr (mz_mr (mz_mr (mz_ml (mz_mt (mz_mt mz_mh))))))))))
theorem mz_i_wsX7_otherwise_74 : (.methodLink RX1 38 yX1_read : Cond) ∈ wsX7_otherwise := mz_mt (mz_ml (mz_ml (mz_ml (mz_ml (mz_mr (mz_mr (mz_mr (mz_ml (mz_mt mz_mh)))))))))
theorem mz_i_wsX7_otherwise_73 : (.code yX1_rowOf cX1_rowOf 5 (some .int) : Cond) ∈ wsX7_otherwise := mz_mt (mz_ml (mz_ml (mz_ml (mz_ml (mz_mr (mz_mr (mz_mr (mz_ml mz_mh))))))))
theorem mz_i_wsX7_otherwise_72 : (.static yX1_rowOf : Cond) ∈ wsX7_otherwise := mz_mt (mz_ml (mz_ml (mz_ml (mz_ml (mz_mr (mz_mr (mz_ml (mz_mt (mz_mt (mz_mt (mz_mt (mz_mt (mz_mt (mz_mt (mz_mt (mz_mt (mz_mt (mz_mt (mz_mt (mz_mt (mz_mt (mz_mt (mz_mt (mz_mt (mz_mt (mz_mt (mz_mt (mz_mt (mz_mt (mz_mt mz_mh))))))))))))))))))))))))))))))
theorem mz_i_wsX7_otherwise_71 : (.methodLink RX1 34 yX1_rowOf : Cond) ∈ wsX7_otherwise := mz_mt (mz_ml (mz_ml (mz_ml (mz_ml (mz_mr (mz_mr (mz_ml (mz_mt (mz_mt (mz_mt (mz_mt (mz_mt (mz_mt (mz_mt (mz_mt (mz_mt (mz_mt (mz_mt (mz_mt (mz_mt (mz_mt (mz_mt (mz_mt (mz_mt (mz_mt (mz_mt (mz_mt (mz_mt (mz_mt mz_mh)))))))))))))))))))))))))))))
theorem mz_f_wsX7_otherwise_wsX60 : ∀ w ∈ wsX60, w ∈ wsX7_otherwise := fun _ h => mz_mt (mz_ml (mz_mr h))
theorem mz_f_wsX7_otherwise_wsX10 : ∀ w ∈ wsX10, w ∈ wsX7_otherwise := fun _ h => mz_mt (mz_mr h)
set_option maxRecDepth 20000 in
theorem ggX7_otherwise_X6_weigh : GoodIn wsX7_otherwise wsX6_weigh := goodIn_sub (mz_fc mz_i_wsX7_otherwise_30 (mz_fa (mz_fa (mz_fa (mz_fa (mz_fc mz_i_wsX7_otherwise_31 (mz_fc mz_i_wsX7_otherwise_32 (mz_fc mz_i_wsX7_otherwise_33 (mz_fc mz_i_wsX7_otherwise_34 (mz_fc mz_i_wsX7_otherwise_35 (mz_fc mz_i_wsX7_otherwise_17 (mz_fc mz_i_wsX7_otherwise_36 (mz_fc mz_i_wsX7_otherwise_19 (mz_fc mz_i_wsX7_otherwise_37 (mz_fc mz_i_wsX7_otherwise_38 (mz_fc mz_i_wsX7_otherwise_39 (mz_fc mz_i_wsX7_otherwise_40 (mz_fc mz_i_wsX7_otherwise_41 (mz_fc mz_i_wsX7_otherwise_42 (mz_fc mz_i_wsX7_otherwise_43 (mz_fc mz_i_wsX7_otherwise_44 (mz_fc mz_i_wsX7_otherwise_45 (mz_fc mz_i_wsX7_otherwise_46 (mz_fc mz_i_wsX7_otherwise_12 (mz_fc mz_i_wsX7_otherwise_47 (mz_fc mz_i_wsX7_otherwise_48 (mz_fc mz_i_wsX7_otherwise_49 (mz_fc mz_i_wsX7_otherwise_50 (mz_fc mz_i_wsX7_otherwise_51 mz_fn)))))))))))))))))))))))) (mz_fa (mz_fc mz_i_wsX7_otherwise_52 (mz_fc mz_i_wsX7_otherwise_53 (mz_fc mz_i_wsX7_otherwise_54 (mz_fc mz_i_wsX7_otherwise_55 (mz_fc mz_i_wsX7_otherwise_56 (mz_fc mz_i_wsX7_otherwise_24 (mz_fc mz_i_wsX7_otherwise_25 (mz_fc mz_i_wsX7_otherwise_57 (mz_fc mz_i_wsX7_otherwise_58 (mz_fc mz_i_wsX7_otherwise_59 (mz_fc mz_i_wsX7_otherwise_60 (mz_fc mz_i_wsX7_otherwise_61 (mz_fc mz_i_wsX7_otherwise_62 (mz_fc mz_i_wsX7_otherwise_63 (mz_fc mz_i_wsX7_otherwise_64 (mz_fc mz_i_wsX7_otherwise_65 (mz_fc mz_i_wsX7_otherwise_66 (mz_fc mz_i_wsX7_otherwise_67 (mz_fc mz_i_wsX7_otherwise_68 (mz_fc mz_i_wsX7_otherwise_69 (mz_fc mz_i_wsX7_otherwise_70 (mz_fc mz_i_wsX7_otherwise_15 (mz_fc mz_i_wsX7_otherwise_16 (mz_fc mz_i_wsX7_otherwise_18 mz_fn)))))))))))))))))))))))) (mz_fc mz_i_wsX7_otherwise_71 (mz_fc mz_i_wsX7_otherwise_72 (mz_fc mz_i_wsX7_otherwise_73 (mz_fc mz_i_wsX7_otherwise_74 (mz_fc mz_i_wsX7_otherwise_75 (mz_fc mz_i_wsX7_otherwise_76 (mz_fc mz_i_wsX7_otherwise_77 (mz_fc mz_i_wsX7_otherwise_78 (mz_fc mz_i_wsX7_otherwise_79 (mz_fc mz_i_wsX7_otherwise_80 (mz_fc mz_i_wsX7_otherwise_81 (mz_fc mz_i_wsX7_otherwise_82 (mz_fc mz_i_wsX7_otherwise_83 (mz_fc mz_i_wsX7_otherwise_84 (mz_fc mz_i_wsX7_otherwise_29 (mz_fc mz_i_wsX7_otherwise_85 (mz_fc mz_i_wsX7_otherwise_86 (mz_fc mz_i_wsX7_otherwise_87 mz_fn)))))))))))))))))))) (mz_f_wsX7_otherwise_wsX60)) (mz_f_wsX7_otherwise_wsX20)) (mz_f_wsX7_otherwise_wsX10))) (by decide +kernel)
theorem mz_i_wsX7_otherwise_28 : (.selects RX6 yX6_weigh yX6_weigh : Cond) ∈ wsX7_otherwise := mz_mt (mz_ml (mz_ml (mz_ml (mz_ml (mz_mr (mz_ml (mz_mt (mz_mt (mz_mt mz_mh)))))))))
theorem mz_i_wsX7_otherwise_27 : (.instanceMethod yX6_weigh : Cond) ∈ wsX7_otherwise := mz_mt (mz_ml (mz_ml (mz_ml (mz_ml (mz_mr (mz_ml (mz_mt (mz_mt mz_mh))))))))
theorem mz_i_wsX7_otherwise_26 : (.methodLink RX7 123 yX6_weigh : Cond) ∈ wsX7_otherwise := mz_mt (mz_ml (mz_ml (mz_ml (mz_ml (mz_mr (mz_ml (mz_mt mz_mh)))))))
set_option maxRecDepth 20000 in
theorem gX7_otherwise_X6_weigh : GoodIn wsX7_otherwise (wsV RX7 123 RX6 yX6_weigh wsX6_weigh) := goodIn_app (goodIn_sub (mz_fc mz_i_wsX7_otherwise_26 (mz_fc mz_i_wsX7_otherwise_27 (mz_fc mz_i_wsX7_otherwise_28 (mz_fc mz_i_wsX7_otherwise_29 mz_fn)))) (by decide +kernel)) ggX7_otherwise_X6_weigh
set_option maxRecDepth 20000 in
theorem ggX7_otherwise_X7_bit : GoodIn wsX7_otherwise wsX7_bit := goodIn_sub (mz_fc mz_i_wsX7_otherwise_25 (mz_fn)) (by decide +kernel)
set_option maxRecDepth 20000 in
theorem gX7_otherwise_X7_bit : GoodIn wsX7_otherwise (va_wsS RX7 73 yX7_bit wsX7_bit) := goodIn_app (goodIn_sub (mz_fc mz_i_wsX7_otherwise_23 (mz_fc mz_i_wsX7_otherwise_24 (mz_fc mz_i_wsX7_otherwise_12 mz_fn))) (by decide +kernel)) ggX7_otherwise_X7_bit
theorem mz_i_wsX7_otherwise_91 : (.code yX6_having cX6_having 9 (some .long) : Cond) ∈ wsX7_otherwise := mz_mt (mz_ml (mz_ml (mz_ml (mz_ml (mz_mr (mz_mr (mz_mr (mz_ml (mz_mt (mz_mt (mz_mt (mz_mt (mz_mt (mz_mt (mz_mt (mz_mt (mz_mt (mz_mt (mz_mt (mz_mt (mz_mt (mz_mt (mz_mt (mz_mt (mz_mt (mz_mt mz_mh))))))))))))))))))))))))))
set_option maxRecDepth 20000 in
theorem ggX7_otherwise_X6_having : GoodIn wsX7_otherwise wsX6_having := goodIn_sub (mz_fc mz_i_wsX7_otherwise_91 (mz_fa (mz_fc mz_i_wsX7_otherwise_31 (mz_fc mz_i_wsX7_otherwise_32 (mz_fc mz_i_wsX7_otherwise_48 (mz_fc mz_i_wsX7_otherwise_12 (mz_fc mz_i_wsX7_otherwise_49 (mz_fc mz_i_wsX7_otherwise_50 (mz_fc mz_i_wsX7_otherwise_51 (mz_fc mz_i_wsX7_otherwise_52 (mz_fc mz_i_wsX7_otherwise_53 (mz_fc mz_i_wsX7_otherwise_54 (mz_fc mz_i_wsX7_otherwise_55 (mz_fc mz_i_wsX7_otherwise_56 (mz_fc mz_i_wsX7_otherwise_86 (mz_fc mz_i_wsX7_otherwise_87 mz_fn)))))))))))))) (mz_f_wsX7_otherwise_wsX60))) (by decide +kernel)
theorem mz_i_wsX7_otherwise_90 : (.selects RX6 yX6_having yX6_having : Cond) ∈ wsX7_otherwise := mz_mt (mz_ml (mz_ml (mz_ml (mz_ml (mz_mr (mz_mr (mz_mr (mz_ml (mz_mt (mz_mt (mz_mt (mz_mt (mz_mt (mz_mt (mz_mt (mz_mt (mz_mt (mz_mt (mz_mt (mz_mt (mz_mt (mz_mt (mz_mt (mz_mt (mz_mt mz_mh)))))))))))))))))))))))))
theorem mz_i_wsX7_otherwise_89 : (.instanceMethod yX6_having : Cond) ∈ wsX7_otherwise := mz_mt (mz_ml (mz_ml (mz_ml (mz_ml (mz_mr (mz_mr (mz_mr (mz_ml (mz_mt (mz_mt (mz_mt (mz_mt (mz_mt (mz_mt (mz_mt (mz_mt (mz_mt (mz_mt (mz_mt (mz_mt (mz_mt (mz_mt (mz_mt (mz_mt mz_mh))))))))))))))))))))))))
theorem mz_i_wsX7_otherwise_88 : (.methodLink RX7 133 yX6_having : Cond) ∈ wsX7_otherwise := mz_mt (mz_ml (mz_ml (mz_ml (mz_ml (mz_mr (mz_mr (mz_mr (mz_ml (mz_mt (mz_mt (mz_mt (mz_mt (mz_mt (mz_mt (mz_mt (mz_mt (mz_mt (mz_mt (mz_mt (mz_mt (mz_mt (mz_mt (mz_mt mz_mh)))))))))))))))))))))))
set_option maxRecDepth 20000 in
theorem gX7_otherwise_X6_having : GoodIn wsX7_otherwise (wsV RX7 133 RX6 yX6_having wsX6_having) := goodIn_app (goodIn_sub (mz_fc mz_i_wsX7_otherwise_88 (mz_fc mz_i_wsX7_otherwise_89 (mz_fc mz_i_wsX7_otherwise_90 (mz_fc mz_i_wsX7_otherwise_29 mz_fn)))) (by decide +kernel)) ggX7_otherwise_X6_having
theorem mz_i_wsX7_otherwise_95 : (.code yX7_leastOfBoth cX7_leastOfBoth 10 (some .long) : Cond) ∈ wsX7_otherwise := mz_mt (mz_ml (mz_ml (mz_ml (mz_ml (mz_mr (mz_mr (mz_mr (mz_ml (mz_mt (mz_mt (mz_mt (mz_mt (mz_mt (mz_mt (mz_mt (mz_mt (mz_mt (mz_mt (mz_mt (mz_mt (mz_mt (mz_mt (mz_mt (mz_mt (mz_mt (mz_mt (mz_mt (mz_mt (mz_mt (mz_mt mz_mh))))))))))))))))))))))))))))))
theorem mz_i_wsX7_otherwise_8 : (.code Lib.MathLoose.max_long.x Lib.MathLoose.max_long.code 4 (some .long) : Cond) ∈ wsX7_otherwise := mz_mt (mz_ml (mz_ml (mz_ml (mz_ml (mz_ml (mz_mt (mz_mt (mz_mt (mz_mt (mz_mt (mz_mt (mz_mt mz_mh))))))))))))
theorem mz_i_wsX7_otherwise_7 : (.initialized "java/lang/Math" : Cond) ∈ wsX7_otherwise := mz_mt (mz_ml (mz_ml (mz_ml (mz_ml (mz_ml (mz_mt (mz_mt (mz_mt (mz_mt (mz_mt (mz_mt mz_mh)))))))))))
theorem mz_i_wsX7_otherwise_6 : (.static Lib.MathLoose.max_long.x : Cond) ∈ wsX7_otherwise := mz_mt (mz_ml (mz_ml (mz_ml (mz_ml (mz_ml (mz_mt (mz_mt (mz_mt (mz_mt (mz_mt mz_mh))))))))))
theorem mz_i_wsX7_otherwise_5 : (.methodLink RX7 199 Lib.MathLoose.max_long.x : Cond) ∈ wsX7_otherwise := mz_mt (mz_ml (mz_ml (mz_ml (mz_ml (mz_ml (mz_mt (mz_mt (mz_mt (mz_mt mz_mh)))))))))
theorem mz_i_wsX7_otherwise_2 : (.fieldLink RX7 29 "MadeItSo" "weights" "LMadeItSo$Weights;" : Cond) ∈ wsX7_otherwise := mz_mt (mz_ml (mz_ml (mz_ml (mz_ml (mz_ml (mz_mt mz_mh))))))
set_option maxRecDepth 20000 in
theorem ggX7_otherwise_X7_leastOfBoth : GoodIn wsX7_otherwise wsX7_leastOfBoth := goodIn_sub (mz_fc mz_i_wsX7_otherwise_95 (mz_fa (mz_fa (mz_fa (mz_fc mz_i_wsX7_otherwise_2 (mz_fc mz_i_wsX7_otherwise_5 (mz_fc mz_i_wsX7_otherwise_6 (mz_fc mz_i_wsX7_otherwise_7 (mz_fc mz_i_wsX7_otherwise_8 (mz_fc mz_i_wsX7_otherwise_23 (mz_fc mz_i_wsX7_otherwise_24 (mz_fc mz_i_wsX7_otherwise_12 (mz_fc mz_i_wsX7_otherwise_25 (mz_fc mz_i_wsX7_otherwise_88 (mz_fc mz_i_wsX7_otherwise_89 (mz_fc mz_i_wsX7_otherwise_90 (mz_fc mz_i_wsX7_otherwise_29 (mz_fc mz_i_wsX7_otherwise_91 (mz_fc mz_i_wsX7_otherwise_31 (mz_fc mz_i_wsX7_otherwise_32 (mz_fc mz_i_wsX7_otherwise_48 (mz_fc mz_i_wsX7_otherwise_49 (mz_fc mz_i_wsX7_otherwise_50 (mz_fc mz_i_wsX7_otherwise_51 (mz_fc mz_i_wsX7_otherwise_52 (mz_fc mz_i_wsX7_otherwise_53 (mz_fc mz_i_wsX7_otherwise_54 (mz_fc mz_i_wsX7_otherwise_55 mz_fn)))))))))))))))))))))))) (mz_fc mz_i_wsX7_otherwise_56 (mz_fc mz_i_wsX7_otherwise_86 (mz_fc mz_i_wsX7_otherwise_87 mz_fn)))) (mz_f_wsX7_otherwise_wsX70)) (mz_f_wsX7_otherwise_wsX60))) (by decide +kernel)
theorem mz_i_wsX7_otherwise_94 : (.selects RX7 yX7_leastOfBoth yX7_leastOfBoth : Cond) ∈ wsX7_otherwise := mz_mt (mz_ml (mz_ml (mz_ml (mz_ml (mz_mr (mz_mr (mz_mr (mz_ml (mz_mt (mz_mt (mz_mt (mz_mt (mz_mt (mz_mt (mz_mt (mz_mt (mz_mt (mz_mt (mz_mt (mz_mt (mz_mt (mz_mt (mz_mt (mz_mt (mz_mt (mz_mt (mz_mt (mz_mt (mz_mt mz_mh)))))))))))))))))))))))))))))
theorem mz_i_wsX7_otherwise_93 : (.instanceMethod yX7_leastOfBoth : Cond) ∈ wsX7_otherwise := mz_mt (mz_ml (mz_ml (mz_ml (mz_ml (mz_mr (mz_mr (mz_mr (mz_ml (mz_mt (mz_mt (mz_mt (mz_mt (mz_mt (mz_mt (mz_mt (mz_mt (mz_mt (mz_mt (mz_mt (mz_mt (mz_mt (mz_mt (mz_mt (mz_mt (mz_mt (mz_mt (mz_mt (mz_mt mz_mh))))))))))))))))))))))))))))
theorem mz_i_wsX7_otherwise_92 : (.methodLink RX7 191 yX7_leastOfBoth : Cond) ∈ wsX7_otherwise := mz_mt (mz_ml (mz_ml (mz_ml (mz_ml (mz_mr (mz_mr (mz_mr (mz_ml (mz_mt (mz_mt (mz_mt (mz_mt (mz_mt (mz_mt (mz_mt (mz_mt (mz_mt (mz_mt (mz_mt (mz_mt (mz_mt (mz_mt (mz_mt (mz_mt (mz_mt (mz_mt (mz_mt mz_mh)))))))))))))))))))))))))))
set_option maxRecDepth 20000 in
theorem gX7_otherwise_X7_leastOfBoth : GoodIn wsX7_otherwise (wsV RX7 191 RX7 yX7_leastOfBoth wsX7_leastOfBoth) := goodIn_app (goodIn_sub (mz_fc mz_i_wsX7_otherwise_92 (mz_fc mz_i_wsX7_otherwise_93 (mz_fc mz_i_wsX7_otherwise_94 (mz_fc mz_i_wsX7_otherwise_12 mz_fn)))) (by decide +kernel)) ggX7_otherwise_X7_leastOfBoth
theorem mz_i_wsX7_otherwise_99 : (.code yX7_mostOfBoth cX7_mostOfBoth 14 (some .long) : Cond) ∈ wsX7_otherwise := mz_mt (mz_ml (mz_ml (mz_ml (mz_ml (mz_mr (mz_mr (mz_mr (mz_mr (mz_mt (mz_mt mz_mh))))))))))
theorem mz_i_wsX7_otherwise_102 : (.code Lib.MathLoose.min_long.x Lib.MathLoose.min_long.code 4 (some .long) : Cond) ∈ wsX7_otherwise := mz_mt (mz_ml (mz_ml (mz_ml (mz_ml (mz_mr (mz_mr (mz_mr (mz_mr (mz_mt (mz_mt (mz_mt (mz_mt (mz_mt mz_mh)))))))))))))
theorem mz_i_wsX7_otherwise_101 : (.static Lib.MathLoose.min_long.x : Cond) ∈ wsX7_otherwise := mz_mt (mz_ml (mz_ml (mz_ml (mz_ml (mz_mr (mz_mr (mz_mr (mz_mr (mz_mt (mz_mt (mz_mt (mz_mt mz_mh))))))))))))
theorem mz_i_wsX7_otherwise_100 : (.methodLink RX7 236 Lib.MathLoose.min_long.x : Cond) ∈ wsX7_otherwise := mz_mt (mz_ml (mz_ml (mz_ml (mz_ml (mz_mr (mz_mr (mz_mr (mz_mr (mz_mt (mz_mt (mz_mt mz_mh)))))))))))
set_option maxRecDepth 20000 in
theorem ggX7_otherwise_X7_mostOfBoth : GoodIn wsX7_otherwise wsX7_mostOfBoth := goodIn_sub (mz_fc mz_i_wsX7_otherwise_99 (mz_fa (mz_fa (mz_fa (mz_fc mz_i_wsX7_otherwise_2 (mz_fc mz_i_wsX7_otherwise_100 (mz_fc mz_i_wsX7_otherwise_101 (mz_fc mz_i_wsX7_otherwise_7 (mz_fc mz_i_wsX7_otherwise_102 (mz_fc mz_i_wsX7_otherwise_23 (mz_fc mz_i_wsX7_otherwise_24 (mz_fc mz_i_wsX7_otherwise_12 (mz_fc mz_i_wsX7_otherwise_25 (mz_fc mz_i_wsX7_otherwise_88 (mz_fc mz_i_wsX7_otherwise_89 (mz_fc mz_i_wsX7_otherwise_90 (mz_fc mz_i_wsX7_otherwise_29 (mz_fc mz_i_wsX7_otherwise_91 (mz_fc mz_i_wsX7_otherwise_31 (mz_fc mz_i_wsX7_otherwise_32 (mz_fc mz_i_wsX7_otherwise_48 (mz_fc mz_i_wsX7_otherwise_49 (mz_fc mz_i_wsX7_otherwise_50 (mz_fc mz_i_wsX7_otherwise_51 (mz_fc mz_i_wsX7_otherwise_52 (mz_fc mz_i_wsX7_otherwise_53 (mz_fc mz_i_wsX7_otherwise_54 (mz_fc mz_i_wsX7_otherwise_55 mz_fn)))))))))))))))))))))))) (mz_fc mz_i_wsX7_otherwise_56 (mz_fc mz_i_wsX7_otherwise_86 (mz_fc mz_i_wsX7_otherwise_87 mz_fn)))) (mz_f_wsX7_otherwise_wsX70)) (mz_f_wsX7_otherwise_wsX60))) (by decide +kernel)
theorem mz_i_wsX7_otherwise_98 : (.selects RX7 yX7_mostOfBoth yX7_mostOfBoth : Cond) ∈ wsX7_otherwise := mz_mt (mz_ml (mz_ml (mz_ml (mz_ml (mz_mr (mz_mr (mz_mr (mz_mr (mz_mt mz_mh)))))))))
theorem mz_i_wsX7_otherwise_97 : (.instanceMethod yX7_mostOfBoth : Cond) ∈ wsX7_otherwise := mz_mt (mz_ml (mz_ml (mz_ml (mz_ml (mz_mr (mz_mr (mz_mr (mz_mr mz_mh))))))))
theorem mz_i_wsX7_otherwise_96 : (.methodLink RX7 195 yX7_mostOfBoth : Cond) ∈ wsX7_otherwise := mz_mt (mz_ml (mz_ml (mz_ml (mz_ml (mz_mr (mz_mr (mz_mr (mz_ml (mz_mt (mz_mt (mz_mt (mz_mt (mz_mt (mz_mt (mz_mt (mz_mt (mz_mt (mz_mt (mz_mt (mz_mt (mz_mt (mz_mt (mz_mt (mz_mt (mz_mt (mz_mt (mz_mt (mz_mt (mz_mt (mz_mt (mz_mt mz_mh)))))))))))))))))))))))))))))))
set_option maxRecDepth 20000 in
theorem gX7_otherwise_X7_mostOfBoth : GoodIn wsX7_otherwise (wsV RX7 195 RX7 yX7_mostOfBoth wsX7_mostOfBoth) := goodIn_app (goodIn_sub (mz_fc mz_i_wsX7_otherwise_96 (mz_fc mz_i_wsX7_otherwise_97 (mz_fc mz_i_wsX7_otherwise_98 (mz_fc mz_i_wsX7_otherwise_12 mz_fn)))) (by decide +kernel)) ggX7_otherwise_X7_mostOfBoth
theorem mz_i_wsX7_otherwise_106 : (.code yX7_mostOfNeed cX7_mostOfNeed 8 (some .long) : Cond) ∈ wsX7_otherwise := mz_mt (mz_ml (mz_ml (mz_ml (mz_ml (mz_mr (mz_mr (mz_mr (mz_mr (mz_mt (mz_mt (mz_mt (mz_mt (mz_mt (mz_mt (mz_mt (mz_mt (mz_mt mz_mh)))))))))))))))))
set_option maxRecDepth 20000 in
theorem ggX7_otherwise_X7_mostOfNeed : GoodIn wsX7_otherwise wsX7_mostOfNeed := goodIn_sub (mz_fc mz_i_wsX7_otherwise_106 (mz_fa (mz_fa (mz_fa (mz_fc mz_i_wsX7_otherwise_2 (mz_fc mz_i_wsX7_otherwise_100 (mz_fc mz_i_wsX7_otherwise_101 (mz_fc mz_i_wsX7_otherwise_7 (mz_fc mz_i_wsX7_otherwise_102 (mz_fc mz_i_wsX7_otherwise_23 (mz_fc mz_i_wsX7_otherwise_24 (mz_fc mz_i_wsX7_otherwise_12 (mz_fc mz_i_wsX7_otherwise_25 (mz_fc mz_i_wsX7_otherwise_88 (mz_fc mz_i_wsX7_otherwise_89 (mz_fc mz_i_wsX7_otherwise_90 (mz_fc mz_i_wsX7_otherwise_29 (mz_fc mz_i_wsX7_otherwise_91 (mz_fc mz_i_wsX7_otherwise_31 (mz_fc mz_i_wsX7_otherwise_32 (mz_fc mz_i_wsX7_otherwise_48 (mz_fc mz_i_wsX7_otherwise_49 (mz_fc mz_i_wsX7_otherwise_50 (mz_fc mz_i_wsX7_otherwise_51 (mz_fc mz_i_wsX7_otherwise_52 (mz_fc mz_i_wsX7_otherwise_53 (mz_fc mz_i_wsX7_otherwise_54 (mz_fc mz_i_wsX7_otherwise_55 mz_fn)))))))))))))))))))))))) (mz_fc mz_i_wsX7_otherwise_56 (mz_fc mz_i_wsX7_otherwise_86 (mz_fc mz_i_wsX7_otherwise_87 mz_fn)))) (mz_f_wsX7_otherwise_wsX70)) (mz_f_wsX7_otherwise_wsX60))) (by decide +kernel)
theorem mz_i_wsX7_otherwise_105 : (.selects RX7 yX7_mostOfNeed yX7_mostOfNeed : Cond) ∈ wsX7_otherwise := mz_mt (mz_ml (mz_ml (mz_ml (mz_ml (mz_mr (mz_mr (mz_mr (mz_mr (mz_mt (mz_mt (mz_mt (mz_mt (mz_mt (mz_mt (mz_mt (mz_mt mz_mh))))))))))))))))
theorem mz_i_wsX7_otherwise_104 : (.instanceMethod yX7_mostOfNeed : Cond) ∈ wsX7_otherwise := mz_mt (mz_ml (mz_ml (mz_ml (mz_ml (mz_mr (mz_mr (mz_mr (mz_mr (mz_mt (mz_mt (mz_mt (mz_mt (mz_mt (mz_mt (mz_mt mz_mh)))))))))))))))
theorem mz_i_wsX7_otherwise_103 : (.methodLink RX7 204 yX7_mostOfNeed : Cond) ∈ wsX7_otherwise := mz_mt (mz_ml (mz_ml (mz_ml (mz_ml (mz_mr (mz_mr (mz_mr (mz_mr (mz_mt (mz_mt (mz_mt (mz_mt (mz_mt (mz_mt mz_mh))))))))))))))
set_option maxRecDepth 20000 in
theorem gX7_otherwise_X7_mostOfNeed : GoodIn wsX7_otherwise (wsV RX7 204 RX7 yX7_mostOfNeed wsX7_mostOfNeed) := goodIn_app (goodIn_sub (mz_fc mz_i_wsX7_otherwise_103 (mz_fc mz_i_wsX7_otherwise_104 (mz_fc mz_i_wsX7_otherwise_105 (mz_fc mz_i_wsX7_otherwise_12 mz_fn)))) (by decide +kernel)) ggX7_otherwise_X7_mostOfNeed
theorem dX7_otherwise_0 : decode cX7_otherwise 0 = .ok (.aload_n 0, 1) := by decide +kernel
theorem dX7_otherwise_1 : decode cX7_otherwise 1 = .ok (.iload_n 1, 1) := by decide +kernel
theorem dX7_otherwise_2 : decode cX7_otherwise 2 = .ok (.iload_n 2, 1) := by decide +kernel
theorem dX7_otherwise_3 : decode cX7_otherwise 3 = .ok (.invokevirtual 151, 3) := by decide +kernel
theorem dX7_otherwise_6 : decode cX7_otherwise 6 = .ok (.ifCond .eq 12, 3) := by decide +kernel
theorem dX7_otherwise_9 : decode cX7_otherwise 9 = .ok (.iload_n 3, 1) := by decide +kernel
theorem dX7_otherwise_10 : decode cX7_otherwise 10 = .ok (.ifCond .lt 8, 3) := by decide +kernel
theorem dX7_otherwise_13 : decode cX7_otherwise 13 = .ok (.iload_n 3, 1) := by decide +kernel
theorem dX7_otherwise_14 : decode cX7_otherwise 14 = .ok (.iconst 4, 1) := by decide +kernel
theorem dX7_otherwise_15 : decode cX7_otherwise 15 = .ok (.if_icmp .le 7, 3) := by decide +kernel
theorem dX7_otherwise_18 : decode cX7_otherwise 18 = .ok (.ldc2_w 121, 3) := by decide +kernel
theorem dX7_otherwise_21 : decode cX7_otherwise 21 = .ok (.lreturn, 1) := by decide +kernel
theorem dX7_otherwise_22 : decode cX7_otherwise 22 = .ok (.aload_n 0, 1) := by decide +kernel
theorem dX7_otherwise_23 : decode cX7_otherwise 23 = .ok (.getfield 29, 3) := by decide +kernel
theorem dX7_otherwise_26 : decode cX7_otherwise 26 = .ok (.aload_n 0, 1) := by decide +kernel
theorem dX7_otherwise_27 : decode cX7_otherwise 27 = .ok (.getfield 12, 3) := by decide +kernel
theorem dX7_otherwise_30 : decode cX7_otherwise 30 = .ok (.aload_n 0, 1) := by decide +kernel
theorem dX7_otherwise_31 : decode cX7_otherwise 31 = .ok (.getfield 22, 3) := by decide +kernel
theorem dX7_otherwise_34 : decode cX7_otherwise 34 = .ok (.iload_n 1, 1) := by decide +kernel
theorem dX7_otherwise_35 : decode cX7_otherwise 35 = .ok (.iconst 1, 1) := by decide +kernel
theorem dX7_otherwise_36 : decode cX7_otherwise 36 = .ok (.invokestatic 177, 3) := by decide +kernel
theorem dX7_otherwise_39 : decode cX7_otherwise 39 = .ok (.invokevirtual 123, 3) := by decide +kernel
theorem dX7_otherwise_42 : decode cX7_otherwise 42 = .ok (.aload_n 0, 1) := by decide +kernel
theorem dX7_otherwise_43 : decode cX7_otherwise 43 = .ok (.getfield 29, 3) := by decide +kernel
theorem dX7_otherwise_46 : decode cX7_otherwise 46 = .ok (.iload_n 2, 1) := by decide +kernel
theorem dX7_otherwise_47 : decode cX7_otherwise 47 = .ok (.invokestatic 73, 3) := by decide +kernel
theorem dX7_otherwise_50 : decode cX7_otherwise 50 = .ok (.iload_n 2, 1) := by decide +kernel
theorem dX7_otherwise_51 : decode cX7_otherwise 51 = .ok (.invokestatic 73, 3) := by decide +kernel
theorem dX7_otherwise_54 : decode cX7_otherwise 54 = .ok (.invokevirtual 133, 3) := by decide +kernel
theorem dX7_otherwise_57 : decode cX7_otherwise 57 = .ok (.lstore 4, 2) := by decide +kernel
theorem dX7_otherwise_59 : decode cX7_otherwise 59 = .ok (.aload_n 0, 1) := by decide +kernel
theorem dX7_otherwise_60 : decode cX7_otherwise 60 = .ok (.getfield 29, 3) := by decide +kernel
theorem dX7_otherwise_63 : decode cX7_otherwise 63 = .ok (.aload_n 0, 1) := by decide +kernel
theorem dX7_otherwise_64 : decode cX7_otherwise 64 = .ok (.getfield 12, 3) := by decide +kernel
theorem dX7_otherwise_67 : decode cX7_otherwise 67 = .ok (.aload_n 0, 1) := by decide +kernel
theorem dX7_otherwise_68 : decode cX7_otherwise 68 = .ok (.getfield 22, 3) := by decide +kernel
theorem dX7_otherwise_71 : decode cX7_otherwise 71 = .ok (.iload_n 1, 1) := by decide +kernel
theorem dX7_otherwise_72 : decode cX7_otherwise 72 = .ok (.iconst 0, 1) := by decide +kernel
theorem dX7_otherwise_73 : decode cX7_otherwise 73 = .ok (.invokestatic 177, 3) := by decide +kernel
theorem dX7_otherwise_76 : decode cX7_otherwise 76 = .ok (.invokevirtual 123, 3) := by decide +kernel
theorem dX7_otherwise_79 : decode cX7_otherwise 79 = .ok (.aload_n 0, 1) := by decide +kernel
theorem dX7_otherwise_80 : decode cX7_otherwise 80 = .ok (.getfield 29, 3) := by decide +kernel
theorem dX7_otherwise_83 : decode cX7_otherwise 83 = .ok (.iload_n 2, 1) := by decide +kernel
theorem dX7_otherwise_84 : decode cX7_otherwise 84 = .ok (.invokestatic 73, 3) := by decide +kernel
theorem dX7_otherwise_87 : decode cX7_otherwise 87 = .ok (.iload_n 2, 1) := by decide +kernel
theorem dX7_otherwise_88 : decode cX7_otherwise 88 = .ok (.invokestatic 73, 3) := by decide +kernel
theorem dX7_otherwise_91 : decode cX7_otherwise 91 = .ok (.invokevirtual 133, 3) := by decide +kernel
theorem dX7_otherwise_94 : decode cX7_otherwise 94 = .ok (.lstore 6, 2) := by decide +kernel
theorem dX7_otherwise_96 : decode cX7_otherwise 96 = .ok (.aload_n 0, 1) := by decide +kernel
theorem dX7_otherwise_97 : decode cX7_otherwise 97 = .ok (.getfield 29, 3) := by decide +kernel
theorem dX7_otherwise_100 : decode cX7_otherwise 100 = .ok (.aload_n 0, 1) := by decide +kernel
theorem dX7_otherwise_101 : decode cX7_otherwise 101 = .ok (.getfield 12, 3) := by decide +kernel
theorem dX7_otherwise_104 : decode cX7_otherwise 104 = .ok (.aload_n 0, 1) := by decide +kernel
theorem dX7_otherwise_105 : decode cX7_otherwise 105 = .ok (.getfield 22, 3) := by decide +kernel
theorem dX7_otherwise_108 : decode cX7_otherwise 108 = .ok (.iconst 0, 1) := by decide +kernel
theorem dX7_otherwise_109 : decode cX7_otherwise 109 = .ok (.invokevirtual 123, 3) := by decide +kernel
theorem dX7_otherwise_112 : decode cX7_otherwise 112 = .ok (.iload_n 3, 1) := by decide +kernel
theorem dX7_otherwise_113 : decode cX7_otherwise 113 = .ok (.tableswitch 84 0 3 #[31, 41, 52, 75], 31) := by decide +kernel
theorem dX7_otherwise_144 : decode cX7_otherwise 144 = .ok (.aload_n 0, 1) := by decide +kernel
theorem dX7_otherwise_145 : decode cX7_otherwise 145 = .ok (.iload_n 2, 1) := by decide +kernel
theorem dX7_otherwise_146 : decode cX7_otherwise 146 = .ok (.lload 4, 2) := by decide +kernel
theorem dX7_otherwise_148 : decode cX7_otherwise 148 = .ok (.lload 6, 2) := by decide +kernel
theorem dX7_otherwise_150 : decode cX7_otherwise 150 = .ok (.invokevirtual 191, 3) := by decide +kernel
theorem dX7_otherwise_153 : decode cX7_otherwise 153 = .ok (.lreturn, 1) := by decide +kernel
theorem dX7_otherwise_154 : decode cX7_otherwise 154 = .ok (.aload_n 0, 1) := by decide +kernel
theorem dX7_otherwise_155 : decode cX7_otherwise 155 = .ok (.iload_n 1, 1) := by decide +kernel
theorem dX7_otherwise_156 : decode cX7_otherwise 156 = .ok (.iload_n 2, 1) := by decide +kernel
theorem dX7_otherwise_157 : decode cX7_otherwise 157 = .ok (.lload 4, 2) := by decide +kernel
theorem dX7_otherwise_159 : decode cX7_otherwise 159 = .ok (.lload 6, 2) := by decide +kernel
theorem dX7_otherwise_161 : decode cX7_otherwise 161 = .ok (.invokevirtual 195, 3) := by decide +kernel
theorem dX7_otherwise_164 : decode cX7_otherwise 164 = .ok (.lreturn, 1) := by decide +kernel
theorem dX7_otherwise_165 : decode cX7_otherwise 165 = .ok (.lconst 0, 1) := by decide +kernel
theorem dX7_otherwise_166 : decode cX7_otherwise 166 = .ok (.aload_n 0, 1) := by decide +kernel
theorem dX7_otherwise_167 : decode cX7_otherwise 167 = .ok (.getfield 29, 3) := by decide +kernel
theorem dX7_otherwise_170 : decode cX7_otherwise 170 = .ok (.iload_n 2, 1) := by decide +kernel
theorem dX7_otherwise_171 : decode cX7_otherwise 171 = .ok (.invokestatic 73, 3) := by decide +kernel
theorem dX7_otherwise_174 : decode cX7_otherwise 174 = .ok (.iload_n 2, 1) := by decide +kernel
theorem dX7_otherwise_175 : decode cX7_otherwise 175 = .ok (.invokestatic 73, 3) := by decide +kernel
theorem dX7_otherwise_178 : decode cX7_otherwise 178 = .ok (.invokevirtual 133, 3) := by decide +kernel
theorem dX7_otherwise_181 : decode cX7_otherwise 181 = .ok (.lload 6, 2) := by decide +kernel
theorem dX7_otherwise_183 : decode cX7_otherwise 183 = .ok (.lsub, 1) := by decide +kernel
theorem dX7_otherwise_184 : decode cX7_otherwise 184 = .ok (.invokestatic 199, 3) := by decide +kernel
theorem dX7_otherwise_187 : decode cX7_otherwise 187 = .ok (.lreturn, 1) := by decide +kernel
theorem dX7_otherwise_188 : decode cX7_otherwise 188 = .ok (.aload_n 0, 1) := by decide +kernel
theorem dX7_otherwise_189 : decode cX7_otherwise 189 = .ok (.iload_n 1, 1) := by decide +kernel
theorem dX7_otherwise_190 : decode cX7_otherwise 190 = .ok (.iload_n 2, 1) := by decide +kernel
theorem dX7_otherwise_191 : decode cX7_otherwise 191 = .ok (.lload 6, 2) := by decide +kernel
theorem dX7_otherwise_193 : decode cX7_otherwise 193 = .ok (.invokevirtual 204, 3) := by decide +kernel
theorem dX7_otherwise_196 : decode cX7_otherwise 196 = .ok (.lreturn, 1) := by decide +kernel
theorem dX7_otherwise_197 : decode cX7_otherwise 197 = .ok (.aload_n 0, 1) := by decide +kernel
theorem dX7_otherwise_198 : decode cX7_otherwise 198 = .ok (.getfield 29, 3) := by decide +kernel
theorem dX7_otherwise_201 : decode cX7_otherwise 201 = .ok (.iload_n 1, 1) := by decide +kernel
theorem dX7_otherwise_202 : decode cX7_otherwise 202 = .ok (.invokestatic 73, 3) := by decide +kernel
theorem dX7_otherwise_205 : decode cX7_otherwise 205 = .ok (.iload_n 2, 1) := by decide +kernel
theorem dX7_otherwise_206 : decode cX7_otherwise 206 = .ok (.invokestatic 73, 3) := by decide +kernel
theorem dX7_otherwise_209 : decode cX7_otherwise 209 = .ok (.ior, 1) := by decide +kernel
theorem dX7_otherwise_210 : decode cX7_otherwise 210 = .ok (.iload_n 1, 1) := by decide +kernel
theorem dX7_otherwise_211 : decode cX7_otherwise 211 = .ok (.invokestatic 73, 3) := by decide +kernel
theorem dX7_otherwise_214 : decode cX7_otherwise 214 = .ok (.iload_n 2, 1) := by decide +kernel
theorem dX7_otherwise_215 : decode cX7_otherwise 215 = .ok (.invokestatic 73, 3) := by decide +kernel
theorem dX7_otherwise_218 : decode cX7_otherwise 218 = .ok (.ior, 1) := by decide +kernel
theorem dX7_otherwise_219 : decode cX7_otherwise 219 = .ok (.invokevirtual 133, 3) := by decide +kernel
theorem dX7_otherwise_222 : decode cX7_otherwise 222 = .ok (.lreturn, 1) := by decide +kernel
theorem mz_i_wsX7_draw_8 : (.code yX7_isSetting cX7_isSetting 2 (some .boolean) : Cond) ∈ wsX7_draw := mz_mt (mz_ml (mz_ml (mz_ml (mz_ml (mz_mt (mz_mt (mz_mt (mz_mt (mz_mt (mz_mt (mz_mt mz_mh)))))))))))
theorem mz_i_wsX7_draw_24 : (.code yX7_onesOf cX7_onesOf 1 (some .int) : Cond) ∈ wsX7_draw := mz_mt (mz_ml (mz_ml (mz_ml (mz_ml (mz_mt (mz_mt (mz_mt (mz_mt (mz_mt (mz_mt (mz_mt (mz_mt (mz_mt (mz_mt (mz_mt (mz_mt (mz_mt (mz_mt (mz_mt (mz_mt (mz_mt (mz_mt (mz_mt (mz_mt (mz_mt (mz_mt (mz_mt mz_mh)))))))))))))))))))))))))))
theorem mz_i_wsX7_draw_23 : (.static yX7_onesOf : Cond) ∈ wsX7_draw := mz_mt (mz_ml (mz_ml (mz_ml (mz_ml (mz_mt (mz_mt (mz_mt (mz_mt (mz_mt (mz_mt (mz_mt (mz_mt (mz_mt (mz_mt (mz_mt (mz_mt (mz_mt (mz_mt (mz_mt (mz_mt (mz_mt (mz_mt (mz_mt (mz_mt (mz_mt (mz_mt mz_mh))))))))))))))))))))))))))
theorem mz_i_wsX7_draw_22 : (.methodLink RX7 130 yX7_onesOf : Cond) ∈ wsX7_draw := mz_mt (mz_ml (mz_ml (mz_ml (mz_ml (mz_mt (mz_mt (mz_mt (mz_mt (mz_mt (mz_mt (mz_mt (mz_mt (mz_mt (mz_mt (mz_mt (mz_mt (mz_mt (mz_mt (mz_mt (mz_mt (mz_mt (mz_mt (mz_mt (mz_mt (mz_mt mz_mh)))))))))))))))))))))))))
theorem mz_i_wsX7_draw_21 : (.fieldLink RX2 18 "MadeItSo$Drawing" "things" "I" : Cond) ∈ wsX7_draw := mz_mt (mz_ml (mz_ml (mz_ml (mz_ml (mz_mt (mz_mt (mz_mt (mz_mt (mz_mt (mz_mt (mz_mt (mz_mt (mz_mt (mz_mt (mz_mt (mz_mt (mz_mt (mz_mt (mz_mt (mz_mt (mz_mt (mz_mt (mz_mt (mz_mt mz_mh))))))))))))))))))))))))
theorem mz_i_wsX7_draw_20 : (.code yX2_everything cX2_everything 1 (some .int) : Cond) ∈ wsX7_draw := mz_mt (mz_ml (mz_ml (mz_ml (mz_ml (mz_mt (mz_mt (mz_mt (mz_mt (mz_mt (mz_mt (mz_mt (mz_mt (mz_mt (mz_mt (mz_mt (mz_mt (mz_mt (mz_mt (mz_mt (mz_mt (mz_mt (mz_mt (mz_mt mz_mh)))))))))))))))))))))))
theorem mz_i_wsX7_draw_19 : (.initialized RX2 : Cond) ∈ wsX7_draw := mz_mt (mz_ml (mz_ml (mz_ml (mz_ml (mz_mt (mz_mt (mz_mt (mz_mt (mz_mt (mz_mt (mz_mt (mz_mt (mz_mt (mz_mt (mz_mt (mz_mt (mz_mt (mz_mt (mz_mt (mz_mt (mz_mt (mz_mt mz_mh))))))))))))))))))))))
theorem mz_i_wsX7_draw_18 : (.selects RX2 yX2_everything yX2_everything : Cond) ∈ wsX7_draw := mz_mt (mz_ml (mz_ml (mz_ml (mz_ml (mz_mt (mz_mt (mz_mt (mz_mt (mz_mt (mz_mt (mz_mt (mz_mt (mz_mt (mz_mt (mz_mt (mz_mt (mz_mt (mz_mt (mz_mt (mz_mt (mz_mt mz_mh)))))))))))))))))))))
theorem mz_i_wsX7_draw_17 : (.instanceMethod yX2_everything : Cond) ∈ wsX7_draw := mz_mt (mz_ml (mz_ml (mz_ml (mz_ml (mz_mt (mz_mt (mz_mt (mz_mt (mz_mt (mz_mt (mz_mt (mz_mt (mz_mt (mz_mt (mz_mt (mz_mt (mz_mt (mz_mt (mz_mt (mz_mt mz_mh))))))))))))))))))))
theorem mz_i_wsX7_draw_16 : (.methodLink RX7 223 yX2_everything : Cond) ∈ wsX7_draw := mz_mt (mz_ml (mz_ml (mz_ml (mz_ml (mz_mt (mz_mt (mz_mt (mz_mt (mz_mt (mz_mt (mz_mt (mz_mt (mz_mt (mz_mt (mz_mt (mz_mt (mz_mt (mz_mt (mz_mt mz_mh)))))))))))))))))))
theorem mz_i_wsX7_draw_1 : (.fieldLink RX7 12 "MadeItSo" "drawing" "LMadeItSo$Drawing;" : Cond) ∈ wsX7_draw := mz_mt (mz_ml (mz_ml (mz_ml (mz_ml mz_mh))))
theorem mz_i_wsX7_draw_15 : (.code yX7_isHeap cX7_isHeap 2 (some .boolean) : Cond) ∈ wsX7_draw := mz_mt (mz_ml (mz_ml (mz_ml (mz_ml (mz_mt (mz_mt (mz_mt (mz_mt (mz_mt (mz_mt (mz_mt (mz_mt (mz_mt (mz_mt (mz_mt (mz_mt (mz_mt (mz_mt mz_mh))))))))))))))))))
theorem mz_i_wsX7_draw_14 : (.selects RX7 yX7_isHeap yX7_isHeap : Cond) ∈ wsX7_draw := mz_mt (mz_ml (mz_ml (mz_ml (mz_ml (mz_mt (mz_mt (mz_mt (mz_mt (mz_mt (mz_mt (mz_mt (mz_mt (mz_mt (mz_mt (mz_mt (mz_mt (mz_mt mz_mh)))))))))))))))))
theorem mz_i_wsX7_draw_13 : (.instanceMethod yX7_isHeap : Cond) ∈ wsX7_draw := mz_mt (mz_ml (mz_ml (mz_ml (mz_ml (mz_mt (mz_mt (mz_mt (mz_mt (mz_mt (mz_mt (mz_mt (mz_mt (mz_mt (mz_mt (mz_mt (mz_mt mz_mh))))))))))))))))
theorem mz_i_wsX7_draw_12 : (.methodLink RX7 144 yX7_isHeap : Cond) ∈ wsX7_draw := mz_mt (mz_ml (mz_ml (mz_ml (mz_ml (mz_mt (mz_mt (mz_mt (mz_mt (mz_mt (mz_mt (mz_mt (mz_mt (mz_mt (mz_mt (mz_mt mz_mh)))))))))))))))
theorem mz_i_wsX7_draw_11 : (.code yX7_heapOf cX7_heapOf 1 (some .int) : Cond) ∈ wsX7_draw := mz_mt (mz_ml (mz_ml (mz_ml (mz_ml (mz_mt (mz_mt (mz_mt (mz_mt (mz_mt (mz_mt (mz_mt (mz_mt (mz_mt (mz_mt mz_mh))))))))))))))
theorem mz_i_wsX7_draw_7 : (.initialized RX7 : Cond) ∈ wsX7_draw := mz_mt (mz_ml (mz_ml (mz_ml (mz_ml (mz_mt (mz_mt (mz_mt (mz_mt (mz_mt (mz_mt mz_mh))))))))))
theorem mz_i_wsX7_draw_10 : (.static yX7_heapOf : Cond) ∈ wsX7_draw := mz_mt (mz_ml (mz_ml (mz_ml (mz_ml (mz_mt (mz_mt (mz_mt (mz_mt (mz_mt (mz_mt (mz_mt (mz_mt (mz_mt mz_mh)))))))))))))
theorem mz_i_wsX7_draw_9 : (.methodLink RX7 127 yX7_heapOf : Cond) ∈ wsX7_draw := mz_mt (mz_ml (mz_ml (mz_ml (mz_ml (mz_mt (mz_mt (mz_mt (mz_mt (mz_mt (mz_mt (mz_mt (mz_mt mz_mh))))))))))))
theorem mz_f_wsX7_draw_wsX70 : ∀ w ∈ wsX70, w ∈ wsX7_draw := fun _ h => mz_mt (mz_ml (mz_ml (mz_mr h)))
theorem mz_f_wsX7_draw_wsX20 : ∀ w ∈ wsX20, w ∈ wsX7_draw := fun _ h => mz_mt (mz_ml (mz_mr h))
set_option maxRecDepth 20000 in
theorem ggX7_draw_X7_isSetting : GoodIn wsX7_draw wsX7_isSetting := goodIn_sub (mz_fc mz_i_wsX7_draw_8 (mz_fa (mz_fa (mz_fc mz_i_wsX7_draw_9 (mz_fc mz_i_wsX7_draw_10 (mz_fc mz_i_wsX7_draw_7 (mz_fc mz_i_wsX7_draw_11 (mz_fc mz_i_wsX7_draw_12 (mz_fc mz_i_wsX7_draw_13 (mz_fc mz_i_wsX7_draw_14 (mz_fc mz_i_wsX7_draw_15 (mz_fc mz_i_wsX7_draw_1 (mz_fc mz_i_wsX7_draw_16 (mz_fc mz_i_wsX7_draw_17 (mz_fc mz_i_wsX7_draw_18 (mz_fc mz_i_wsX7_draw_19 (mz_fc mz_i_wsX7_draw_20 (mz_fc mz_i_wsX7_draw_21 (mz_fc mz_i_wsX7_draw_22 (mz_fc mz_i_wsX7_draw_23 (mz_fc mz_i_wsX7_draw_24 mz_fn)))))))))))))))))) (mz_f_wsX7_draw_wsX70)) (mz_f_wsX7_draw_wsX20))) (by decide +kernel)
theorem mz_i_wsX7_draw_6 : (.selects RX7 yX7_isSetting yX7_isSetting : Cond) ∈ wsX7_draw := mz_mt (mz_ml (mz_ml (mz_ml (mz_ml (mz_mt (mz_mt (mz_mt (mz_mt (mz_mt mz_mh)))))))))
theorem mz_i_wsX7_draw_5 : (.instanceMethod yX7_isSetting : Cond) ∈ wsX7_draw := mz_mt (mz_ml (mz_ml (mz_ml (mz_ml (mz_mt (mz_mt (mz_mt (mz_mt mz_mh))))))))
theorem mz_i_wsX7_draw_4 : (.methodLink RX7 118 yX7_isSetting : Cond) ∈ wsX7_draw := mz_mt (mz_ml (mz_ml (mz_ml (mz_ml (mz_mt (mz_mt (mz_mt mz_mh)))))))
set_option maxRecDepth 20000 in
theorem gX7_draw_X7_isSetting : GoodIn wsX7_draw (wsV RX7 118 RX7 yX7_isSetting wsX7_isSetting) := goodIn_app (goodIn_sub (mz_fc mz_i_wsX7_draw_4 (mz_fc mz_i_wsX7_draw_5 (mz_fc mz_i_wsX7_draw_6 (mz_fc mz_i_wsX7_draw_7 mz_fn)))) (by decide +kernel)) ggX7_draw_X7_isSetting
theorem mz_i_wsX7_draw_28 : (.code yX2_size cX2_size 1 (some .int) : Cond) ∈ wsX7_draw := mz_mt (mz_ml (mz_ml (mz_ml (mz_mr (mz_ml (mz_mt (mz_mt (mz_mt mz_mh))))))))
set_option maxRecDepth 20000 in
theorem ggX7_draw_X2_size : GoodIn wsX7_draw wsX2_size := goodIn_sub (mz_fc mz_i_wsX7_draw_28 (mz_fa (mz_fc mz_i_wsX7_draw_21 mz_fn) (mz_f_wsX7_draw_wsX20))) (by decide +kernel)
theorem mz_i_wsX7_draw_27 : (.selects RX2 yX2_size yX2_size : Cond) ∈ wsX7_draw := mz_mt (mz_ml (mz_ml (mz_ml (mz_mr (mz_ml (mz_mt (mz_mt mz_mh)))))))
theorem mz_i_wsX7_draw_26 : (.instanceMethod yX2_size : Cond) ∈ wsX7_draw := mz_mt (mz_ml (mz_ml (mz_ml (mz_mr (mz_ml (mz_mt mz_mh))))))
theorem mz_i_wsX7_draw_25 : (.methodLink RX7 208 yX2_size : Cond) ∈ wsX7_draw := mz_mt (mz_ml (mz_ml (mz_ml (mz_mr (mz_ml mz_mh)))))
set_option maxRecDepth 20000 in
theorem gX7_draw_X2_size : GoodIn wsX7_draw (wsV RX7 208 RX2 yX2_size wsX2_size) := goodIn_app (goodIn_sub (mz_fc mz_i_wsX7_draw_25 (mz_fc mz_i_wsX7_draw_26 (mz_fc mz_i_wsX7_draw_27 (mz_fc mz_i_wsX7_draw_19 mz_fn)))) (by decide +kernel)) ggX7_draw_X2_size
theorem mz_i_wsX7_draw_32 : (.code yX2_nextAfter cX2_nextAfter 3 (some .int) : Cond) ∈ wsX7_draw := mz_mt (mz_ml (mz_ml (mz_ml (mz_mr (mz_ml (mz_mt (mz_mt (mz_mt (mz_mt (mz_mt (mz_mt (mz_mt mz_mh))))))))))))
theorem mz_i_wsX7_draw_35 : (.code yX7_inHeap cX7_inHeap 2 (some .boolean) : Cond) ∈ wsX7_draw := mz_mt (mz_ml (mz_ml (mz_ml (mz_mr (mz_ml (mz_mt (mz_mt (mz_mt (mz_mt (mz_mt (mz_mt (mz_mt (mz_mt (mz_mt (mz_mt mz_mh)))))))))))))))
theorem mz_i_wsX7_draw_34 : (.static yX7_inHeap : Cond) ∈ wsX7_draw := mz_mt (mz_ml (mz_ml (mz_ml (mz_mr (mz_ml (mz_mt (mz_mt (mz_mt (mz_mt (mz_mt (mz_mt (mz_mt (mz_mt (mz_mt mz_mh))))))))))))))
theorem mz_i_wsX7_draw_33 : (.fieldLink RX2 9 "MadeItSo$Drawing" "parents" "[I" : Cond) ∈ wsX7_draw := mz_mt (mz_ml (mz_ml (mz_ml (mz_mr (mz_ml (mz_mt (mz_mt (mz_mt (mz_mt (mz_mt (mz_mt (mz_mt (mz_mt mz_mh)))))))))))))
set_option maxRecDepth 20000 in
theorem ggX7_draw_X2_nextAfter : GoodIn wsX7_draw wsX2_nextAfter := goodIn_sub (mz_fc mz_i_wsX7_draw_32 (mz_fa (mz_fc mz_i_wsX7_draw_21 (mz_fc mz_i_wsX7_draw_33 (mz_fc mz_i_wsX7_draw_34 (mz_fc mz_i_wsX7_draw_7 (mz_fc mz_i_wsX7_draw_35 mz_fn))))) (mz_f_wsX7_draw_wsX20))) (by decide +kernel)
theorem mz_i_wsX7_draw_31 : (.selects RX2 yX2_nextAfter yX2_nextAfter : Cond) ∈ wsX7_draw := mz_mt (mz_ml (mz_ml (mz_ml (mz_mr (mz_ml (mz_mt (mz_mt (mz_mt (mz_mt (mz_mt (mz_mt mz_mh)))))))))))
theorem mz_i_wsX7_draw_30 : (.instanceMethod yX2_nextAfter : Cond) ∈ wsX7_draw := mz_mt (mz_ml (mz_ml (mz_ml (mz_mr (mz_ml (mz_mt (mz_mt (mz_mt (mz_mt (mz_mt mz_mh))))))))))
theorem mz_i_wsX7_draw_29 : (.methodLink RX7 209 yX2_nextAfter : Cond) ∈ wsX7_draw := mz_mt (mz_ml (mz_ml (mz_ml (mz_mr (mz_ml (mz_mt (mz_mt (mz_mt (mz_mt mz_mh)))))))))
set_option maxRecDepth 20000 in
theorem gX7_draw_X2_nextAfter : GoodIn wsX7_draw (wsV RX7 209 RX2 yX2_nextAfter wsX2_nextAfter) := goodIn_app (goodIn_sub (mz_fc mz_i_wsX7_draw_29 (mz_fc mz_i_wsX7_draw_30 (mz_fc mz_i_wsX7_draw_31 (mz_fc mz_i_wsX7_draw_19 mz_fn)))) (by decide +kernel)) ggX7_draw_X2_nextAfter
theorem mz_i_wsX7_draw_40 : (.code yX1_partsUnder cX1_partsUnder 5 (some .int) : Cond) ∈ wsX7_draw := mz_mt (mz_ml (mz_ml (mz_ml (mz_mr (mz_ml (mz_mt (mz_mt (mz_mt (mz_mt (mz_mt (mz_mt (mz_mt (mz_mt (mz_mt (mz_mt (mz_mt (mz_mt (mz_mt (mz_mt (mz_mt mz_mh))))))))))))))))))))
theorem mz_i_wsX7_draw_53 : (.instanceMethod yX1_read : Cond) ∈ wsX7_draw := mz_mt (mz_ml (mz_ml (mz_ml (mz_mr (mz_mr (mz_mt (mz_mt (mz_mt (mz_mt mz_mh)))))))))
theorem mz_i_wsX7_draw_52 : (.methodLink RX1 38 yX1_read : Cond) ∈ wsX7_draw := mz_mt (mz_ml (mz_ml (mz_ml (mz_mr (mz_mr (mz_mt (mz_mt (mz_mt mz_mh))))))))
theorem mz_i_wsX7_draw_51 : (.code yX1_rowOf cX1_rowOf 5 (some .int) : Cond) ∈ wsX7_draw := mz_mt (mz_ml (mz_ml (mz_ml (mz_mr (mz_mr (mz_mt (mz_mt mz_mh)))))))
theorem mz_i_wsX7_draw_39 : (.initialized RX1 : Cond) ∈ wsX7_draw := mz_mt (mz_ml (mz_ml (mz_ml (mz_mr (mz_ml (mz_mt (mz_mt (mz_mt (mz_mt (mz_mt (mz_mt (mz_mt (mz_mt (mz_mt (mz_mt (mz_mt (mz_mt (mz_mt (mz_mt mz_mh)))))))))))))))))))
theorem mz_i_wsX7_draw_50 : (.static yX1_rowOf : Cond) ∈ wsX7_draw := mz_mt (mz_ml (mz_ml (mz_ml (mz_mr (mz_mr (mz_mt mz_mh))))))
theorem mz_i_wsX7_draw_49 : (.methodLink RX1 34 yX1_rowOf : Cond) ∈ wsX7_draw := mz_mt (mz_ml (mz_ml (mz_ml (mz_mr (mz_mr mz_mh)))))
theorem mz_i_wsX7_draw_48 : (.code yX2_has cX2_has 2 (some .boolean) : Cond) ∈ wsX7_draw := mz_mt (mz_ml (mz_ml (mz_ml (mz_mr (mz_ml (mz_mt (mz_mt (mz_mt (mz_mt (mz_mt (mz_mt (mz_mt (mz_mt (mz_mt (mz_mt (mz_mt (mz_mt (mz_mt (mz_mt (mz_mt (mz_mt (mz_mt (mz_mt (mz_mt (mz_mt (mz_mt (mz_mt (mz_mt mz_mh))))))))))))))))))))))))))))
theorem mz_i_wsX7_draw_47 : (.selects RX2 yX2_has yX2_has : Cond) ∈ wsX7_draw := mz_mt (mz_ml (mz_ml (mz_ml (mz_mr (mz_ml (mz_mt (mz_mt (mz_mt (mz_mt (mz_mt (mz_mt (mz_mt (mz_mt (mz_mt (mz_mt (mz_mt (mz_mt (mz_mt (mz_mt (mz_mt (mz_mt (mz_mt (mz_mt (mz_mt (mz_mt (mz_mt (mz_mt mz_mh)))))))))))))))))))))))))))
theorem mz_i_wsX7_draw_46 : (.instanceMethod yX2_has : Cond) ∈ wsX7_draw := mz_mt (mz_ml (mz_ml (mz_ml (mz_mr (mz_ml (mz_mt (mz_mt (mz_mt (mz_mt (mz_mt (mz_mt (mz_mt (mz_mt (mz_mt (mz_mt (mz_mt (mz_mt (mz_mt (mz_mt (mz_mt (mz_mt (mz_mt (mz_mt (mz_mt (mz_mt (mz_mt mz_mh))))))))))))))))))))))))))
theorem mz_i_wsX7_draw_45 : (.methodLink RX2 22 yX2_has : Cond) ∈ wsX7_draw := mz_mt (mz_ml (mz_ml (mz_ml (mz_mr (mz_ml (mz_mt (mz_mt (mz_mt (mz_mt (mz_mt (mz_mt (mz_mt (mz_mt (mz_mt (mz_mt (mz_mt (mz_mt (mz_mt (mz_mt (mz_mt (mz_mt (mz_mt (mz_mt (mz_mt (mz_mt mz_mh)))))))))))))))))))))))))
theorem mz_i_wsX7_draw_44 : (.code yX2_parentsOf cX2_parentsOf 2 (some .int) : Cond) ∈ wsX7_draw := mz_mt (mz_ml (mz_ml (mz_ml (mz_mr (mz_ml (mz_mt (mz_mt (mz_mt (mz_mt (mz_mt (mz_mt (mz_mt (mz_mt (mz_mt (mz_mt (mz_mt (mz_mt (mz_mt (mz_mt (mz_mt (mz_mt (mz_mt (mz_mt (mz_mt mz_mh))))))))))))))))))))))))
theorem mz_i_wsX7_draw_43 : (.selects RX2 yX2_parentsOf yX2_parentsOf : Cond) ∈ wsX7_draw := mz_mt (mz_ml (mz_ml (mz_ml (mz_mr (mz_ml (mz_mt (mz_mt (mz_mt (mz_mt (mz_mt (mz_mt (mz_mt (mz_mt (mz_mt (mz_mt (mz_mt (mz_mt (mz_mt (mz_mt (mz_mt (mz_mt (mz_mt (mz_mt mz_mh)))))))))))))))))))))))
theorem mz_i_wsX7_draw_42 : (.instanceMethod yX2_parentsOf : Cond) ∈ wsX7_draw := mz_mt (mz_ml (mz_ml (mz_ml (mz_mr (mz_ml (mz_mt (mz_mt (mz_mt (mz_mt (mz_mt (mz_mt (mz_mt (mz_mt (mz_mt (mz_mt (mz_mt (mz_mt (mz_mt (mz_mt (mz_mt (mz_mt (mz_mt mz_mh))))))))))))))))))))))
theorem mz_i_wsX7_draw_41 : (.methodLink RX1 29 yX2_parentsOf : Cond) ∈ wsX7_draw := mz_mt (mz_ml (mz_ml (mz_ml (mz_mr (mz_ml (mz_mt (mz_mt (mz_mt (mz_mt (mz_mt (mz_mt (mz_mt (mz_mt (mz_mt (mz_mt (mz_mt (mz_mt (mz_mt (mz_mt (mz_mt (mz_mt mz_mh)))))))))))))))))))))
theorem mz_i_wsX7_draw_59 : (.code yX1_isPlace cX1_isPlace 2 (some .boolean) : Cond) ∈ wsX7_draw := mz_mt (mz_ml (mz_ml (mz_ml (mz_mr (mz_mr (mz_mt (mz_mt (mz_mt (mz_mt (mz_mt (mz_mt (mz_mt (mz_mt (mz_mt (mz_mt mz_mh)))))))))))))))
theorem mz_i_wsX7_draw_58 : (.static yX1_isPlace : Cond) ∈ wsX7_draw := mz_mt (mz_ml (mz_ml (mz_ml (mz_mr (mz_mr (mz_mt (mz_mt (mz_mt (mz_mt (mz_mt (mz_mt (mz_mt (mz_mt (mz_mt mz_mh))))))))))))))
theorem mz_i_wsX7_draw_57 : (.methodLink RX1 15 yX1_isPlace : Cond) ∈ wsX7_draw := mz_mt (mz_ml (mz_ml (mz_ml (mz_mr (mz_mr (mz_mt (mz_mt (mz_mt (mz_mt (mz_mt (mz_mt (mz_mt (mz_mt mz_mh)))))))))))))
theorem mz_i_wsX7_draw_56 : (.fieldLink RX1 9 "MadeItSo$Books" "parts" "[I" : Cond) ∈ wsX7_draw := mz_mt (mz_ml (mz_ml (mz_ml (mz_mr (mz_mr (mz_mt (mz_mt (mz_mt (mz_mt (mz_mt (mz_mt (mz_mt mz_mh))))))))))))
theorem mz_i_wsX7_draw_55 : (.code yX1_read cX1_read 3 (some .int) : Cond) ∈ wsX7_draw := mz_mt (mz_ml (mz_ml (mz_ml (mz_mr (mz_mr (mz_mt (mz_mt (mz_mt (mz_mt (mz_mt (mz_mt mz_mh)))))))))))
theorem mz_i_wsX7_draw_54 : (.selects RX1 yX1_read yX1_read : Cond) ∈ wsX7_draw := mz_mt (mz_ml (mz_ml (mz_ml (mz_mr (mz_mr (mz_mt (mz_mt (mz_mt (mz_mt (mz_mt mz_mh))))))))))
theorem mz_f_wsX7_draw_wsX10 : ∀ w ∈ wsX10, w ∈ wsX7_draw := fun _ h => mz_mt (mz_mr h)
set_option maxRecDepth 20000 in
theorem ggX7_draw_X1_partsUnder : GoodIn wsX7_draw wsX1_partsUnder := goodIn_sub (mz_fc mz_i_wsX7_draw_40 (mz_fa (mz_fa (mz_fa (mz_fc mz_i_wsX7_draw_10 (mz_fc mz_i_wsX7_draw_7 (mz_fc mz_i_wsX7_draw_11 (mz_fc mz_i_wsX7_draw_34 (mz_fc mz_i_wsX7_draw_35 (mz_fc mz_i_wsX7_draw_23 (mz_fc mz_i_wsX7_draw_24 (mz_fc mz_i_wsX7_draw_41 (mz_fc mz_i_wsX7_draw_42 (mz_fc mz_i_wsX7_draw_43 (mz_fc mz_i_wsX7_draw_19 (mz_fc mz_i_wsX7_draw_44 (mz_fc mz_i_wsX7_draw_33 (mz_fc mz_i_wsX7_draw_45 (mz_fc mz_i_wsX7_draw_46 (mz_fc mz_i_wsX7_draw_47 (mz_fc mz_i_wsX7_draw_48 (mz_fc mz_i_wsX7_draw_21 (mz_fc mz_i_wsX7_draw_49 (mz_fc mz_i_wsX7_draw_50 (mz_fc mz_i_wsX7_draw_39 (mz_fc mz_i_wsX7_draw_51 (mz_fc mz_i_wsX7_draw_52 (mz_fc mz_i_wsX7_draw_53 mz_fn)))))))))))))))))))))))) (mz_fc mz_i_wsX7_draw_54 (mz_fc mz_i_wsX7_draw_55 (mz_fc mz_i_wsX7_draw_56 (mz_fc mz_i_wsX7_draw_57 (mz_fc mz_i_wsX7_draw_58 (mz_fc mz_i_wsX7_draw_59 mz_fn))))))) (mz_f_wsX7_draw_wsX20)) (mz_f_wsX7_draw_wsX10))) (by decide +kernel)
theorem mz_i_wsX7_draw_38 : (.selects RX1 yX1_partsUnder yX1_partsUnder : Cond) ∈ wsX7_draw := mz_mt (mz_ml (mz_ml (mz_ml (mz_mr (mz_ml (mz_mt (mz_mt (mz_mt (mz_mt (mz_mt (mz_mt (mz_mt (mz_mt (mz_mt (mz_mt (mz_mt (mz_mt (mz_mt mz_mh))))))))))))))))))
theorem mz_i_wsX7_draw_37 : (.instanceMethod yX1_partsUnder : Cond) ∈ wsX7_draw := mz_mt (mz_ml (mz_ml (mz_ml (mz_mr (mz_ml (mz_mt (mz_mt (mz_mt (mz_mt (mz_mt (mz_mt (mz_mt (mz_mt (mz_mt (mz_mt (mz_mt (mz_mt mz_mh)))))))))))))))))
theorem mz_i_wsX7_draw_36 : (.methodLink RX7 213 yX1_partsUnder : Cond) ∈ wsX7_draw := mz_mt (mz_ml (mz_ml (mz_ml (mz_mr (mz_ml (mz_mt (mz_mt (mz_mt (mz_mt (mz_mt (mz_mt (mz_mt (mz_mt (mz_mt (mz_mt (mz_mt mz_mh))))))))))))))))
set_option maxRecDepth 20000 in
theorem gX7_draw_X1_partsUnder : GoodIn wsX7_draw (wsV RX7 213 RX1 yX1_partsUnder wsX1_partsUnder) := goodIn_app (goodIn_sub (mz_fc mz_i_wsX7_draw_36 (mz_fc mz_i_wsX7_draw_37 (mz_fc mz_i_wsX7_draw_38 (mz_fc mz_i_wsX7_draw_39 mz_fn)))) (by decide +kernel)) ggX7_draw_X1_partsUnder
theorem mz_i_wsX7_draw_62 : (.code yX7_bit cX7_bit 1 (some .int) : Cond) ∈ wsX7_draw := mz_mt (mz_ml (mz_ml (mz_ml (mz_mr (mz_mr (mz_mt (mz_mt (mz_mt (mz_mt (mz_mt (mz_mt (mz_mt (mz_mt (mz_mt (mz_mt (mz_mt (mz_mt (mz_mt mz_mh))))))))))))))))))
set_option maxRecDepth 20000 in
theorem ggX7_draw_X7_bit : GoodIn wsX7_draw wsX7_bit := goodIn_sub (mz_fc mz_i_wsX7_draw_62 (mz_fn)) (by decide +kernel)
theorem mz_i_wsX7_draw_61 : (.static yX7_bit : Cond) ∈ wsX7_draw := mz_mt (mz_ml (mz_ml (mz_ml (mz_mr (mz_mr (mz_mt (mz_mt (mz_mt (mz_mt (mz_mt (mz_mt (mz_mt (mz_mt (mz_mt (mz_mt (mz_mt (mz_mt mz_mh)))))))))))))))))
theorem mz_i_wsX7_draw_60 : (.methodLink RX7 73 yX7_bit : Cond) ∈ wsX7_draw := mz_mt (mz_ml (mz_ml (mz_ml (mz_mr (mz_mr (mz_mt (mz_mt (mz_mt (mz_mt (mz_mt (mz_mt (mz_mt (mz_mt (mz_mt (mz_mt (mz_mt mz_mh))))))))))))))))
set_option maxRecDepth 20000 in
theorem gX7_draw_X7_bit : GoodIn wsX7_draw (va_wsS RX7 73 yX7_bit wsX7_bit) := goodIn_app (goodIn_sub (mz_fc mz_i_wsX7_draw_60 (mz_fc mz_i_wsX7_draw_61 (mz_fc mz_i_wsX7_draw_7 mz_fn))) (by decide +kernel)) ggX7_draw_X7_bit
theorem dX7_draw_0 : decode cX7_draw 0 = .ok (.aload_n 0, 1) := by decide +kernel
theorem dX7_draw_1 : decode cX7_draw 1 = .ok (.iload_n 2, 1) := by decide +kernel
theorem dX7_draw_2 : decode cX7_draw 2 = .ok (.invokevirtual 118, 3) := by decide +kernel
theorem dX7_draw_5 : decode cX7_draw 5 = .ok (.ifCond .ne 5, 3) := by decide +kernel
theorem dX7_draw_8 : decode cX7_draw 8 = .ok (.iconst (-1), 1) := by decide +kernel
theorem dX7_draw_9 : decode cX7_draw 9 = .ok (.ireturn, 1) := by decide +kernel
theorem dX7_draw_10 : decode cX7_draw 10 = .ok (.iload_n 1, 1) := by decide +kernel
theorem dX7_draw_11 : decode cX7_draw 11 = .ok (.istore_n 3, 1) := by decide +kernel
theorem dX7_draw_12 : decode cX7_draw 12 = .ok (.iconst 0, 1) := by decide +kernel
theorem dX7_draw_13 : decode cX7_draw 13 = .ok (.istore 4, 2) := by decide +kernel
theorem dX7_draw_15 : decode cX7_draw 15 = .ok (.iconst 0, 1) := by decide +kernel
theorem dX7_draw_16 : decode cX7_draw 16 = .ok (.istore 5, 2) := by decide +kernel
theorem dX7_draw_18 : decode cX7_draw 18 = .ok (.iconst 0, 1) := by decide +kernel
theorem dX7_draw_19 : decode cX7_draw 19 = .ok (.istore 6, 2) := by decide +kernel
theorem dX7_draw_21 : decode cX7_draw 21 = .ok (.iload 6, 2) := by decide +kernel
theorem dX7_draw_23 : decode cX7_draw 23 = .ok (.aload_n 0, 1) := by decide +kernel
theorem dX7_draw_24 : decode cX7_draw 24 = .ok (.getfield 12, 3) := by decide +kernel
theorem dX7_draw_27 : decode cX7_draw 27 = .ok (.invokevirtual 208, 3) := by decide +kernel
theorem dX7_draw_30 : decode cX7_draw 30 = .ok (.if_icmp .ge 84, 3) := by decide +kernel
theorem dX7_draw_33 : decode cX7_draw 33 = .ok (.aload_n 0, 1) := by decide +kernel
theorem dX7_draw_34 : decode cX7_draw 34 = .ok (.getfield 12, 3) := by decide +kernel
theorem dX7_draw_37 : decode cX7_draw 37 = .ok (.iload 4, 2) := by decide +kernel
theorem dX7_draw_39 : decode cX7_draw 39 = .ok (.invokevirtual 209, 3) := by decide +kernel
theorem dX7_draw_42 : decode cX7_draw 42 = .ok (.istore 7, 2) := by decide +kernel
theorem dX7_draw_44 : decode cX7_draw 44 = .ok (.iload 7, 2) := by decide +kernel
theorem dX7_draw_46 : decode cX7_draw 46 = .ok (.iconst (-1), 1) := by decide +kernel
theorem dX7_draw_47 : decode cX7_draw 47 = .ok (.if_icmp .ne 6, 3) := by decide +kernel
theorem dX7_draw_50 : decode cX7_draw 50 = .ok (.goto 64, 3) := by decide +kernel
theorem dX7_draw_53 : decode cX7_draw 53 = .ok (.iload_n 3, 1) := by decide +kernel
theorem dX7_draw_54 : decode cX7_draw 54 = .ok (.ldc 212, 2) := by decide +kernel
theorem dX7_draw_56 : decode cX7_draw 56 = .ok (.imul, 1) := by decide +kernel
theorem dX7_draw_57 : decode cX7_draw 57 = .ok (.sipush 12345, 3) := by decide +kernel
theorem dX7_draw_60 : decode cX7_draw 60 = .ok (.iadd, 1) := by decide +kernel
theorem dX7_draw_61 : decode cX7_draw 61 = .ok (.istore_n 3, 1) := by decide +kernel
theorem dX7_draw_62 : decode cX7_draw 62 = .ok (.iload_n 3, 1) := by decide +kernel
theorem dX7_draw_63 : decode cX7_draw 63 = .ok (.bipush 16, 2) := by decide +kernel
theorem dX7_draw_65 : decode cX7_draw 65 = .ok (.iushr, 1) := by decide +kernel
theorem dX7_draw_66 : decode cX7_draw 66 = .ok (.bipush 100, 2) := by decide +kernel
theorem dX7_draw_68 : decode cX7_draw 68 = .ok (.irem, 1) := by decide +kernel
theorem dX7_draw_69 : decode cX7_draw 69 = .ok (.aload_n 0, 1) := by decide +kernel
theorem dX7_draw_70 : decode cX7_draw 70 = .ok (.getfield 22, 3) := by decide +kernel
theorem dX7_draw_73 : decode cX7_draw 73 = .ok (.aload_n 0, 1) := by decide +kernel
theorem dX7_draw_74 : decode cX7_draw 74 = .ok (.getfield 12, 3) := by decide +kernel
theorem dX7_draw_77 : decode cX7_draw 77 = .ok (.iload 7, 2) := by decide +kernel
theorem dX7_draw_79 : decode cX7_draw 79 = .ok (.iload 5, 2) := by decide +kernel
theorem dX7_draw_81 : decode cX7_draw 81 = .ok (.iload_n 2, 1) := by decide +kernel
theorem dX7_draw_82 : decode cX7_draw 82 = .ok (.invokevirtual 213, 3) := by decide +kernel
theorem dX7_draw_85 : decode cX7_draw 85 = .ok (.if_icmp .ge 13, 3) := by decide +kernel
theorem dX7_draw_88 : decode cX7_draw 88 = .ok (.iload 5, 2) := by decide +kernel
theorem dX7_draw_90 : decode cX7_draw 90 = .ok (.iload 7, 2) := by decide +kernel
theorem dX7_draw_92 : decode cX7_draw 92 = .ok (.invokestatic 73, 3) := by decide +kernel
theorem dX7_draw_95 : decode cX7_draw 95 = .ok (.ior, 1) := by decide +kernel
theorem dX7_draw_96 : decode cX7_draw 96 = .ok (.istore 5, 2) := by decide +kernel
theorem dX7_draw_98 : decode cX7_draw 98 = .ok (.iload 4, 2) := by decide +kernel
theorem dX7_draw_100 : decode cX7_draw 100 = .ok (.iload 7, 2) := by decide +kernel
theorem dX7_draw_102 : decode cX7_draw 102 = .ok (.invokestatic 73, 3) := by decide +kernel
theorem dX7_draw_105 : decode cX7_draw 105 = .ok (.ior, 1) := by decide +kernel
theorem dX7_draw_106 : decode cX7_draw 106 = .ok (.istore 4, 2) := by decide +kernel
theorem dX7_draw_108 : decode cX7_draw 108 = .ok (.iinc 6 1, 3) := by decide +kernel
theorem dX7_draw_111 : decode cX7_draw 111 = .ok (.goto (-90), 3) := by decide +kernel
theorem dX7_draw_114 : decode cX7_draw 114 = .ok (.iload 5, 2) := by decide +kernel
theorem dX7_draw_116 : decode cX7_draw 116 = .ok (.ireturn, 1) := by decide +kernel
theorem mz_i_wsX7_count_7 : (.code yX2_size cX2_size 1 (some .int) : Cond) ∈ wsX7_count := mz_mt (mz_ml (mz_ml (mz_mt (mz_mt (mz_mt (mz_mt (mz_mt (mz_mt mz_mh))))))))
theorem mz_i_wsX7_count_8 : (.fieldLink RX2 18 "MadeItSo$Drawing" "things" "I" : Cond) ∈ wsX7_count := mz_mt (mz_ml (mz_ml (mz_mt (mz_mt (mz_mt (mz_mt (mz_mt (mz_mt (mz_mt mz_mh)))))))))
theorem mz_f_wsX7_count_wsX20 : ∀ w ∈ wsX20, w ∈ wsX7_count := fun _ h => mz_mt (mz_mr h)
set_option maxRecDepth 20000 in
theorem ggX7_count_X2_size : GoodIn wsX7_count wsX2_size := goodIn_sub (mz_fc mz_i_wsX7_count_7 (mz_fa (mz_fc mz_i_wsX7_count_8 mz_fn) (mz_f_wsX7_count_wsX20))) (by decide +kernel)
theorem mz_i_wsX7_count_6 : (.initialized RX2 : Cond) ∈ wsX7_count := mz_mt (mz_ml (mz_ml (mz_mt (mz_mt (mz_mt (mz_mt (mz_mt mz_mh)))))))
theorem mz_i_wsX7_count_5 : (.selects RX2 yX2_size yX2_size : Cond) ∈ wsX7_count := mz_mt (mz_ml (mz_ml (mz_mt (mz_mt (mz_mt (mz_mt mz_mh))))))
theorem mz_i_wsX7_count_4 : (.instanceMethod yX2_size : Cond) ∈ wsX7_count := mz_mt (mz_ml (mz_ml (mz_mt (mz_mt (mz_mt mz_mh)))))
theorem mz_i_wsX7_count_3 : (.methodLink RX7 208 yX2_size : Cond) ∈ wsX7_count := mz_mt (mz_ml (mz_ml (mz_mt (mz_mt mz_mh))))
set_option maxRecDepth 20000 in
theorem gX7_count_X2_size : GoodIn wsX7_count (wsV RX7 208 RX2 yX2_size wsX2_size) := goodIn_app (goodIn_sub (mz_fc mz_i_wsX7_count_3 (mz_fc mz_i_wsX7_count_4 (mz_fc mz_i_wsX7_count_5 (mz_fc mz_i_wsX7_count_6 mz_fn)))) (by decide +kernel)) ggX7_count_X2_size
theorem mz_i_wsX7_count_12 : (.code yX2_arrows cX2_arrows 3 (some .int) : Cond) ∈ wsX7_count := mz_mt (mz_ml (mz_ml (mz_mt (mz_mt (mz_mt (mz_mt (mz_mt (mz_mt (mz_mt (mz_mt (mz_mt (mz_mt (mz_mt mz_mh)))))))))))))
theorem mz_i_wsX7_count_20 : (.constant RJ6 267 (252645135) : Cond) ∈ wsX7_count := mz_mt (mz_ml (mz_ml (mz_mt (mz_mt (mz_mt (mz_mt (mz_mt (mz_mt (mz_mt (mz_mt (mz_mt (mz_mt (mz_mt (mz_mt (mz_mt (mz_mt (mz_mt (mz_mt (mz_mt (mz_mt (mz_mt mz_mh)))))))))))))))))))))
theorem mz_i_wsX7_count_19 : (.constant RJ6 266 (858993459) : Cond) ∈ wsX7_count := mz_mt (mz_ml (mz_ml (mz_mt (mz_mt (mz_mt (mz_mt (mz_mt (mz_mt (mz_mt (mz_mt (mz_mt (mz_mt (mz_mt (mz_mt (mz_mt (mz_mt (mz_mt (mz_mt (mz_mt (mz_mt mz_mh))))))))))))))))))))
theorem mz_i_wsX7_count_18 : (.constant RJ6 265 (1431655765) : Cond) ∈ wsX7_count := mz_mt (mz_ml (mz_ml (mz_mt (mz_mt (mz_mt (mz_mt (mz_mt (mz_mt (mz_mt (mz_mt (mz_mt (mz_mt (mz_mt (mz_mt (mz_mt (mz_mt (mz_mt (mz_mt (mz_mt mz_mh)))))))))))))))))))
theorem mz_i_wsX7_count_17 : (.code yJ6_bitCount_0f7a4 cJ6_bitCount_0f7a4 1 (some .int) : Cond) ∈ wsX7_count := mz_mt (mz_ml (mz_ml (mz_mt (mz_mt (mz_mt (mz_mt (mz_mt (mz_mt (mz_mt (mz_mt (mz_mt (mz_mt (mz_mt (mz_mt (mz_mt (mz_mt (mz_mt (mz_mt mz_mh))))))))))))))))))
theorem mz_i_wsX7_count_16 : (.initialized RJ6 : Cond) ∈ wsX7_count := mz_mt (mz_ml (mz_ml (mz_mt (mz_mt (mz_mt (mz_mt (mz_mt (mz_mt (mz_mt (mz_mt (mz_mt (mz_mt (mz_mt (mz_mt (mz_mt (mz_mt (mz_mt mz_mh)))))))))))))))))
theorem mz_i_wsX7_count_15 : (.static yJ6_bitCount_0f7a4 : Cond) ∈ wsX7_count := mz_mt (mz_ml (mz_ml (mz_mt (mz_mt (mz_mt (mz_mt (mz_mt (mz_mt (mz_mt (mz_mt (mz_mt (mz_mt (mz_mt (mz_mt (mz_mt (mz_mt mz_mh))))))))))))))))
theorem mz_i_wsX7_count_14 : (.methodLink RX2 40 yJ6_bitCount_0f7a4 : Cond) ∈ wsX7_count := mz_mt (mz_ml (mz_ml (mz_mt (mz_mt (mz_mt (mz_mt (mz_mt (mz_mt (mz_mt (mz_mt (mz_mt (mz_mt (mz_mt (mz_mt (mz_mt mz_mh)))))))))))))))
theorem mz_i_wsX7_count_13 : (.fieldLink RX2 9 "MadeItSo$Drawing" "parents" "[I" : Cond) ∈ wsX7_count := mz_mt (mz_ml (mz_ml (mz_mt (mz_mt (mz_mt (mz_mt (mz_mt (mz_mt (mz_mt (mz_mt (mz_mt (mz_mt (mz_mt (mz_mt mz_mh))))))))))))))
set_option maxRecDepth 20000 in
theorem ggX7_count_X2_arrows : GoodIn wsX7_count wsX2_arrows := goodIn_sub (mz_fc mz_i_wsX7_count_12 (mz_fa (mz_fc mz_i_wsX7_count_8 (mz_fc mz_i_wsX7_count_13 (mz_fc mz_i_wsX7_count_14 (mz_fc mz_i_wsX7_count_15 (mz_fc mz_i_wsX7_count_16 (mz_fc mz_i_wsX7_count_17 (mz_fc mz_i_wsX7_count_18 (mz_fc mz_i_wsX7_count_19 (mz_fc mz_i_wsX7_count_20 mz_fn))))))))) (mz_f_wsX7_count_wsX20))) (by decide +kernel)
theorem mz_i_wsX7_count_11 : (.selects RX2 yX2_arrows yX2_arrows : Cond) ∈ wsX7_count := mz_mt (mz_ml (mz_ml (mz_mt (mz_mt (mz_mt (mz_mt (mz_mt (mz_mt (mz_mt (mz_mt (mz_mt (mz_mt mz_mh))))))))))))
theorem mz_i_wsX7_count_10 : (.instanceMethod yX2_arrows : Cond) ∈ wsX7_count := mz_mt (mz_ml (mz_ml (mz_mt (mz_mt (mz_mt (mz_mt (mz_mt (mz_mt (mz_mt (mz_mt (mz_mt mz_mh)))))))))))
theorem mz_i_wsX7_count_9 : (.methodLink RX7 217 yX2_arrows : Cond) ∈ wsX7_count := mz_mt (mz_ml (mz_ml (mz_mt (mz_mt (mz_mt (mz_mt (mz_mt (mz_mt (mz_mt (mz_mt mz_mh))))))))))
set_option maxRecDepth 20000 in
theorem gX7_count_X2_arrows : GoodIn wsX7_count (wsV RX7 217 RX2 yX2_arrows wsX2_arrows) := goodIn_app (goodIn_sub (mz_fc mz_i_wsX7_count_9 (mz_fc mz_i_wsX7_count_10 (mz_fc mz_i_wsX7_count_11 (mz_fc mz_i_wsX7_count_6 mz_fn)))) (by decide +kernel)) ggX7_count_X2_arrows
theorem dX7_count_0 : decode cX7_count 0 = .ok (.iload_n 1, 1) := by decide +kernel
theorem dX7_count_1 : decode cX7_count 1 = .ok (.tableswitch 48 0 2 #[27, 35, 43], 27) := by decide +kernel
theorem dX7_count_28 : decode cX7_count 28 = .ok (.aload_n 0, 1) := by decide +kernel
theorem dX7_count_29 : decode cX7_count 29 = .ok (.getfield 12, 3) := by decide +kernel
theorem dX7_count_32 : decode cX7_count 32 = .ok (.invokevirtual 208, 3) := by decide +kernel
theorem dX7_count_35 : decode cX7_count 35 = .ok (.ireturn, 1) := by decide +kernel
theorem dX7_count_36 : decode cX7_count 36 = .ok (.aload_n 0, 1) := by decide +kernel
theorem dX7_count_37 : decode cX7_count 37 = .ok (.getfield 12, 3) := by decide +kernel
theorem dX7_count_40 : decode cX7_count 40 = .ok (.invokevirtual 217, 3) := by decide +kernel
theorem dX7_count_43 : decode cX7_count 43 = .ok (.ireturn, 1) := by decide +kernel
theorem dX7_count_44 : decode cX7_count 44 = .ok (.aload_n 0, 1) := by decide +kernel
theorem dX7_count_45 : decode cX7_count 45 = .ok (.getfield 54, 3) := by decide +kernel
theorem dX7_count_48 : decode cX7_count 48 = .ok (.ireturn, 1) := by decide +kernel
theorem dX7_count_49 : decode cX7_count 49 = .ok (.iconst (-1), 1) := by decide +kernel
theorem dX7_count_50 : decode cX7_count 50 = .ok (.ireturn, 1) := by decide +kernel
