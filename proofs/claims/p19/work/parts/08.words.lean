/-! printed rows of NAMES that the contracts use -/
theorem mz_i_wsX0_becomeDigit_7 : (.code yX0_trim cX0_trim 2 none : Cond) ∈ wsX0_becomeDigit := mz_mt (mz_ml (mz_mt (mz_mt (mz_mt (mz_mt (mz_mt (mz_mt mz_mh)))))))
theorem mz_i_wsX0_becomeDigit_2 : (.fieldLink RX0 9 "MadeItSo$Big" "limbs" "[J" : Cond) ∈ wsX0_becomeDigit := mz_mt (mz_ml (mz_mt mz_mh))
theorem mz_i_wsX0_becomeDigit_1 : (.fieldLink RX0 13 "MadeItSo$Big" "used" "I" : Cond) ∈ wsX0_becomeDigit := mz_mt (mz_ml mz_mh)
theorem mz_f_wsX0_becomeDigit_wsX00 : ∀ w ∈ wsX00, w ∈ wsX0_becomeDigit := fun _ h => mz_mt (mz_mr h)
set_option maxRecDepth 20000 in
theorem ggX0_becomeDigit_X0_trim : GoodIn wsX0_becomeDigit wsX0_trim := goodIn_sub (mz_fc mz_i_wsX0_becomeDigit_7 (mz_fa (mz_fc mz_i_wsX0_becomeDigit_1 (mz_fc mz_i_wsX0_becomeDigit_2 mz_fn)) (mz_f_wsX0_becomeDigit_wsX00))) (by decide +kernel)
theorem mz_i_wsX0_becomeDigit_6 : (.initialized RX0 : Cond) ∈ wsX0_becomeDigit := mz_mt (mz_ml (mz_mt (mz_mt (mz_mt (mz_mt (mz_mt mz_mh))))))
theorem mz_i_wsX0_becomeDigit_5 : (.selects RX0 yX0_trim yX0_trim : Cond) ∈ wsX0_becomeDigit := mz_mt (mz_ml (mz_mt (mz_mt (mz_mt (mz_mt mz_mh)))))
theorem mz_i_wsX0_becomeDigit_4 : (.instanceMethod yX0_trim : Cond) ∈ wsX0_becomeDigit := mz_mt (mz_ml (mz_mt (mz_mt (mz_mt mz_mh))))
theorem mz_i_wsX0_becomeDigit_3 : (.methodLink RX0 17 yX0_trim : Cond) ∈ wsX0_becomeDigit := mz_mt (mz_ml (mz_mt (mz_mt mz_mh)))
set_option maxRecDepth 20000 in
theorem gX0_becomeDigit_X0_trim : GoodIn wsX0_becomeDigit (wsV RX0 17 RX0 yX0_trim wsX0_trim) := goodIn_app (goodIn_sub (mz_fc mz_i_wsX0_becomeDigit_3 (mz_fc mz_i_wsX0_becomeDigit_4 (mz_fc mz_i_wsX0_becomeDigit_5 (mz_fc mz_i_wsX0_becomeDigit_6 mz_fn)))) (by decide +kernel)) ggX0_becomeDigit_X0_trim
theorem dX0_becomeDigit_0 : decode cX0_becomeDigit 0 = .ok (.iconst 1, 1) := by decide +kernel
theorem dX0_becomeDigit_1 : decode cX0_becomeDigit 1 = .ok (.istore_n 2, 1) := by decide +kernel
theorem dX0_becomeDigit_2 : decode cX0_becomeDigit 2 = .ok (.iload_n 2, 1) := by decide +kernel
theorem dX0_becomeDigit_3 : decode cX0_becomeDigit 3 = .ok (.aload_n 0, 1) := by decide +kernel
theorem dX0_becomeDigit_4 : decode cX0_becomeDigit 4 = .ok (.getfield 13, 3) := by decide +kernel
theorem dX0_becomeDigit_7 : decode cX0_becomeDigit 7 = .ok (.if_icmp .ge 16, 3) := by decide +kernel
theorem dX0_becomeDigit_10 : decode cX0_becomeDigit 10 = .ok (.aload_n 0, 1) := by decide +kernel
theorem dX0_becomeDigit_11 : decode cX0_becomeDigit 11 = .ok (.getfield 9, 3) := by decide +kernel
theorem dX0_becomeDigit_14 : decode cX0_becomeDigit 14 = .ok (.iload_n 2, 1) := by decide +kernel
theorem dX0_becomeDigit_15 : decode cX0_becomeDigit 15 = .ok (.lconst 0, 1) := by decide +kernel
theorem dX0_becomeDigit_16 : decode cX0_becomeDigit 16 = .ok (.lastore, 1) := by decide +kernel
theorem dX0_becomeDigit_17 : decode cX0_becomeDigit 17 = .ok (.iinc 2 1, 3) := by decide +kernel
theorem dX0_becomeDigit_20 : decode cX0_becomeDigit 20 = .ok (.goto (-18), 3) := by decide +kernel
theorem dX0_becomeDigit_23 : decode cX0_becomeDigit 23 = .ok (.aload_n 0, 1) := by decide +kernel
theorem dX0_becomeDigit_24 : decode cX0_becomeDigit 24 = .ok (.getfield 9, 3) := by decide +kernel
theorem dX0_becomeDigit_27 : decode cX0_becomeDigit 27 = .ok (.iconst 0, 1) := by decide +kernel
theorem dX0_becomeDigit_28 : decode cX0_becomeDigit 28 = .ok (.iload_n 1, 1) := by decide +kernel
theorem dX0_becomeDigit_29 : decode cX0_becomeDigit 29 = .ok (.i2l, 1) := by decide +kernel
theorem dX0_becomeDigit_30 : decode cX0_becomeDigit 30 = .ok (.lastore, 1) := by decide +kernel
theorem dX0_becomeDigit_31 : decode cX0_becomeDigit 31 = .ok (.aload_n 0, 1) := by decide +kernel
theorem dX0_becomeDigit_32 : decode cX0_becomeDigit 32 = .ok (.iconst 1, 1) := by decide +kernel
theorem dX0_becomeDigit_33 : decode cX0_becomeDigit 33 = .ok (.putfield 13, 3) := by decide +kernel
theorem dX0_becomeDigit_36 : decode cX0_becomeDigit 36 = .ok (.aload_n 0, 1) := by decide +kernel
theorem dX0_becomeDigit_37 : decode cX0_becomeDigit 37 = .ok (.invokevirtual 17, 3) := by decide +kernel
theorem dX0_becomeDigit_40 : decode cX0_becomeDigit 40 = .ok (.return_, 1) := by decide +kernel
theorem dX0_become_0 : decode cX0_become 0 = .ok (.aload_n 0, 1) := by decide +kernel
theorem dX0_become_1 : decode cX0_become 1 = .ok (.getfield 13, 3) := by decide +kernel
theorem dX0_become_4 : decode cX0_become 4 = .ok (.aload_n 1, 1) := by decide +kernel
theorem dX0_become_5 : decode cX0_become 5 = .ok (.getfield 13, 3) := by decide +kernel
theorem dX0_become_8 : decode cX0_become 8 = .ok (.invokestatic 20, 3) := by decide +kernel
theorem dX0_become_11 : decode cX0_become 11 = .ok (.istore_n 2, 1) := by decide +kernel
theorem dX0_become_12 : decode cX0_become 12 = .ok (.iconst 0, 1) := by decide +kernel
theorem dX0_become_13 : decode cX0_become 13 = .ok (.istore_n 3, 1) := by decide +kernel
theorem dX0_become_14 : decode cX0_become 14 = .ok (.iload_n 3, 1) := by decide +kernel
theorem dX0_become_15 : decode cX0_become 15 = .ok (.iload_n 2, 1) := by decide +kernel
theorem dX0_become_16 : decode cX0_become 16 = .ok (.if_icmp .ge 21, 3) := by decide +kernel
theorem dX0_become_19 : decode cX0_become 19 = .ok (.aload_n 0, 1) := by decide +kernel
theorem dX0_become_20 : decode cX0_become 20 = .ok (.getfield 9, 3) := by decide +kernel
theorem dX0_become_23 : decode cX0_become 23 = .ok (.iload_n 3, 1) := by decide +kernel
theorem dX0_become_24 : decode cX0_become 24 = .ok (.aload_n 1, 1) := by decide +kernel
theorem dX0_become_25 : decode cX0_become 25 = .ok (.getfield 9, 3) := by decide +kernel
theorem dX0_become_28 : decode cX0_become 28 = .ok (.iload_n 3, 1) := by decide +kernel
theorem dX0_become_29 : decode cX0_become 29 = .ok (.laload, 1) := by decide +kernel
theorem dX0_become_30 : decode cX0_become 30 = .ok (.lastore, 1) := by decide +kernel
theorem dX0_become_31 : decode cX0_become 31 = .ok (.iinc 3 1, 3) := by decide +kernel
theorem dX0_become_34 : decode cX0_become 34 = .ok (.goto (-20), 3) := by decide +kernel
theorem dX0_become_37 : decode cX0_become 37 = .ok (.aload_n 0, 1) := by decide +kernel
theorem dX0_become_38 : decode cX0_become 38 = .ok (.aload_n 1, 1) := by decide +kernel
theorem dX0_become_39 : decode cX0_become 39 = .ok (.getfield 13, 3) := by decide +kernel
theorem dX0_become_42 : decode cX0_become 42 = .ok (.putfield 13, 3) := by decide +kernel
theorem dX0_become_45 : decode cX0_become 45 = .ok (.return_, 1) := by decide +kernel
theorem mz_i_wsX0_times_12 : (.code yX0_trim cX0_trim 2 none : Cond) ∈ wsX0_times := mz_mt (mz_ml (mz_mt (mz_mt (mz_mt (mz_mt (mz_mt (mz_mt (mz_mt (mz_mt (mz_mt (mz_mt (mz_mt mz_mh))))))))))))
theorem mz_i_wsX0_times_7 : (.fieldLink RX0 9 "MadeItSo$Big" "limbs" "[J" : Cond) ∈ wsX0_times := mz_mt (mz_ml (mz_mt (mz_mt (mz_mt (mz_mt (mz_mt (mz_mt mz_mh)))))))
theorem mz_i_wsX0_times_2 : (.fieldLink RX0 13 "MadeItSo$Big" "used" "I" : Cond) ∈ wsX0_times := mz_mt (mz_ml (mz_mt mz_mh))
theorem mz_f_wsX0_times_wsX00 : ∀ w ∈ wsX00, w ∈ wsX0_times := fun _ h => mz_mt (mz_mr h)
set_option maxRecDepth 20000 in
theorem ggX0_times_X0_trim : GoodIn wsX0_times wsX0_trim := goodIn_sub (mz_fc mz_i_wsX0_times_12 (mz_fa (mz_fc mz_i_wsX0_times_2 (mz_fc mz_i_wsX0_times_7 mz_fn)) (mz_f_wsX0_times_wsX00))) (by decide +kernel)
theorem mz_i_wsX0_times_11 : (.initialized RX0 : Cond) ∈ wsX0_times := mz_mt (mz_ml (mz_mt (mz_mt (mz_mt (mz_mt (mz_mt (mz_mt (mz_mt (mz_mt (mz_mt (mz_mt mz_mh)))))))))))
theorem mz_i_wsX0_times_10 : (.selects RX0 yX0_trim yX0_trim : Cond) ∈ wsX0_times := mz_mt (mz_ml (mz_mt (mz_mt (mz_mt (mz_mt (mz_mt (mz_mt (mz_mt (mz_mt (mz_mt mz_mh))))))))))
theorem mz_i_wsX0_times_9 : (.instanceMethod yX0_trim : Cond) ∈ wsX0_times := mz_mt (mz_ml (mz_mt (mz_mt (mz_mt (mz_mt (mz_mt (mz_mt (mz_mt (mz_mt mz_mh)))))))))
theorem mz_i_wsX0_times_8 : (.methodLink RX0 17 yX0_trim : Cond) ∈ wsX0_times := mz_mt (mz_ml (mz_mt (mz_mt (mz_mt (mz_mt (mz_mt (mz_mt (mz_mt mz_mh))))))))
set_option maxRecDepth 20000 in
theorem gX0_times_X0_trim : GoodIn wsX0_times (wsV RX0 17 RX0 yX0_trim wsX0_trim) := goodIn_app (goodIn_sub (mz_fc mz_i_wsX0_times_8 (mz_fc mz_i_wsX0_times_9 (mz_fc mz_i_wsX0_times_10 (mz_fc mz_i_wsX0_times_11 mz_fn)))) (by decide +kernel)) ggX0_times_X0_trim
theorem dX0_times_0 : decode cX0_times 0 = .ok (.lload_n 1, 1) := by decide +kernel
theorem dX0_times_1 : decode cX0_times 1 = .ok (.ldc2_w 26, 3) := by decide +kernel
theorem dX0_times_4 : decode cX0_times 4 = .ok (.land, 1) := by decide +kernel
theorem dX0_times_5 : decode cX0_times 5 = .ok (.lstore_n 3, 1) := by decide +kernel
theorem dX0_times_6 : decode cX0_times 6 = .ok (.lload_n 1, 1) := by decide +kernel
theorem dX0_times_7 : decode cX0_times 7 = .ok (.bipush 30, 2) := by decide +kernel
theorem dX0_times_9 : decode cX0_times 9 = .ok (.lushr, 1) := by decide +kernel
theorem dX0_times_10 : decode cX0_times 10 = .ok (.lstore 5, 2) := by decide +kernel
theorem dX0_times_12 : decode cX0_times 12 = .ok (.lconst 0, 1) := by decide +kernel
theorem dX0_times_13 : decode cX0_times 13 = .ok (.lstore 7, 2) := by decide +kernel
theorem dX0_times_15 : decode cX0_times 15 = .ok (.lconst 0, 1) := by decide +kernel
theorem dX0_times_16 : decode cX0_times 16 = .ok (.lstore 9, 2) := by decide +kernel
theorem dX0_times_18 : decode cX0_times 18 = .ok (.aload_n 0, 1) := by decide +kernel
theorem dX0_times_19 : decode cX0_times 19 = .ok (.aload_n 0, 1) := by decide +kernel
theorem dX0_times_20 : decode cX0_times 20 = .ok (.getfield 13, 3) := by decide +kernel
theorem dX0_times_23 : decode cX0_times 23 = .ok (.iconst 2, 1) := by decide +kernel
theorem dX0_times_24 : decode cX0_times 24 = .ok (.iadd, 1) := by decide +kernel
theorem dX0_times_25 : decode cX0_times 25 = .ok (.sipush 128, 3) := by decide +kernel
theorem dX0_times_28 : decode cX0_times 28 = .ok (.invokestatic 28, 3) := by decide +kernel
theorem dX0_times_31 : decode cX0_times 31 = .ok (.putfield 13, 3) := by decide +kernel
theorem dX0_times_34 : decode cX0_times 34 = .ok (.iconst 0, 1) := by decide +kernel
theorem dX0_times_35 : decode cX0_times 35 = .ok (.istore 11, 2) := by decide +kernel
theorem dX0_times_37 : decode cX0_times 37 = .ok (.iload 11, 2) := by decide +kernel
theorem dX0_times_39 : decode cX0_times 39 = .ok (.aload_n 0, 1) := by decide +kernel
theorem dX0_times_40 : decode cX0_times 40 = .ok (.getfield 13, 3) := by decide +kernel
theorem dX0_times_43 : decode cX0_times 43 = .ok (.if_icmp .ge 57, 3) := by decide +kernel
theorem dX0_times_46 : decode cX0_times 46 = .ok (.aload_n 0, 1) := by decide +kernel
theorem dX0_times_47 : decode cX0_times 47 = .ok (.getfield 9, 3) := by decide +kernel
theorem dX0_times_50 : decode cX0_times 50 = .ok (.iload 11, 2) := by decide +kernel
theorem dX0_times_52 : decode cX0_times 52 = .ok (.laload, 1) := by decide +kernel
theorem dX0_times_53 : decode cX0_times 53 = .ok (.lstore 12, 2) := by decide +kernel
theorem dX0_times_55 : decode cX0_times 55 = .ok (.lload 7, 2) := by decide +kernel
theorem dX0_times_57 : decode cX0_times 57 = .ok (.lload 12, 2) := by decide +kernel
theorem dX0_times_59 : decode cX0_times 59 = .ok (.lload_n 3, 1) := by decide +kernel
theorem dX0_times_60 : decode cX0_times 60 = .ok (.lmul, 1) := by decide +kernel
theorem dX0_times_61 : decode cX0_times 61 = .ok (.ladd, 1) := by decide +kernel
theorem dX0_times_62 : decode cX0_times 62 = .ok (.lload 9, 2) := by decide +kernel
theorem dX0_times_64 : decode cX0_times 64 = .ok (.lload 5, 2) := by decide +kernel
theorem dX0_times_66 : decode cX0_times 66 = .ok (.lmul, 1) := by decide +kernel
theorem dX0_times_67 : decode cX0_times 67 = .ok (.ladd, 1) := by decide +kernel
theorem dX0_times_68 : decode cX0_times 68 = .ok (.lstore 14, 2) := by decide +kernel
theorem dX0_times_70 : decode cX0_times 70 = .ok (.aload_n 0, 1) := by decide +kernel
theorem dX0_times_71 : decode cX0_times 71 = .ok (.getfield 9, 3) := by decide +kernel
theorem dX0_times_74 : decode cX0_times 74 = .ok (.iload 11, 2) := by decide +kernel
theorem dX0_times_76 : decode cX0_times 76 = .ok (.lload 14, 2) := by decide +kernel
theorem dX0_times_78 : decode cX0_times 78 = .ok (.ldc2_w 26, 3) := by decide +kernel
theorem dX0_times_81 : decode cX0_times 81 = .ok (.land, 1) := by decide +kernel
theorem dX0_times_82 : decode cX0_times 82 = .ok (.lastore, 1) := by decide +kernel
theorem dX0_times_83 : decode cX0_times 83 = .ok (.lload 14, 2) := by decide +kernel
theorem dX0_times_85 : decode cX0_times 85 = .ok (.bipush 30, 2) := by decide +kernel
theorem dX0_times_87 : decode cX0_times 87 = .ok (.lushr, 1) := by decide +kernel
theorem dX0_times_88 : decode cX0_times 88 = .ok (.lstore 7, 2) := by decide +kernel
theorem dX0_times_90 : decode cX0_times 90 = .ok (.lload 12, 2) := by decide +kernel
theorem dX0_times_92 : decode cX0_times 92 = .ok (.lstore 9, 2) := by decide +kernel
theorem dX0_times_94 : decode cX0_times 94 = .ok (.iinc 11 1, 3) := by decide +kernel
theorem dX0_times_97 : decode cX0_times 97 = .ok (.goto (-60), 3) := by decide +kernel
theorem dX0_times_100 : decode cX0_times 100 = .ok (.aload_n 0, 1) := by decide +kernel
theorem dX0_times_101 : decode cX0_times 101 = .ok (.invokevirtual 17, 3) := by decide +kernel
theorem dX0_times_104 : decode cX0_times 104 = .ok (.return_, 1) := by decide +kernel
theorem mz_i_wsX0_plus_15 : (.code yX0_trim cX0_trim 2 none : Cond) ∈ wsX0_plus := mz_mt (mz_ml (mz_mt (mz_mt (mz_mt (mz_mt (mz_mt (mz_mt (mz_mt (mz_mt (mz_mt (mz_mt (mz_mt (mz_mt (mz_mt (mz_mt mz_mh)))))))))))))))
theorem mz_i_wsX0_plus_9 : (.fieldLink RX0 9 "MadeItSo$Big" "limbs" "[J" : Cond) ∈ wsX0_plus := mz_mt (mz_ml (mz_mt (mz_mt (mz_mt (mz_mt (mz_mt (mz_mt (mz_mt (mz_mt mz_mh)))))))))
theorem mz_i_wsX0_plus_1 : (.fieldLink RX0 13 "MadeItSo$Big" "used" "I" : Cond) ∈ wsX0_plus := mz_mt (mz_ml mz_mh)
theorem mz_f_wsX0_plus_wsX00 : ∀ w ∈ wsX00, w ∈ wsX0_plus := fun _ h => mz_mt (mz_mr h)
set_option maxRecDepth 20000 in
theorem ggX0_plus_X0_trim : GoodIn wsX0_plus wsX0_trim := goodIn_sub (mz_fc mz_i_wsX0_plus_15 (mz_fa (mz_fc mz_i_wsX0_plus_1 (mz_fc mz_i_wsX0_plus_9 mz_fn)) (mz_f_wsX0_plus_wsX00))) (by decide +kernel)
theorem mz_i_wsX0_plus_14 : (.initialized RX0 : Cond) ∈ wsX0_plus := mz_mt (mz_ml (mz_mt (mz_mt (mz_mt (mz_mt (mz_mt (mz_mt (mz_mt (mz_mt (mz_mt (mz_mt (mz_mt (mz_mt (mz_mt mz_mh))))))))))))))
theorem mz_i_wsX0_plus_13 : (.selects RX0 yX0_trim yX0_trim : Cond) ∈ wsX0_plus := mz_mt (mz_ml (mz_mt (mz_mt (mz_mt (mz_mt (mz_mt (mz_mt (mz_mt (mz_mt (mz_mt (mz_mt (mz_mt (mz_mt mz_mh)))))))))))))
theorem mz_i_wsX0_plus_12 : (.instanceMethod yX0_trim : Cond) ∈ wsX0_plus := mz_mt (mz_ml (mz_mt (mz_mt (mz_mt (mz_mt (mz_mt (mz_mt (mz_mt (mz_mt (mz_mt (mz_mt (mz_mt mz_mh))))))))))))
theorem mz_i_wsX0_plus_11 : (.methodLink RX0 17 yX0_trim : Cond) ∈ wsX0_plus := mz_mt (mz_ml (mz_mt (mz_mt (mz_mt (mz_mt (mz_mt (mz_mt (mz_mt (mz_mt (mz_mt (mz_mt mz_mh)))))))))))
set_option maxRecDepth 20000 in
theorem gX0_plus_X0_trim : GoodIn wsX0_plus (wsV RX0 17 RX0 yX0_trim wsX0_trim) := goodIn_app (goodIn_sub (mz_fc mz_i_wsX0_plus_11 (mz_fc mz_i_wsX0_plus_12 (mz_fc mz_i_wsX0_plus_13 (mz_fc mz_i_wsX0_plus_14 mz_fn)))) (by decide +kernel)) ggX0_plus_X0_trim
theorem dX0_plus_0 : decode cX0_plus 0 = .ok (.lconst 0, 1) := by decide +kernel
theorem dX0_plus_1 : decode cX0_plus 1 = .ok (.lstore_n 2, 1) := by decide +kernel
theorem dX0_plus_2 : decode cX0_plus 2 = .ok (.aload_n 0, 1) := by decide +kernel
theorem dX0_plus_3 : decode cX0_plus 3 = .ok (.aload_n 0, 1) := by decide +kernel
theorem dX0_plus_4 : decode cX0_plus 4 = .ok (.getfield 13, 3) := by decide +kernel
theorem dX0_plus_7 : decode cX0_plus 7 = .ok (.aload_n 1, 1) := by decide +kernel
theorem dX0_plus_8 : decode cX0_plus 8 = .ok (.getfield 13, 3) := by decide +kernel
theorem dX0_plus_11 : decode cX0_plus 11 = .ok (.invokestatic 20, 3) := by decide +kernel
theorem dX0_plus_14 : decode cX0_plus 14 = .ok (.iconst 1, 1) := by decide +kernel
theorem dX0_plus_15 : decode cX0_plus 15 = .ok (.iadd, 1) := by decide +kernel
theorem dX0_plus_16 : decode cX0_plus 16 = .ok (.sipush 128, 3) := by decide +kernel
theorem dX0_plus_19 : decode cX0_plus 19 = .ok (.invokestatic 28, 3) := by decide +kernel
theorem dX0_plus_22 : decode cX0_plus 22 = .ok (.putfield 13, 3) := by decide +kernel
theorem dX0_plus_25 : decode cX0_plus 25 = .ok (.iconst 0, 1) := by decide +kernel
theorem dX0_plus_26 : decode cX0_plus 26 = .ok (.istore 4, 2) := by decide +kernel
theorem dX0_plus_28 : decode cX0_plus 28 = .ok (.iload 4, 2) := by decide +kernel
theorem dX0_plus_30 : decode cX0_plus 30 = .ok (.aload_n 0, 1) := by decide +kernel
theorem dX0_plus_31 : decode cX0_plus 31 = .ok (.getfield 13, 3) := by decide +kernel
theorem dX0_plus_34 : decode cX0_plus 34 = .ok (.if_icmp .ge 47, 3) := by decide +kernel
theorem dX0_plus_37 : decode cX0_plus 37 = .ok (.lload_n 2, 1) := by decide +kernel
theorem dX0_plus_38 : decode cX0_plus 38 = .ok (.aload_n 0, 1) := by decide +kernel
theorem dX0_plus_39 : decode cX0_plus 39 = .ok (.getfield 9, 3) := by decide +kernel
theorem dX0_plus_42 : decode cX0_plus 42 = .ok (.iload 4, 2) := by decide +kernel
theorem dX0_plus_44 : decode cX0_plus 44 = .ok (.laload, 1) := by decide +kernel
theorem dX0_plus_45 : decode cX0_plus 45 = .ok (.ladd, 1) := by decide +kernel
theorem dX0_plus_46 : decode cX0_plus 46 = .ok (.aload_n 1, 1) := by decide +kernel
theorem dX0_plus_47 : decode cX0_plus 47 = .ok (.getfield 9, 3) := by decide +kernel
theorem dX0_plus_50 : decode cX0_plus 50 = .ok (.iload 4, 2) := by decide +kernel
theorem dX0_plus_52 : decode cX0_plus 52 = .ok (.laload, 1) := by decide +kernel
theorem dX0_plus_53 : decode cX0_plus 53 = .ok (.ladd, 1) := by decide +kernel
theorem dX0_plus_54 : decode cX0_plus 54 = .ok (.lstore 5, 2) := by decide +kernel
theorem dX0_plus_56 : decode cX0_plus 56 = .ok (.aload_n 0, 1) := by decide +kernel
theorem dX0_plus_57 : decode cX0_plus 57 = .ok (.getfield 9, 3) := by decide +kernel
theorem dX0_plus_60 : decode cX0_plus 60 = .ok (.iload 4, 2) := by decide +kernel
theorem dX0_plus_62 : decode cX0_plus 62 = .ok (.lload 5, 2) := by decide +kernel
theorem dX0_plus_64 : decode cX0_plus 64 = .ok (.ldc2_w 26, 3) := by decide +kernel
theorem dX0_plus_67 : decode cX0_plus 67 = .ok (.land, 1) := by decide +kernel
theorem dX0_plus_68 : decode cX0_plus 68 = .ok (.lastore, 1) := by decide +kernel
theorem dX0_plus_69 : decode cX0_plus 69 = .ok (.lload 5, 2) := by decide +kernel
theorem dX0_plus_71 : decode cX0_plus 71 = .ok (.bipush 30, 2) := by decide +kernel
theorem dX0_plus_73 : decode cX0_plus 73 = .ok (.lushr, 1) := by decide +kernel
theorem dX0_plus_74 : decode cX0_plus 74 = .ok (.lstore_n 2, 1) := by decide +kernel
theorem dX0_plus_75 : decode cX0_plus 75 = .ok (.iinc 4 1, 3) := by decide +kernel
theorem dX0_plus_78 : decode cX0_plus 78 = .ok (.goto (-50), 3) := by decide +kernel
theorem dX0_plus_81 : decode cX0_plus 81 = .ok (.aload_n 0, 1) := by decide +kernel
theorem dX0_plus_82 : decode cX0_plus 82 = .ok (.invokevirtual 17, 3) := by decide +kernel
theorem dX0_plus_85 : decode cX0_plus 85 = .ok (.return_, 1) := by decide +kernel
theorem dX0_same_0 : decode cX0_same 0 = .ok (.aload_n 0, 1) := by decide +kernel
theorem dX0_same_1 : decode cX0_same 1 = .ok (.getfield 13, 3) := by decide +kernel
theorem dX0_same_4 : decode cX0_same 4 = .ok (.aload_n 1, 1) := by decide +kernel
theorem dX0_same_5 : decode cX0_same 5 = .ok (.getfield 13, 3) := by decide +kernel
theorem dX0_same_8 : decode cX0_same 8 = .ok (.if_icmp .eq 5, 3) := by decide +kernel
theorem dX0_same_11 : decode cX0_same 11 = .ok (.iconst 0, 1) := by decide +kernel
theorem dX0_same_12 : decode cX0_same 12 = .ok (.ireturn, 1) := by decide +kernel
theorem dX0_same_13 : decode cX0_same 13 = .ok (.iconst 0, 1) := by decide +kernel
theorem dX0_same_14 : decode cX0_same 14 = .ok (.istore_n 2, 1) := by decide +kernel
theorem dX0_same_15 : decode cX0_same 15 = .ok (.iload_n 2, 1) := by decide +kernel
theorem dX0_same_16 : decode cX0_same 16 = .ok (.aload_n 0, 1) := by decide +kernel
theorem dX0_same_17 : decode cX0_same 17 = .ok (.getfield 13, 3) := by decide +kernel
theorem dX0_same_20 : decode cX0_same 20 = .ok (.if_icmp .ge 27, 3) := by decide +kernel
theorem dX0_same_23 : decode cX0_same 23 = .ok (.aload_n 0, 1) := by decide +kernel
theorem dX0_same_24 : decode cX0_same 24 = .ok (.getfield 9, 3) := by decide +kernel
theorem dX0_same_27 : decode cX0_same 27 = .ok (.iload_n 2, 1) := by decide +kernel
theorem dX0_same_28 : decode cX0_same 28 = .ok (.laload, 1) := by decide +kernel
theorem dX0_same_29 : decode cX0_same 29 = .ok (.aload_n 1, 1) := by decide +kernel
theorem dX0_same_30 : decode cX0_same 30 = .ok (.getfield 9, 3) := by decide +kernel
theorem dX0_same_33 : decode cX0_same 33 = .ok (.iload_n 2, 1) := by decide +kernel
theorem dX0_same_34 : decode cX0_same 34 = .ok (.laload, 1) := by decide +kernel
theorem dX0_same_35 : decode cX0_same 35 = .ok (.lcmp, 1) := by decide +kernel
theorem dX0_same_36 : decode cX0_same 36 = .ok (.ifCond .eq 5, 3) := by decide +kernel
theorem dX0_same_39 : decode cX0_same 39 = .ok (.iconst 0, 1) := by decide +kernel
theorem dX0_same_40 : decode cX0_same 40 = .ok (.ireturn, 1) := by decide +kernel
theorem dX0_same_41 : decode cX0_same 41 = .ok (.iinc 2 1, 3) := by decide +kernel
theorem dX0_same_44 : decode cX0_same 44 = .ok (.goto (-29), 3) := by decide +kernel
theorem dX0_same_47 : decode cX0_same 47 = .ok (.iconst 1, 1) := by decide +kernel
theorem dX0_same_48 : decode cX0_same 48 = .ok (.ireturn, 1) := by decide +kernel
theorem dX0_trim_0 : decode cX0_trim 0 = .ok (.aload_n 0, 1) := by decide +kernel
theorem dX0_trim_1 : decode cX0_trim 1 = .ok (.getfield 13, 3) := by decide +kernel
theorem dX0_trim_4 : decode cX0_trim 4 = .ok (.iconst 1, 1) := by decide +kernel
theorem dX0_trim_5 : decode cX0_trim 5 = .ok (.isub, 1) := by decide +kernel
theorem dX0_trim_6 : decode cX0_trim 6 = .ok (.istore_n 1, 1) := by decide +kernel
theorem dX0_trim_7 : decode cX0_trim 7 = .ok (.iload_n 1, 1) := by decide +kernel
theorem dX0_trim_8 : decode cX0_trim 8 = .ok (.ifCond .lt 25, 3) := by decide +kernel
theorem dX0_trim_11 : decode cX0_trim 11 = .ok (.aload_n 0, 1) := by decide +kernel
theorem dX0_trim_12 : decode cX0_trim 12 = .ok (.getfield 9, 3) := by decide +kernel
theorem dX0_trim_15 : decode cX0_trim 15 = .ok (.iload_n 1, 1) := by decide +kernel
theorem dX0_trim_16 : decode cX0_trim 16 = .ok (.laload, 1) := by decide +kernel
theorem dX0_trim_17 : decode cX0_trim 17 = .ok (.lconst 0, 1) := by decide +kernel
theorem dX0_trim_18 : decode cX0_trim 18 = .ok (.lcmp, 1) := by decide +kernel
theorem dX0_trim_19 : decode cX0_trim 19 = .ok (.ifCond .ne 14, 3) := by decide +kernel
theorem dX0_trim_22 : decode cX0_trim 22 = .ok (.aload_n 0, 1) := by decide +kernel
theorem dX0_trim_23 : decode cX0_trim 23 = .ok (.iload_n 1, 1) := by decide +kernel
theorem dX0_trim_24 : decode cX0_trim 24 = .ok (.putfield 13, 3) := by decide +kernel
theorem dX0_trim_27 : decode cX0_trim 27 = .ok (.iinc 1 (-1), 3) := by decide +kernel
theorem dX0_trim_30 : decode cX0_trim 30 = .ok (.goto (-23), 3) := by decide +kernel
theorem dX0_trim_33 : decode cX0_trim 33 = .ok (.return_, 1) := by decide +kernel
theorem dX2_grow_0 : decode cX2_grow 0 = .ok (.aload_n 0, 1) := by decide +kernel
theorem dX2_grow_1 : decode cX2_grow 1 = .ok (.getfield 18, 3) := by decide +kernel
theorem dX2_grow_4 : decode cX2_grow 4 = .ok (.bipush 8, 2) := by decide +kernel
theorem dX2_grow_6 : decode cX2_grow 6 = .ok (.if_icmp .lt 5, 3) := by decide +kernel
theorem dX2_grow_9 : decode cX2_grow 9 = .ok (.iconst (-1), 1) := by decide +kernel
theorem dX2_grow_10 : decode cX2_grow 10 = .ok (.ireturn, 1) := by decide +kernel
theorem dX2_grow_11 : decode cX2_grow 11 = .ok (.aload_n 0, 1) := by decide +kernel
theorem dX2_grow_12 : decode cX2_grow 12 = .ok (.dup, 1) := by decide +kernel
theorem dX2_grow_13 : decode cX2_grow 13 = .ok (.getfield 18, 3) := by decide +kernel
theorem dX2_grow_16 : decode cX2_grow 16 = .ok (.iconst 1, 1) := by decide +kernel
theorem dX2_grow_17 : decode cX2_grow 17 = .ok (.iadd, 1) := by decide +kernel
theorem dX2_grow_18 : decode cX2_grow 18 = .ok (.putfield 18, 3) := by decide +kernel
theorem dX2_grow_21 : decode cX2_grow 21 = .ok (.aload_n 0, 1) := by decide +kernel
theorem dX2_grow_22 : decode cX2_grow 22 = .ok (.getfield 18, 3) := by decide +kernel
theorem dX2_grow_25 : decode cX2_grow 25 = .ok (.iconst 1, 1) := by decide +kernel
theorem dX2_grow_26 : decode cX2_grow 26 = .ok (.isub, 1) := by decide +kernel
theorem dX2_grow_27 : decode cX2_grow 27 = .ok (.ireturn, 1) := by decide +kernel
theorem mz_i_wsX5_clear_7 : (.code yX0_becomeDigit cX0_becomeDigit 3 none : Cond) ∈ wsX5_clear := mz_mt (mz_ml (mz_ml (mz_mt (mz_mt (mz_mt (mz_mt (mz_mt (mz_mt mz_mh))))))))
theorem mz_i_wsX5_clear_13 : (.code yX0_trim cX0_trim 2 none : Cond) ∈ wsX5_clear := mz_mt (mz_ml (mz_ml (mz_mt (mz_mt (mz_mt (mz_mt (mz_mt (mz_mt (mz_mt (mz_mt (mz_mt (mz_mt (mz_mt (mz_mt mz_mh))))))))))))))
theorem mz_i_wsX5_clear_6 : (.initialized RX0 : Cond) ∈ wsX5_clear := mz_mt (mz_ml (mz_ml (mz_mt (mz_mt (mz_mt (mz_mt (mz_mt mz_mh)))))))
theorem mz_i_wsX5_clear_12 : (.selects RX0 yX0_trim yX0_trim : Cond) ∈ wsX5_clear := mz_mt (mz_ml (mz_ml (mz_mt (mz_mt (mz_mt (mz_mt (mz_mt (mz_mt (mz_mt (mz_mt (mz_mt (mz_mt (mz_mt mz_mh)))))))))))))
theorem mz_i_wsX5_clear_11 : (.instanceMethod yX0_trim : Cond) ∈ wsX5_clear := mz_mt (mz_ml (mz_ml (mz_mt (mz_mt (mz_mt (mz_mt (mz_mt (mz_mt (mz_mt (mz_mt (mz_mt (mz_mt mz_mh))))))))))))
theorem mz_i_wsX5_clear_10 : (.methodLink RX0 17 yX0_trim : Cond) ∈ wsX5_clear := mz_mt (mz_ml (mz_ml (mz_mt (mz_mt (mz_mt (mz_mt (mz_mt (mz_mt (mz_mt (mz_mt (mz_mt mz_mh)))))))))))
theorem mz_i_wsX5_clear_9 : (.fieldLink RX0 9 "MadeItSo$Big" "limbs" "[J" : Cond) ∈ wsX5_clear := mz_mt (mz_ml (mz_ml (mz_mt (mz_mt (mz_mt (mz_mt (mz_mt (mz_mt (mz_mt (mz_mt mz_mh))))))))))
theorem mz_i_wsX5_clear_8 : (.fieldLink RX0 13 "MadeItSo$Big" "used" "I" : Cond) ∈ wsX5_clear := mz_mt (mz_ml (mz_ml (mz_mt (mz_mt (mz_mt (mz_mt (mz_mt (mz_mt (mz_mt mz_mh)))))))))
theorem mz_f_wsX5_clear_wsX00 : ∀ w ∈ wsX00, w ∈ wsX5_clear := fun _ h => mz_mt (mz_mr h)
set_option maxRecDepth 20000 in
theorem ggX5_clear_X0_becomeDigit : GoodIn wsX5_clear wsX0_becomeDigit := goodIn_sub (mz_fc mz_i_wsX5_clear_7 (mz_fa (mz_fc mz_i_wsX5_clear_8 (mz_fc mz_i_wsX5_clear_9 (mz_fc mz_i_wsX5_clear_10 (mz_fc mz_i_wsX5_clear_11 (mz_fc mz_i_wsX5_clear_12 (mz_fc mz_i_wsX5_clear_6 (mz_fc mz_i_wsX5_clear_13 mz_fn))))))) (mz_f_wsX5_clear_wsX00))) (by decide +kernel)
theorem mz_i_wsX5_clear_5 : (.selects RX0 yX0_becomeDigit yX0_becomeDigit : Cond) ∈ wsX5_clear := mz_mt (mz_ml (mz_ml (mz_mt (mz_mt (mz_mt (mz_mt mz_mh))))))
theorem mz_i_wsX5_clear_4 : (.instanceMethod yX0_becomeDigit : Cond) ∈ wsX5_clear := mz_mt (mz_ml (mz_ml (mz_mt (mz_mt (mz_mt mz_mh)))))
theorem mz_i_wsX5_clear_3 : (.methodLink RX5 22 yX0_becomeDigit : Cond) ∈ wsX5_clear := mz_mt (mz_ml (mz_ml (mz_mt (mz_mt mz_mh))))
set_option maxRecDepth 20000 in
theorem gX5_clear_X0_becomeDigit : GoodIn wsX5_clear (wsV RX5 22 RX0 yX0_becomeDigit wsX0_becomeDigit) := goodIn_app (goodIn_sub (mz_fc mz_i_wsX5_clear_3 (mz_fc mz_i_wsX5_clear_4 (mz_fc mz_i_wsX5_clear_5 (mz_fc mz_i_wsX5_clear_6 mz_fn)))) (by decide +kernel)) ggX5_clear_X0_becomeDigit
theorem dX5_clear_0 : decode cX5_clear 0 = .ok (.aload_n 0, 1) := by decide +kernel
theorem dX5_clear_1 : decode cX5_clear 1 = .ok (.getfield 10, 3) := by decide +kernel
theorem dX5_clear_4 : decode cX5_clear 4 = .ok (.iconst 0, 1) := by decide +kernel
theorem dX5_clear_5 : decode cX5_clear 5 = .ok (.invokevirtual 22, 3) := by decide +kernel
theorem dX5_clear_8 : decode cX5_clear 8 = .ok (.aload_n 0, 1) := by decide +kernel
theorem dX5_clear_9 : decode cX5_clear 9 = .ok (.getfield 16, 3) := by decide +kernel
theorem dX5_clear_12 : decode cX5_clear 12 = .ok (.iconst 1, 1) := by decide +kernel
theorem dX5_clear_13 : decode cX5_clear 13 = .ok (.invokevirtual 22, 3) := by decide +kernel
theorem dX5_clear_16 : decode cX5_clear 16 = .ok (.return_, 1) := by decide +kernel
theorem mz_i_wsX5_add_6 : (.code yX7_commonDivisor cX7_commonDivisor 11 (some .long) : Cond) ∈ wsX5_add := mz_mt (mz_ml (mz_ml (mz_ml (mz_mt (mz_mt (mz_mt (mz_mt (mz_mt mz_mh))))))))
theorem mz_i_wsX5_add_10 : (.code Lib.MathLoose.max_long.x Lib.MathLoose.max_long.code 4 (some .long) : Cond) ∈ wsX5_add := mz_mt (mz_ml (mz_ml (mz_ml (mz_mt (mz_mt (mz_mt (mz_mt (mz_mt (mz_mt (mz_mt (mz_mt (mz_mt mz_mh))))))))))))
theorem mz_i_wsX5_add_9 : (.initialized "java/lang/Math" : Cond) ∈ wsX5_add := mz_mt (mz_ml (mz_ml (mz_ml (mz_mt (mz_mt (mz_mt (mz_mt (mz_mt (mz_mt (mz_mt (mz_mt mz_mh)))))))))))
theorem mz_i_wsX5_add_8 : (.static Lib.MathLoose.max_long.x : Cond) ∈ wsX5_add := mz_mt (mz_ml (mz_ml (mz_ml (mz_mt (mz_mt (mz_mt (mz_mt (mz_mt (mz_mt (mz_mt mz_mh))))))))))
theorem mz_i_wsX5_add_7 : (.methodLink RX7 199 Lib.MathLoose.max_long.x : Cond) ∈ wsX5_add := mz_mt (mz_ml (mz_ml (mz_ml (mz_mt (mz_mt (mz_mt (mz_mt (mz_mt (mz_mt mz_mh)))))))))
set_option maxRecDepth 20000 in
theorem ggX5_add_X7_commonDivisor : GoodIn wsX5_add wsX7_commonDivisor := goodIn_sub (mz_fc mz_i_wsX5_add_6 (mz_fc mz_i_wsX5_add_7 (mz_fc mz_i_wsX5_add_8 (mz_fc mz_i_wsX5_add_9 (mz_fc mz_i_wsX5_add_10 mz_fn))))) (by decide +kernel)
set_option maxRecDepth 20000 in
theorem gX5_add_X7_commonDivisor_n26 : GoodIn wsX5_add (wsX7_commonDivisor) := ggX5_add_X7_commonDivisor
theorem mz_i_wsX5_add_15 : (.code yX0_become cX0_become 4 none : Cond) ∈ wsX5_add := mz_mt (mz_ml (mz_ml (mz_ml (mz_mt (mz_mt (mz_mt (mz_mt (mz_mt (mz_mt (mz_mt (mz_mt (mz_mt (mz_mt (mz_mt (mz_mt (mz_mt (mz_mt mz_mh)))))))))))))))))
theorem mz_i_wsX5_add_20 : (.fieldLink RX0 9 "MadeItSo$Big" "limbs" "[J" : Cond) ∈ wsX5_add := mz_mt (mz_ml (mz_ml (mz_ml (mz_mt (mz_mt (mz_mt (mz_mt (mz_mt (mz_mt (mz_mt (mz_mt (mz_mt (mz_mt (mz_mt (mz_mt (mz_mt (mz_mt (mz_mt (mz_mt (mz_mt (mz_mt (mz_mt mz_mh))))))))))))))))))))))
theorem mz_i_wsX5_add_19 : (.code Lib.Math.max.name Lib.Math.max.code 2 (some .int) : Cond) ∈ wsX5_add := mz_mt (mz_ml (mz_ml (mz_ml (mz_mt (mz_mt (mz_mt (mz_mt (mz_mt (mz_mt (mz_mt (mz_mt (mz_mt (mz_mt (mz_mt (mz_mt (mz_mt (mz_mt (mz_mt (mz_mt (mz_mt (mz_mt mz_mh)))))))))))))))))))))
theorem mz_i_wsX5_add_18 : (.static Lib.Math.max.name : Cond) ∈ wsX5_add := mz_mt (mz_ml (mz_ml (mz_ml (mz_mt (mz_mt (mz_mt (mz_mt (mz_mt (mz_mt (mz_mt (mz_mt (mz_mt (mz_mt (mz_mt (mz_mt (mz_mt (mz_mt (mz_mt (mz_mt (mz_mt mz_mh))))))))))))))))))))
theorem mz_i_wsX5_add_17 : (.methodLink RX0 20 Lib.Math.max.name : Cond) ∈ wsX5_add := mz_mt (mz_ml (mz_ml (mz_ml (mz_mt (mz_mt (mz_mt (mz_mt (mz_mt (mz_mt (mz_mt (mz_mt (mz_mt (mz_mt (mz_mt (mz_mt (mz_mt (mz_mt (mz_mt (mz_mt mz_mh)))))))))))))))))))
theorem mz_i_wsX5_add_16 : (.fieldLink RX0 13 "MadeItSo$Big" "used" "I" : Cond) ∈ wsX5_add := mz_mt (mz_ml (mz_ml (mz_ml (mz_mt (mz_mt (mz_mt (mz_mt (mz_mt (mz_mt (mz_mt (mz_mt (mz_mt (mz_mt (mz_mt (mz_mt (mz_mt (mz_mt (mz_mt mz_mh))))))))))))))))))
theorem mz_f_wsX5_add_wsX00 : ∀ w ∈ wsX00, w ∈ wsX5_add := fun _ h => mz_mt (mz_mr h)
set_option maxRecDepth 20000 in
theorem ggX5_add_X0_become : GoodIn wsX5_add wsX0_become := goodIn_sub (mz_fc mz_i_wsX5_add_15 (mz_fa (mz_fc mz_i_wsX5_add_16 (mz_fc mz_i_wsX5_add_17 (mz_fc mz_i_wsX5_add_18 (mz_fc mz_i_wsX5_add_9 (mz_fc mz_i_wsX5_add_19 (mz_fc mz_i_wsX5_add_20 mz_fn)))))) (mz_f_wsX5_add_wsX00))) (by decide +kernel)
theorem mz_i_wsX5_add_14 : (.initialized RX0 : Cond) ∈ wsX5_add := mz_mt (mz_ml (mz_ml (mz_ml (mz_mt (mz_mt (mz_mt (mz_mt (mz_mt (mz_mt (mz_mt (mz_mt (mz_mt (mz_mt (mz_mt (mz_mt (mz_mt mz_mh))))))))))))))))
theorem mz_i_wsX5_add_13 : (.selects RX0 yX0_become yX0_become : Cond) ∈ wsX5_add := mz_mt (mz_ml (mz_ml (mz_ml (mz_mt (mz_mt (mz_mt (mz_mt (mz_mt (mz_mt (mz_mt (mz_mt (mz_mt (mz_mt (mz_mt (mz_mt mz_mh)))))))))))))))
theorem mz_i_wsX5_add_12 : (.instanceMethod yX0_become : Cond) ∈ wsX5_add := mz_mt (mz_ml (mz_ml (mz_ml (mz_mt (mz_mt (mz_mt (mz_mt (mz_mt (mz_mt (mz_mt (mz_mt (mz_mt (mz_mt (mz_mt mz_mh))))))))))))))
theorem mz_i_wsX5_add_11 : (.methodLink RX5 32 yX0_become : Cond) ∈ wsX5_add := mz_mt (mz_ml (mz_ml (mz_ml (mz_mt (mz_mt (mz_mt (mz_mt (mz_mt (mz_mt (mz_mt (mz_mt (mz_mt (mz_mt mz_mh)))))))))))))
set_option maxRecDepth 20000 in
theorem gX5_add_X0_become : GoodIn wsX5_add (wsV RX5 32 RX0 yX0_become wsX0_become) := goodIn_app (goodIn_sub (mz_fc mz_i_wsX5_add_11 (mz_fc mz_i_wsX5_add_12 (mz_fc mz_i_wsX5_add_13 (mz_fc mz_i_wsX5_add_14 mz_fn)))) (by decide +kernel)) ggX5_add_X0_become
theorem mz_i_wsX5_add_24 : (.code yX0_times cX0_times 16 none : Cond) ∈ wsX5_add := mz_mt (mz_ml (mz_ml (mz_ml (mz_mt (mz_mt (mz_mt (mz_mt (mz_mt (mz_mt (mz_mt (mz_mt (mz_mt (mz_mt (mz_mt (mz_mt (mz_mt (mz_mt (mz_mt (mz_mt (mz_mt (mz_mt (mz_mt (mz_mt (mz_mt (mz_mt (mz_mt mz_mh))))))))))))))))))))))))))
theorem mz_i_wsX5_add_32 : (.code yX0_trim cX0_trim 2 none : Cond) ∈ wsX5_add := mz_mt (mz_ml (mz_ml (mz_mr (mz_mt (mz_mt (mz_mt (mz_mt (mz_mt (mz_mt (mz_mt mz_mh))))))))))
theorem mz_i_wsX5_add_31 : (.selects RX0 yX0_trim yX0_trim : Cond) ∈ wsX5_add := mz_mt (mz_ml (mz_ml (mz_mr (mz_mt (mz_mt (mz_mt (mz_mt (mz_mt (mz_mt mz_mh)))))))))
theorem mz_i_wsX5_add_30 : (.instanceMethod yX0_trim : Cond) ∈ wsX5_add := mz_mt (mz_ml (mz_ml (mz_mr (mz_mt (mz_mt (mz_mt (mz_mt (mz_mt mz_mh))))))))
theorem mz_i_wsX5_add_29 : (.methodLink RX0 17 yX0_trim : Cond) ∈ wsX5_add := mz_mt (mz_ml (mz_ml (mz_mr (mz_mt (mz_mt (mz_mt (mz_mt mz_mh)))))))
theorem mz_i_wsX5_add_28 : (.code Lib.Math.min.name Lib.Math.min.code 2 (some .int) : Cond) ∈ wsX5_add := mz_mt (mz_ml (mz_ml (mz_mr (mz_mt (mz_mt (mz_mt mz_mh))))))
theorem mz_i_wsX5_add_27 : (.static Lib.Math.min.name : Cond) ∈ wsX5_add := mz_mt (mz_ml (mz_ml (mz_mr (mz_mt (mz_mt mz_mh)))))
theorem mz_i_wsX5_add_26 : (.methodLink RX0 28 Lib.Math.min.name : Cond) ∈ wsX5_add := mz_mt (mz_ml (mz_ml (mz_mr (mz_mt mz_mh))))
theorem mz_i_wsX5_add_25 : (.constantLong RX0 26 (1073741823) : Cond) ∈ wsX5_add := mz_mt (mz_ml (mz_ml (mz_mr mz_mh)))
set_option maxRecDepth 20000 in
theorem ggX5_add_X0_times : GoodIn wsX5_add wsX0_times := goodIn_sub (mz_fc mz_i_wsX5_add_24 (mz_fa (mz_fc mz_i_wsX5_add_25 (mz_fc mz_i_wsX5_add_16 (mz_fc mz_i_wsX5_add_26 (mz_fc mz_i_wsX5_add_27 (mz_fc mz_i_wsX5_add_9 (mz_fc mz_i_wsX5_add_28 (mz_fc mz_i_wsX5_add_20 (mz_fc mz_i_wsX5_add_29 (mz_fc mz_i_wsX5_add_30 (mz_fc mz_i_wsX5_add_31 (mz_fc mz_i_wsX5_add_14 (mz_fc mz_i_wsX5_add_32 mz_fn)))))))))))) (mz_f_wsX5_add_wsX00))) (by decide +kernel)
theorem mz_i_wsX5_add_23 : (.selects RX0 yX0_times yX0_times : Cond) ∈ wsX5_add := mz_mt (mz_ml (mz_ml (mz_ml (mz_mt (mz_mt (mz_mt (mz_mt (mz_mt (mz_mt (mz_mt (mz_mt (mz_mt (mz_mt (mz_mt (mz_mt (mz_mt (mz_mt (mz_mt (mz_mt (mz_mt (mz_mt (mz_mt (mz_mt (mz_mt (mz_mt mz_mh)))))))))))))))))))))))))
theorem mz_i_wsX5_add_22 : (.instanceMethod yX0_times : Cond) ∈ wsX5_add := mz_mt (mz_ml (mz_ml (mz_ml (mz_mt (mz_mt (mz_mt (mz_mt (mz_mt (mz_mt (mz_mt (mz_mt (mz_mt (mz_mt (mz_mt (mz_mt (mz_mt (mz_mt (mz_mt (mz_mt (mz_mt (mz_mt (mz_mt (mz_mt (mz_mt mz_mh))))))))))))))))))))))))
theorem mz_i_wsX5_add_21 : (.methodLink RX5 36 yX0_times : Cond) ∈ wsX5_add := mz_mt (mz_ml (mz_ml (mz_ml (mz_mt (mz_mt (mz_mt (mz_mt (mz_mt (mz_mt (mz_mt (mz_mt (mz_mt (mz_mt (mz_mt (mz_mt (mz_mt (mz_mt (mz_mt (mz_mt (mz_mt (mz_mt (mz_mt (mz_mt mz_mh)))))))))))))))))))))))
set_option maxRecDepth 20000 in
theorem gX5_add_X0_times : GoodIn wsX5_add (wsV RX5 36 RX0 yX0_times wsX0_times) := goodIn_app (goodIn_sub (mz_fc mz_i_wsX5_add_21 (mz_fc mz_i_wsX5_add_22 (mz_fc mz_i_wsX5_add_23 (mz_fc mz_i_wsX5_add_14 mz_fn)))) (by decide +kernel)) ggX5_add_X0_times
theorem mz_i_wsX5_add_36 : (.code yX0_plus cX0_plus 7 none : Cond) ∈ wsX5_add := mz_mt (mz_ml (mz_ml (mz_mr (mz_mt (mz_mt (mz_mt (mz_mt (mz_mt (mz_mt (mz_mt (mz_mt (mz_mt (mz_mt (mz_mt mz_mh))))))))))))))
set_option maxRecDepth 20000 in
theorem ggX5_add_X0_plus : GoodIn wsX5_add wsX0_plus := goodIn_sub (mz_fc mz_i_wsX5_add_36 (mz_fa (mz_fc mz_i_wsX5_add_16 (mz_fc mz_i_wsX5_add_17 (mz_fc mz_i_wsX5_add_18 (mz_fc mz_i_wsX5_add_9 (mz_fc mz_i_wsX5_add_19 (mz_fc mz_i_wsX5_add_26 (mz_fc mz_i_wsX5_add_27 (mz_fc mz_i_wsX5_add_28 (mz_fc mz_i_wsX5_add_20 (mz_fc mz_i_wsX5_add_25 (mz_fc mz_i_wsX5_add_29 (mz_fc mz_i_wsX5_add_30 (mz_fc mz_i_wsX5_add_31 (mz_fc mz_i_wsX5_add_14 (mz_fc mz_i_wsX5_add_32 mz_fn))))))))))))))) (mz_f_wsX5_add_wsX00))) (by decide +kernel)
theorem mz_i_wsX5_add_35 : (.selects RX0 yX0_plus yX0_plus : Cond) ∈ wsX5_add := mz_mt (mz_ml (mz_ml (mz_mr (mz_mt (mz_mt (mz_mt (mz_mt (mz_mt (mz_mt (mz_mt (mz_mt (mz_mt (mz_mt mz_mh)))))))))))))
theorem mz_i_wsX5_add_34 : (.instanceMethod yX0_plus : Cond) ∈ wsX5_add := mz_mt (mz_ml (mz_ml (mz_mr (mz_mt (mz_mt (mz_mt (mz_mt (mz_mt (mz_mt (mz_mt (mz_mt (mz_mt mz_mh))))))))))))
theorem mz_i_wsX5_add_33 : (.methodLink RX5 40 yX0_plus : Cond) ∈ wsX5_add := mz_mt (mz_ml (mz_ml (mz_mr (mz_mt (mz_mt (mz_mt (mz_mt (mz_mt (mz_mt (mz_mt (mz_mt mz_mh)))))))))))
set_option maxRecDepth 20000 in
theorem gX5_add_X0_plus : GoodIn wsX5_add (wsV RX5 40 RX0 yX0_plus wsX0_plus) := goodIn_app (goodIn_sub (mz_fc mz_i_wsX5_add_33 (mz_fc mz_i_wsX5_add_34 (mz_fc mz_i_wsX5_add_35 (mz_fc mz_i_wsX5_add_14 mz_fn)))) (by decide +kernel)) ggX5_add_X0_plus
theorem dX5_add_0 : decode cX5_add 0 = .ok (.lload 5, 2) := by decide +kernel
theorem dX5_add_2 : decode cX5_add 2 = .ok (.lload_n 1, 1) := by decide +kernel
theorem dX5_add_3 : decode cX5_add 3 = .ok (.invokestatic 26, 3) := by decide +kernel
theorem dX5_add_6 : decode cX5_add 6 = .ok (.lstore 7, 2) := by decide +kernel
theorem dX5_add_8 : decode cX5_add 8 = .ok (.lload 5, 2) := by decide +kernel
theorem dX5_add_10 : decode cX5_add 10 = .ok (.lload 7, 2) := by decide +kernel
theorem dX5_add_12 : decode cX5_add 12 = .ok (.ldiv, 1) := by decide +kernel
theorem dX5_add_13 : decode cX5_add 13 = .ok (.lload_n 3, 1) := by decide +kernel
theorem dX5_add_14 : decode cX5_add 14 = .ok (.invokestatic 26, 3) := by decide +kernel
theorem dX5_add_17 : decode cX5_add 17 = .ok (.lstore 9, 2) := by decide +kernel
theorem dX5_add_19 : decode cX5_add 19 = .ok (.lload 5, 2) := by decide +kernel
theorem dX5_add_21 : decode cX5_add 21 = .ok (.lload 7, 2) := by decide +kernel
theorem dX5_add_23 : decode cX5_add 23 = .ok (.ldiv, 1) := by decide +kernel
theorem dX5_add_24 : decode cX5_add 24 = .ok (.lload 9, 2) := by decide +kernel
theorem dX5_add_26 : decode cX5_add 26 = .ok (.ldiv, 1) := by decide +kernel
theorem dX5_add_27 : decode cX5_add 27 = .ok (.lstore 11, 2) := by decide +kernel
theorem dX5_add_29 : decode cX5_add 29 = .ok (.aload_n 0, 1) := by decide +kernel
theorem dX5_add_30 : decode cX5_add 30 = .ok (.getfield 19, 3) := by decide +kernel
theorem dX5_add_33 : decode cX5_add 33 = .ok (.aload_n 0, 1) := by decide +kernel
theorem dX5_add_34 : decode cX5_add 34 = .ok (.getfield 16, 3) := by decide +kernel
theorem dX5_add_37 : decode cX5_add 37 = .ok (.invokevirtual 32, 3) := by decide +kernel
theorem dX5_add_40 : decode cX5_add 40 = .ok (.aload_n 0, 1) := by decide +kernel
theorem dX5_add_41 : decode cX5_add 41 = .ok (.getfield 19, 3) := by decide +kernel
theorem dX5_add_44 : decode cX5_add 44 = .ok (.lload_n 1, 1) := by decide +kernel
theorem dX5_add_45 : decode cX5_add 45 = .ok (.lload 7, 2) := by decide +kernel
theorem dX5_add_47 : decode cX5_add 47 = .ok (.ldiv, 1) := by decide +kernel
theorem dX5_add_48 : decode cX5_add 48 = .ok (.invokevirtual 36, 3) := by decide +kernel
theorem dX5_add_51 : decode cX5_add 51 = .ok (.aload_n 0, 1) := by decide +kernel
theorem dX5_add_52 : decode cX5_add 52 = .ok (.getfield 19, 3) := by decide +kernel
theorem dX5_add_55 : decode cX5_add 55 = .ok (.lload_n 3, 1) := by decide +kernel
theorem dX5_add_56 : decode cX5_add 56 = .ok (.lload 9, 2) := by decide +kernel
theorem dX5_add_58 : decode cX5_add 58 = .ok (.ldiv, 1) := by decide +kernel
theorem dX5_add_59 : decode cX5_add 59 = .ok (.invokevirtual 36, 3) := by decide +kernel
theorem dX5_add_62 : decode cX5_add 62 = .ok (.aload_n 0, 1) := by decide +kernel
theorem dX5_add_63 : decode cX5_add 63 = .ok (.getfield 10, 3) := by decide +kernel
theorem dX5_add_66 : decode cX5_add 66 = .ok (.lload 11, 2) := by decide +kernel
theorem dX5_add_68 : decode cX5_add 68 = .ok (.invokevirtual 36, 3) := by decide +kernel
theorem dX5_add_71 : decode cX5_add 71 = .ok (.aload_n 0, 1) := by decide +kernel
theorem dX5_add_72 : decode cX5_add 72 = .ok (.getfield 16, 3) := by decide +kernel
theorem dX5_add_75 : decode cX5_add 75 = .ok (.lload 11, 2) := by decide +kernel
theorem dX5_add_77 : decode cX5_add 77 = .ok (.invokevirtual 36, 3) := by decide +kernel
theorem dX5_add_80 : decode cX5_add 80 = .ok (.aload_n 0, 1) := by decide +kernel
theorem dX5_add_81 : decode cX5_add 81 = .ok (.getfield 10, 3) := by decide +kernel
theorem dX5_add_84 : decode cX5_add 84 = .ok (.aload_n 0, 1) := by decide +kernel
theorem dX5_add_85 : decode cX5_add 85 = .ok (.getfield 19, 3) := by decide +kernel
theorem dX5_add_88 : decode cX5_add 88 = .ok (.invokevirtual 40, 3) := by decide +kernel
theorem dX5_add_91 : decode cX5_add 91 = .ok (.return_, 1) := by decide +kernel
theorem mz_i_wsX5_is_8 : (.code yX0_become cX0_become 4 none : Cond) ∈ wsX5_is := mz_mt (mz_ml (mz_ml (mz_ml (mz_mt (mz_mt (mz_mt (mz_mt (mz_mt (mz_mt (mz_mt mz_mh))))))))))
theorem mz_i_wsX5_is_14 : (.fieldLink RX0 9 "MadeItSo$Big" "limbs" "[J" : Cond) ∈ wsX5_is := mz_mt (mz_ml (mz_ml (mz_ml (mz_mt (mz_mt (mz_mt (mz_mt (mz_mt (mz_mt (mz_mt (mz_mt (mz_mt (mz_mt (mz_mt (mz_mt (mz_mt mz_mh))))))))))))))))
theorem mz_i_wsX5_is_13 : (.code Lib.Math.max.name Lib.Math.max.code 2 (some .int) : Cond) ∈ wsX5_is := mz_mt (mz_ml (mz_ml (mz_ml (mz_mt (mz_mt (mz_mt (mz_mt (mz_mt (mz_mt (mz_mt (mz_mt (mz_mt (mz_mt (mz_mt (mz_mt mz_mh)))))))))))))))
theorem mz_i_wsX5_is_12 : (.initialized "java/lang/Math" : Cond) ∈ wsX5_is := mz_mt (mz_ml (mz_ml (mz_ml (mz_mt (mz_mt (mz_mt (mz_mt (mz_mt (mz_mt (mz_mt (mz_mt (mz_mt (mz_mt (mz_mt mz_mh))))))))))))))
theorem mz_i_wsX5_is_11 : (.static Lib.Math.max.name : Cond) ∈ wsX5_is := mz_mt (mz_ml (mz_ml (mz_ml (mz_mt (mz_mt (mz_mt (mz_mt (mz_mt (mz_mt (mz_mt (mz_mt (mz_mt (mz_mt mz_mh)))))))))))))
theorem mz_i_wsX5_is_10 : (.methodLink RX0 20 Lib.Math.max.name : Cond) ∈ wsX5_is := mz_mt (mz_ml (mz_ml (mz_ml (mz_mt (mz_mt (mz_mt (mz_mt (mz_mt (mz_mt (mz_mt (mz_mt (mz_mt mz_mh))))))))))))
theorem mz_i_wsX5_is_9 : (.fieldLink RX0 13 "MadeItSo$Big" "used" "I" : Cond) ∈ wsX5_is := mz_mt (mz_ml (mz_ml (mz_ml (mz_mt (mz_mt (mz_mt (mz_mt (mz_mt (mz_mt (mz_mt (mz_mt mz_mh)))))))))))
theorem mz_f_wsX5_is_wsX00 : ∀ w ∈ wsX00, w ∈ wsX5_is := fun _ h => mz_mt (mz_mr h)
set_option maxRecDepth 20000 in
theorem ggX5_is_X0_become : GoodIn wsX5_is wsX0_become := goodIn_sub (mz_fc mz_i_wsX5_is_8 (mz_fa (mz_fc mz_i_wsX5_is_9 (mz_fc mz_i_wsX5_is_10 (mz_fc mz_i_wsX5_is_11 (mz_fc mz_i_wsX5_is_12 (mz_fc mz_i_wsX5_is_13 (mz_fc mz_i_wsX5_is_14 mz_fn)))))) (mz_f_wsX5_is_wsX00))) (by decide +kernel)
theorem mz_i_wsX5_is_7 : (.initialized RX0 : Cond) ∈ wsX5_is := mz_mt (mz_ml (mz_ml (mz_ml (mz_mt (mz_mt (mz_mt (mz_mt (mz_mt (mz_mt mz_mh)))))))))
theorem mz_i_wsX5_is_6 : (.selects RX0 yX0_become yX0_become : Cond) ∈ wsX5_is := mz_mt (mz_ml (mz_ml (mz_ml (mz_mt (mz_mt (mz_mt (mz_mt (mz_mt mz_mh))))))))
theorem mz_i_wsX5_is_5 : (.instanceMethod yX0_become : Cond) ∈ wsX5_is := mz_mt (mz_ml (mz_ml (mz_ml (mz_mt (mz_mt (mz_mt (mz_mt mz_mh)))))))
theorem mz_i_wsX5_is_4 : (.methodLink RX5 32 yX0_become : Cond) ∈ wsX5_is := mz_mt (mz_ml (mz_ml (mz_ml (mz_mt (mz_mt (mz_mt mz_mh))))))
set_option maxRecDepth 20000 in
theorem gX5_is_X0_become : GoodIn wsX5_is (wsV RX5 32 RX0 yX0_become wsX0_become) := goodIn_app (goodIn_sub (mz_fc mz_i_wsX5_is_4 (mz_fc mz_i_wsX5_is_5 (mz_fc mz_i_wsX5_is_6 (mz_fc mz_i_wsX5_is_7 mz_fn)))) (by decide +kernel)) ggX5_is_X0_become
theorem mz_i_wsX5_is_18 : (.code yX0_times cX0_times 16 none : Cond) ∈ wsX5_is := mz_mt (mz_ml (mz_ml (mz_ml (mz_mt (mz_mt (mz_mt (mz_mt (mz_mt (mz_mt (mz_mt (mz_mt (mz_mt (mz_mt (mz_mt (mz_mt (mz_mt (mz_mt (mz_mt (mz_mt (mz_mt mz_mh))))))))))))))))))))
theorem mz_i_wsX5_is_26 : (.code yX0_trim cX0_trim 2 none : Cond) ∈ wsX5_is := mz_mt (mz_ml (mz_ml (mz_mr (mz_mt mz_mh))))
theorem mz_i_wsX5_is_25 : (.selects RX0 yX0_trim yX0_trim : Cond) ∈ wsX5_is := mz_mt (mz_ml (mz_ml (mz_mr mz_mh)))
theorem mz_i_wsX5_is_24 : (.instanceMethod yX0_trim : Cond) ∈ wsX5_is := mz_mt (mz_ml (mz_ml (mz_ml (mz_mt (mz_mt (mz_mt (mz_mt (mz_mt (mz_mt (mz_mt (mz_mt (mz_mt (mz_mt (mz_mt (mz_mt (mz_mt (mz_mt (mz_mt (mz_mt (mz_mt (mz_mt (mz_mt (mz_mt (mz_mt (mz_mt (mz_mt mz_mh))))))))))))))))))))))))))
theorem mz_i_wsX5_is_23 : (.methodLink RX0 17 yX0_trim : Cond) ∈ wsX5_is := mz_mt (mz_ml (mz_ml (mz_ml (mz_mt (mz_mt (mz_mt (mz_mt (mz_mt (mz_mt (mz_mt (mz_mt (mz_mt (mz_mt (mz_mt (mz_mt (mz_mt (mz_mt (mz_mt (mz_mt (mz_mt (mz_mt (mz_mt (mz_mt (mz_mt (mz_mt mz_mh)))))))))))))))))))))))))
theorem mz_i_wsX5_is_22 : (.code Lib.Math.min.name Lib.Math.min.code 2 (some .int) : Cond) ∈ wsX5_is := mz_mt (mz_ml (mz_ml (mz_ml (mz_mt (mz_mt (mz_mt (mz_mt (mz_mt (mz_mt (mz_mt (mz_mt (mz_mt (mz_mt (mz_mt (mz_mt (mz_mt (mz_mt (mz_mt (mz_mt (mz_mt (mz_mt (mz_mt (mz_mt (mz_mt mz_mh))))))))))))))))))))))))
theorem mz_i_wsX5_is_21 : (.static Lib.Math.min.name : Cond) ∈ wsX5_is := mz_mt (mz_ml (mz_ml (mz_ml (mz_mt (mz_mt (mz_mt (mz_mt (mz_mt (mz_mt (mz_mt (mz_mt (mz_mt (mz_mt (mz_mt (mz_mt (mz_mt (mz_mt (mz_mt (mz_mt (mz_mt (mz_mt (mz_mt (mz_mt mz_mh)))))))))))))))))))))))
theorem mz_i_wsX5_is_20 : (.methodLink RX0 28 Lib.Math.min.name : Cond) ∈ wsX5_is := mz_mt (mz_ml (mz_ml (mz_ml (mz_mt (mz_mt (mz_mt (mz_mt (mz_mt (mz_mt (mz_mt (mz_mt (mz_mt (mz_mt (mz_mt (mz_mt (mz_mt (mz_mt (mz_mt (mz_mt (mz_mt (mz_mt (mz_mt mz_mh))))))))))))))))))))))
theorem mz_i_wsX5_is_19 : (.constantLong RX0 26 (1073741823) : Cond) ∈ wsX5_is := mz_mt (mz_ml (mz_ml (mz_ml (mz_mt (mz_mt (mz_mt (mz_mt (mz_mt (mz_mt (mz_mt (mz_mt (mz_mt (mz_mt (mz_mt (mz_mt (mz_mt (mz_mt (mz_mt (mz_mt (mz_mt (mz_mt mz_mh)))))))))))))))))))))
set_option maxRecDepth 20000 in
theorem ggX5_is_X0_times : GoodIn wsX5_is wsX0_times := goodIn_sub (mz_fc mz_i_wsX5_is_18 (mz_fa (mz_fc mz_i_wsX5_is_19 (mz_fc mz_i_wsX5_is_9 (mz_fc mz_i_wsX5_is_20 (mz_fc mz_i_wsX5_is_21 (mz_fc mz_i_wsX5_is_12 (mz_fc mz_i_wsX5_is_22 (mz_fc mz_i_wsX5_is_14 (mz_fc mz_i_wsX5_is_23 (mz_fc mz_i_wsX5_is_24 (mz_fc mz_i_wsX5_is_25 (mz_fc mz_i_wsX5_is_7 (mz_fc mz_i_wsX5_is_26 mz_fn)))))))))))) (mz_f_wsX5_is_wsX00))) (by decide +kernel)
theorem mz_i_wsX5_is_17 : (.selects RX0 yX0_times yX0_times : Cond) ∈ wsX5_is := mz_mt (mz_ml (mz_ml (mz_ml (mz_mt (mz_mt (mz_mt (mz_mt (mz_mt (mz_mt (mz_mt (mz_mt (mz_mt (mz_mt (mz_mt (mz_mt (mz_mt (mz_mt (mz_mt (mz_mt mz_mh)))))))))))))))))))
theorem mz_i_wsX5_is_16 : (.instanceMethod yX0_times : Cond) ∈ wsX5_is := mz_mt (mz_ml (mz_ml (mz_ml (mz_mt (mz_mt (mz_mt (mz_mt (mz_mt (mz_mt (mz_mt (mz_mt (mz_mt (mz_mt (mz_mt (mz_mt (mz_mt (mz_mt (mz_mt mz_mh))))))))))))))))))
theorem mz_i_wsX5_is_15 : (.methodLink RX5 36 yX0_times : Cond) ∈ wsX5_is := mz_mt (mz_ml (mz_ml (mz_ml (mz_mt (mz_mt (mz_mt (mz_mt (mz_mt (mz_mt (mz_mt (mz_mt (mz_mt (mz_mt (mz_mt (mz_mt (mz_mt (mz_mt mz_mh)))))))))))))))))
set_option maxRecDepth 20000 in
theorem gX5_is_X0_times : GoodIn wsX5_is (wsV RX5 36 RX0 yX0_times wsX0_times) := goodIn_app (goodIn_sub (mz_fc mz_i_wsX5_is_15 (mz_fc mz_i_wsX5_is_16 (mz_fc mz_i_wsX5_is_17 (mz_fc mz_i_wsX5_is_7 mz_fn)))) (by decide +kernel)) ggX5_is_X0_times
theorem mz_i_wsX5_is_30 : (.code yX0_same cX0_same 3 (some .boolean) : Cond) ∈ wsX5_is := mz_mt (mz_ml (mz_ml (mz_mr (mz_mt (mz_mt (mz_mt (mz_mt (mz_mt mz_mh))))))))
set_option maxRecDepth 20000 in
theorem ggX5_is_X0_same : GoodIn wsX5_is wsX0_same := goodIn_sub (mz_fc mz_i_wsX5_is_30 (mz_fa (mz_fc mz_i_wsX5_is_9 (mz_fc mz_i_wsX5_is_14 mz_fn)) (mz_f_wsX5_is_wsX00))) (by decide +kernel)
theorem mz_i_wsX5_is_29 : (.selects RX0 yX0_same yX0_same : Cond) ∈ wsX5_is := mz_mt (mz_ml (mz_ml (mz_mr (mz_mt (mz_mt (mz_mt (mz_mt mz_mh)))))))
theorem mz_i_wsX5_is_28 : (.instanceMethod yX0_same : Cond) ∈ wsX5_is := mz_mt (mz_ml (mz_ml (mz_mr (mz_mt (mz_mt (mz_mt mz_mh))))))
theorem mz_i_wsX5_is_27 : (.methodLink RX5 43 yX0_same : Cond) ∈ wsX5_is := mz_mt (mz_ml (mz_ml (mz_mr (mz_mt (mz_mt mz_mh)))))
set_option maxRecDepth 20000 in
theorem gX5_is_X0_same : GoodIn wsX5_is (wsV RX5 43 RX0 yX0_same wsX0_same) := goodIn_app (goodIn_sub (mz_fc mz_i_wsX5_is_27 (mz_fc mz_i_wsX5_is_28 (mz_fc mz_i_wsX5_is_29 (mz_fc mz_i_wsX5_is_7 mz_fn)))) (by decide +kernel)) ggX5_is_X0_same
theorem dX5_is_0 : decode cX5_is 0 = .ok (.aload_n 0, 1) := by decide +kernel
theorem dX5_is_1 : decode cX5_is 1 = .ok (.getfield 19, 3) := by decide +kernel
theorem dX5_is_4 : decode cX5_is 4 = .ok (.aload_n 0, 1) := by decide +kernel
theorem dX5_is_5 : decode cX5_is 5 = .ok (.getfield 16, 3) := by decide +kernel
theorem dX5_is_8 : decode cX5_is 8 = .ok (.invokevirtual 32, 3) := by decide +kernel
theorem dX5_is_11 : decode cX5_is 11 = .ok (.aload_n 0, 1) := by decide +kernel
theorem dX5_is_12 : decode cX5_is 12 = .ok (.getfield 19, 3) := by decide +kernel
theorem dX5_is_15 : decode cX5_is 15 = .ok (.lload_n 1, 1) := by decide +kernel
theorem dX5_is_16 : decode cX5_is 16 = .ok (.invokevirtual 36, 3) := by decide +kernel
theorem dX5_is_19 : decode cX5_is 19 = .ok (.aload_n 0, 1) := by decide +kernel
theorem dX5_is_20 : decode cX5_is 20 = .ok (.getfield 19, 3) := by decide +kernel
theorem dX5_is_23 : decode cX5_is 23 = .ok (.aload_n 0, 1) := by decide +kernel
theorem dX5_is_24 : decode cX5_is 24 = .ok (.getfield 10, 3) := by decide +kernel
theorem dX5_is_27 : decode cX5_is 27 = .ok (.invokevirtual 43, 3) := by decide +kernel
theorem dX5_is_30 : decode cX5_is 30 = .ok (.ireturn, 1) := by decide +kernel
theorem mz_i_wsX7_hasRow_6 : (.code yX2_has cX2_has 2 (some .boolean) : Cond) ∈ wsX7_hasRow := mz_mt (mz_ml (mz_ml (mz_mt (mz_mt (mz_mt (mz_mt (mz_mt mz_mh)))))))
theorem mz_i_wsX7_hasRow_7 : (.fieldLink RX2 18 "MadeItSo$Drawing" "things" "I" : Cond) ∈ wsX7_hasRow := mz_mt (mz_ml (mz_ml (mz_mt (mz_mt (mz_mt (mz_mt (mz_mt (mz_mt mz_mh))))))))
theorem mz_f_wsX7_hasRow_wsX20 : ∀ w ∈ wsX20, w ∈ wsX7_hasRow := fun _ h => mz_mt (mz_mr h)
set_option maxRecDepth 20000 in
theorem ggX7_hasRow_X2_has : GoodIn wsX7_hasRow wsX2_has := goodIn_sub (mz_fc mz_i_wsX7_hasRow_6 (mz_fa (mz_fc mz_i_wsX7_hasRow_7 mz_fn) (mz_f_wsX7_hasRow_wsX20))) (by decide +kernel)
theorem mz_i_wsX7_hasRow_5 : (.initialized RX2 : Cond) ∈ wsX7_hasRow := mz_mt (mz_ml (mz_ml (mz_mt (mz_mt (mz_mt (mz_mt mz_mh))))))
theorem mz_i_wsX7_hasRow_4 : (.selects RX2 yX2_has yX2_has : Cond) ∈ wsX7_hasRow := mz_mt (mz_ml (mz_ml (mz_mt (mz_mt (mz_mt mz_mh)))))
theorem mz_i_wsX7_hasRow_3 : (.instanceMethod yX2_has : Cond) ∈ wsX7_hasRow := mz_mt (mz_ml (mz_ml (mz_mt (mz_mt mz_mh))))
theorem mz_i_wsX7_hasRow_2 : (.methodLink RX7 77 yX2_has : Cond) ∈ wsX7_hasRow := mz_mt (mz_ml (mz_ml (mz_mt mz_mh)))
set_option maxRecDepth 20000 in
theorem gX7_hasRow_X2_has : GoodIn wsX7_hasRow (wsV RX7 77 RX2 yX2_has wsX2_has) := goodIn_app (goodIn_sub (mz_fc mz_i_wsX7_hasRow_2 (mz_fc mz_i_wsX7_hasRow_3 (mz_fc mz_i_wsX7_hasRow_4 (mz_fc mz_i_wsX7_hasRow_5 mz_fn)))) (by decide +kernel)) ggX7_hasRow_X2_has
theorem mz_i_wsX7_hasRow_11 : (.code yX2_parentsOf cX2_parentsOf 2 (some .int) : Cond) ∈ wsX7_hasRow := mz_mt (mz_ml (mz_ml (mz_mt (mz_mt (mz_mt (mz_mt (mz_mt (mz_mt (mz_mt (mz_mt (mz_mt (mz_mt mz_mh))))))))))))
theorem mz_i_wsX7_hasRow_13 : (.methodLink RX2 22 yX2_has : Cond) ∈ wsX7_hasRow := mz_mt (mz_ml (mz_ml (mz_mt (mz_mt (mz_mt (mz_mt (mz_mt (mz_mt (mz_mt (mz_mt (mz_mt (mz_mt (mz_mt (mz_mt mz_mh))))))))))))))
theorem mz_i_wsX7_hasRow_12 : (.fieldLink RX2 9 "MadeItSo$Drawing" "parents" "[I" : Cond) ∈ wsX7_hasRow := mz_mt (mz_ml (mz_ml (mz_mt (mz_mt (mz_mt (mz_mt (mz_mt (mz_mt (mz_mt (mz_mt (mz_mt (mz_mt (mz_mt mz_mh)))))))))))))
set_option maxRecDepth 20000 in
theorem ggX7_hasRow_X2_parentsOf : GoodIn wsX7_hasRow wsX2_parentsOf := goodIn_sub (mz_fc mz_i_wsX7_hasRow_11 (mz_fa (mz_fc mz_i_wsX7_hasRow_12 (mz_fc mz_i_wsX7_hasRow_13 (mz_fc mz_i_wsX7_hasRow_3 (mz_fc mz_i_wsX7_hasRow_4 (mz_fc mz_i_wsX7_hasRow_5 (mz_fc mz_i_wsX7_hasRow_6 (mz_fc mz_i_wsX7_hasRow_7 mz_fn))))))) (mz_f_wsX7_hasRow_wsX20))) (by decide +kernel)
theorem mz_i_wsX7_hasRow_10 : (.selects RX2 yX2_parentsOf yX2_parentsOf : Cond) ∈ wsX7_hasRow := mz_mt (mz_ml (mz_ml (mz_mt (mz_mt (mz_mt (mz_mt (mz_mt (mz_mt (mz_mt (mz_mt (mz_mt mz_mh)))))))))))
theorem mz_i_wsX7_hasRow_9 : (.instanceMethod yX2_parentsOf : Cond) ∈ wsX7_hasRow := mz_mt (mz_ml (mz_ml (mz_mt (mz_mt (mz_mt (mz_mt (mz_mt (mz_mt (mz_mt (mz_mt mz_mh))))))))))
theorem mz_i_wsX7_hasRow_8 : (.methodLink RX7 109 yX2_parentsOf : Cond) ∈ wsX7_hasRow := mz_mt (mz_ml (mz_ml (mz_mt (mz_mt (mz_mt (mz_mt (mz_mt (mz_mt (mz_mt mz_mh)))))))))
set_option maxRecDepth 20000 in
theorem gX7_hasRow_X2_parentsOf : GoodIn wsX7_hasRow (wsV RX7 109 RX2 yX2_parentsOf wsX2_parentsOf) := goodIn_app (goodIn_sub (mz_fc mz_i_wsX7_hasRow_8 (mz_fc mz_i_wsX7_hasRow_9 (mz_fc mz_i_wsX7_hasRow_10 (mz_fc mz_i_wsX7_hasRow_5 mz_fn)))) (by decide +kernel)) ggX7_hasRow_X2_parentsOf
theorem mz_i_wsX7_hasRow_17 : (.code yX7_partsOf cX7_partsOf 1 (some .int) : Cond) ∈ wsX7_hasRow := mz_mt (mz_ml (mz_ml (mz_mt (mz_mt (mz_mt (mz_mt (mz_mt (mz_mt (mz_mt (mz_mt (mz_mt (mz_mt (mz_mt (mz_mt (mz_mt (mz_mt (mz_mt (mz_mt mz_mh))))))))))))))))))
theorem mz_i_wsX7_hasRow_24 : (.constant RJ6 267 (252645135) : Cond) ∈ wsX7_hasRow := mz_mt (mz_ml (mz_ml (mz_mt (mz_mt (mz_mt (mz_mt (mz_mt (mz_mt (mz_mt (mz_mt (mz_mt (mz_mt (mz_mt (mz_mt (mz_mt (mz_mt (mz_mt (mz_mt (mz_mt (mz_mt (mz_mt (mz_mt (mz_mt (mz_mt (mz_mt mz_mh)))))))))))))))))))))))))
theorem mz_i_wsX7_hasRow_23 : (.constant RJ6 266 (858993459) : Cond) ∈ wsX7_hasRow := mz_mt (mz_ml (mz_ml (mz_mt (mz_mt (mz_mt (mz_mt (mz_mt (mz_mt (mz_mt (mz_mt (mz_mt (mz_mt (mz_mt (mz_mt (mz_mt (mz_mt (mz_mt (mz_mt (mz_mt (mz_mt (mz_mt (mz_mt (mz_mt (mz_mt mz_mh))))))))))))))))))))))))
theorem mz_i_wsX7_hasRow_22 : (.constant RJ6 265 (1431655765) : Cond) ∈ wsX7_hasRow := mz_mt (mz_ml (mz_ml (mz_mt (mz_mt (mz_mt (mz_mt (mz_mt (mz_mt (mz_mt (mz_mt (mz_mt (mz_mt (mz_mt (mz_mt (mz_mt (mz_mt (mz_mt (mz_mt (mz_mt (mz_mt (mz_mt (mz_mt (mz_mt mz_mh)))))))))))))))))))))))
theorem mz_i_wsX7_hasRow_21 : (.code yJ6_bitCount_0f7a4 cJ6_bitCount_0f7a4 1 (some .int) : Cond) ∈ wsX7_hasRow := mz_mt (mz_ml (mz_ml (mz_mt (mz_mt (mz_mt (mz_mt (mz_mt (mz_mt (mz_mt (mz_mt (mz_mt (mz_mt (mz_mt (mz_mt (mz_mt (mz_mt (mz_mt (mz_mt (mz_mt (mz_mt (mz_mt (mz_mt mz_mh))))))))))))))))))))))
theorem mz_i_wsX7_hasRow_20 : (.initialized RJ6 : Cond) ∈ wsX7_hasRow := mz_mt (mz_ml (mz_ml (mz_mt (mz_mt (mz_mt (mz_mt (mz_mt (mz_mt (mz_mt (mz_mt (mz_mt (mz_mt (mz_mt (mz_mt (mz_mt (mz_mt (mz_mt (mz_mt (mz_mt (mz_mt (mz_mt mz_mh)))))))))))))))))))))
theorem mz_i_wsX7_hasRow_19 : (.static yJ6_bitCount_0f7a4 : Cond) ∈ wsX7_hasRow := mz_mt (mz_ml (mz_ml (mz_mt (mz_mt (mz_mt (mz_mt (mz_mt (mz_mt (mz_mt (mz_mt (mz_mt (mz_mt (mz_mt (mz_mt (mz_mt (mz_mt (mz_mt (mz_mt (mz_mt (mz_mt mz_mh))))))))))))))))))))
theorem mz_i_wsX7_hasRow_18 : (.methodLink RX7 239 yJ6_bitCount_0f7a4 : Cond) ∈ wsX7_hasRow := mz_mt (mz_ml (mz_ml (mz_mt (mz_mt (mz_mt (mz_mt (mz_mt (mz_mt (mz_mt (mz_mt (mz_mt (mz_mt (mz_mt (mz_mt (mz_mt (mz_mt (mz_mt (mz_mt (mz_mt mz_mh)))))))))))))))))))
set_option maxRecDepth 20000 in
theorem ggX7_hasRow_X7_partsOf : GoodIn wsX7_hasRow wsX7_partsOf := goodIn_sub (mz_fc mz_i_wsX7_hasRow_17 (mz_fc mz_i_wsX7_hasRow_18 (mz_fc mz_i_wsX7_hasRow_19 (mz_fc mz_i_wsX7_hasRow_20 (mz_fc mz_i_wsX7_hasRow_21 (mz_fc mz_i_wsX7_hasRow_22 (mz_fc mz_i_wsX7_hasRow_23 (mz_fc mz_i_wsX7_hasRow_24 mz_fn)))))))) (by decide +kernel)
theorem mz_i_wsX7_hasRow_16 : (.initialized RX7 : Cond) ∈ wsX7_hasRow := mz_mt (mz_ml (mz_ml (mz_mt (mz_mt (mz_mt (mz_mt (mz_mt (mz_mt (mz_mt (mz_mt (mz_mt (mz_mt (mz_mt (mz_mt (mz_mt (mz_mt (mz_mt mz_mh)))))))))))))))))
theorem mz_i_wsX7_hasRow_15 : (.static yX7_partsOf : Cond) ∈ wsX7_hasRow := mz_mt (mz_ml (mz_ml (mz_mt (mz_mt (mz_mt (mz_mt (mz_mt (mz_mt (mz_mt (mz_mt (mz_mt (mz_mt (mz_mt (mz_mt (mz_mt (mz_mt mz_mh))))))))))))))))
theorem mz_i_wsX7_hasRow_14 : (.methodLink RX7 220 yX7_partsOf : Cond) ∈ wsX7_hasRow := mz_mt (mz_ml (mz_ml (mz_mt (mz_mt (mz_mt (mz_mt (mz_mt (mz_mt (mz_mt (mz_mt (mz_mt (mz_mt (mz_mt (mz_mt (mz_mt mz_mh)))))))))))))))
set_option maxRecDepth 20000 in
theorem gX7_hasRow_X7_partsOf : GoodIn wsX7_hasRow (va_wsS RX7 220 yX7_partsOf wsX7_partsOf) := goodIn_app (goodIn_sub (mz_fc mz_i_wsX7_hasRow_14 (mz_fc mz_i_wsX7_hasRow_15 (mz_fc mz_i_wsX7_hasRow_16 mz_fn))) (by decide +kernel)) ggX7_hasRow_X7_partsOf
theorem dX7_hasRow_0 : decode cX7_hasRow 0 = .ok (.aload_n 0, 1) := by decide +kernel
theorem dX7_hasRow_1 : decode cX7_hasRow 1 = .ok (.getfield 12, 3) := by decide +kernel
theorem dX7_hasRow_4 : decode cX7_hasRow 4 = .ok (.iload_n 1, 1) := by decide +kernel
theorem dX7_hasRow_5 : decode cX7_hasRow 5 = .ok (.invokevirtual 77, 3) := by decide +kernel
theorem dX7_hasRow_8 : decode cX7_hasRow 8 = .ok (.ifCond .eq 26, 3) := by decide +kernel
theorem dX7_hasRow_11 : decode cX7_hasRow 11 = .ok (.iload_n 2, 1) := by decide +kernel
theorem dX7_hasRow_12 : decode cX7_hasRow 12 = .ok (.ifCond .lt 22, 3) := by decide +kernel
theorem dX7_hasRow_15 : decode cX7_hasRow 15 = .ok (.iload_n 2, 1) := by decide +kernel
theorem dX7_hasRow_16 : decode cX7_hasRow 16 = .ok (.aload_n 0, 1) := by decide +kernel
theorem dX7_hasRow_17 : decode cX7_hasRow 17 = .ok (.getfield 12, 3) := by decide +kernel
theorem dX7_hasRow_20 : decode cX7_hasRow 20 = .ok (.iload_n 1, 1) := by decide +kernel
theorem dX7_hasRow_21 : decode cX7_hasRow 21 = .ok (.invokevirtual 109, 3) := by decide +kernel
theorem dX7_hasRow_24 : decode cX7_hasRow 24 = .ok (.invokestatic 220, 3) := by decide +kernel
theorem dX7_hasRow_27 : decode cX7_hasRow 27 = .ok (.if_icmp .ge 7, 3) := by decide +kernel
theorem dX7_hasRow_30 : decode cX7_hasRow 30 = .ok (.iconst 1, 1) := by decide +kernel
theorem dX7_hasRow_31 : decode cX7_hasRow 31 = .ok (.goto 4, 3) := by decide +kernel
theorem dX7_hasRow_34 : decode cX7_hasRow 34 = .ok (.iconst 0, 1) := by decide +kernel
theorem dX7_hasRow_35 : decode cX7_hasRow 35 = .ok (.ireturn, 1) := by decide +kernel
theorem mz_i_wsX7_areTwo_6 : (.code yX2_has cX2_has 2 (some .boolean) : Cond) ∈ wsX7_areTwo := mz_mt (mz_ml (mz_ml (mz_mt (mz_mt (mz_mt (mz_mt (mz_mt mz_mh)))))))
theorem mz_i_wsX7_areTwo_7 : (.fieldLink RX2 18 "MadeItSo$Drawing" "things" "I" : Cond) ∈ wsX7_areTwo := mz_mt (mz_ml (mz_ml (mz_mt (mz_mt (mz_mt (mz_mt (mz_mt (mz_mt mz_mh))))))))
theorem mz_f_wsX7_areTwo_wsX20 : ∀ w ∈ wsX20, w ∈ wsX7_areTwo := fun _ h => mz_mt (mz_mr h)
set_option maxRecDepth 20000 in
theorem ggX7_areTwo_X2_has : GoodIn wsX7_areTwo wsX2_has := goodIn_sub (mz_fc mz_i_wsX7_areTwo_6 (mz_fa (mz_fc mz_i_wsX7_areTwo_7 mz_fn) (mz_f_wsX7_areTwo_wsX20))) (by decide +kernel)
theorem mz_i_wsX7_areTwo_5 : (.initialized RX2 : Cond) ∈ wsX7_areTwo := mz_mt (mz_ml (mz_ml (mz_mt (mz_mt (mz_mt (mz_mt mz_mh))))))
theorem mz_i_wsX7_areTwo_4 : (.selects RX2 yX2_has yX2_has : Cond) ∈ wsX7_areTwo := mz_mt (mz_ml (mz_ml (mz_mt (mz_mt (mz_mt mz_mh)))))
theorem mz_i_wsX7_areTwo_3 : (.instanceMethod yX2_has : Cond) ∈ wsX7_areTwo := mz_mt (mz_ml (mz_ml (mz_mt (mz_mt mz_mh))))
theorem mz_i_wsX7_areTwo_2 : (.methodLink RX7 77 yX2_has : Cond) ∈ wsX7_areTwo := mz_mt (mz_ml (mz_ml (mz_mt mz_mh)))
set_option maxRecDepth 20000 in
theorem gX7_areTwo_X2_has : GoodIn wsX7_areTwo (wsV RX7 77 RX2 yX2_has wsX2_has) := goodIn_app (goodIn_sub (mz_fc mz_i_wsX7_areTwo_2 (mz_fc mz_i_wsX7_areTwo_3 (mz_fc mz_i_wsX7_areTwo_4 (mz_fc mz_i_wsX7_areTwo_5 mz_fn)))) (by decide +kernel)) ggX7_areTwo_X2_has
theorem dX7_areTwo_0 : decode cX7_areTwo 0 = .ok (.aload_n 0, 1) := by decide +kernel
theorem dX7_areTwo_1 : decode cX7_areTwo 1 = .ok (.getfield 12, 3) := by decide +kernel
theorem dX7_areTwo_4 : decode cX7_areTwo 4 = .ok (.iload_n 1, 1) := by decide +kernel
theorem dX7_areTwo_5 : decode cX7_areTwo 5 = .ok (.invokevirtual 77, 3) := by decide +kernel
theorem dX7_areTwo_8 : decode cX7_areTwo 8 = .ok (.ifCond .eq 23, 3) := by decide +kernel
theorem dX7_areTwo_11 : decode cX7_areTwo 11 = .ok (.aload_n 0, 1) := by decide +kernel
theorem dX7_areTwo_12 : decode cX7_areTwo 12 = .ok (.getfield 12, 3) := by decide +kernel
theorem dX7_areTwo_15 : decode cX7_areTwo 15 = .ok (.iload_n 2, 1) := by decide +kernel
theorem dX7_areTwo_16 : decode cX7_areTwo 16 = .ok (.invokevirtual 77, 3) := by decide +kernel
theorem dX7_areTwo_19 : decode cX7_areTwo 19 = .ok (.ifCond .eq 12, 3) := by decide +kernel
theorem dX7_areTwo_22 : decode cX7_areTwo 22 = .ok (.iload_n 1, 1) := by decide +kernel
theorem dX7_areTwo_23 : decode cX7_areTwo 23 = .ok (.iload_n 2, 1) := by decide +kernel
theorem dX7_areTwo_24 : decode cX7_areTwo 24 = .ok (.if_icmp .eq 7, 3) := by decide +kernel
theorem dX7_areTwo_27 : decode cX7_areTwo 27 = .ok (.iconst 1, 1) := by decide +kernel
theorem dX7_areTwo_28 : decode cX7_areTwo 28 = .ok (.goto 4, 3) := by decide +kernel
theorem dX7_areTwo_31 : decode cX7_areTwo 31 = .ok (.iconst 0, 1) := by decide +kernel
theorem dX7_areTwo_32 : decode cX7_areTwo 32 = .ok (.ireturn, 1) := by decide +kernel
theorem mz_i_wsX7_isHeap_6 : (.code yX2_everything cX2_everything 1 (some .int) : Cond) ∈ wsX7_isHeap := mz_mt (mz_ml (mz_ml (mz_mt (mz_mt (mz_mt (mz_mt (mz_mt mz_mh)))))))
theorem mz_i_wsX7_isHeap_7 : (.fieldLink RX2 18 "MadeItSo$Drawing" "things" "I" : Cond) ∈ wsX7_isHeap := mz_mt (mz_ml (mz_ml (mz_mt (mz_mt (mz_mt (mz_mt (mz_mt (mz_mt mz_mh))))))))
theorem mz_f_wsX7_isHeap_wsX20 : ∀ w ∈ wsX20, w ∈ wsX7_isHeap := fun _ h => mz_mt (mz_mr h)
set_option maxRecDepth 20000 in
theorem ggX7_isHeap_X2_everything : GoodIn wsX7_isHeap wsX2_everything := goodIn_sub (mz_fc mz_i_wsX7_isHeap_6 (mz_fa (mz_fc mz_i_wsX7_isHeap_7 mz_fn) (mz_f_wsX7_isHeap_wsX20))) (by decide +kernel)
theorem mz_i_wsX7_isHeap_5 : (.initialized RX2 : Cond) ∈ wsX7_isHeap := mz_mt (mz_ml (mz_ml (mz_mt (mz_mt (mz_mt (mz_mt mz_mh))))))
theorem mz_i_wsX7_isHeap_4 : (.selects RX2 yX2_everything yX2_everything : Cond) ∈ wsX7_isHeap := mz_mt (mz_ml (mz_ml (mz_mt (mz_mt (mz_mt mz_mh)))))
theorem mz_i_wsX7_isHeap_3 : (.instanceMethod yX2_everything : Cond) ∈ wsX7_isHeap := mz_mt (mz_ml (mz_ml (mz_mt (mz_mt mz_mh))))
theorem mz_i_wsX7_isHeap_2 : (.methodLink RX7 223 yX2_everything : Cond) ∈ wsX7_isHeap := mz_mt (mz_ml (mz_ml (mz_mt mz_mh)))
set_option maxRecDepth 20000 in
theorem gX7_isHeap_X2_everything : GoodIn wsX7_isHeap (wsV RX7 223 RX2 yX2_everything wsX2_everything) := goodIn_app (goodIn_sub (mz_fc mz_i_wsX7_isHeap_2 (mz_fc mz_i_wsX7_isHeap_3 (mz_fc mz_i_wsX7_isHeap_4 (mz_fc mz_i_wsX7_isHeap_5 mz_fn)))) (by decide +kernel)) ggX7_isHeap_X2_everything
theorem dX7_isHeap_0 : decode cX7_isHeap 0 = .ok (.iload_n 1, 1) := by decide +kernel
theorem dX7_isHeap_1 : decode cX7_isHeap 1 = .ok (.aload_n 0, 1) := by decide +kernel
theorem dX7_isHeap_2 : decode cX7_isHeap 2 = .ok (.getfield 12, 3) := by decide +kernel
theorem dX7_isHeap_5 : decode cX7_isHeap 5 = .ok (.invokevirtual 223, 3) := by decide +kernel
theorem dX7_isHeap_8 : decode cX7_isHeap 8 = .ok (.iconst (-1), 1) := by decide +kernel
theorem dX7_isHeap_9 : decode cX7_isHeap 9 = .ok (.ixor, 1) := by decide +kernel
theorem dX7_isHeap_10 : decode cX7_isHeap 10 = .ok (.iand, 1) := by decide +kernel
theorem dX7_isHeap_11 : decode cX7_isHeap 11 = .ok (.ifCond .ne 7, 3) := by decide +kernel
theorem dX7_isHeap_14 : decode cX7_isHeap 14 = .ok (.iconst 1, 1) := by decide +kernel
theorem dX7_isHeap_15 : decode cX7_isHeap 15 = .ok (.goto 4, 3) := by decide +kernel
theorem dX7_isHeap_18 : decode cX7_isHeap 18 = .ok (.iconst 0, 1) := by decide +kernel
theorem dX7_isHeap_19 : decode cX7_isHeap 19 = .ok (.ireturn, 1) := by decide +kernel
theorem mz_i_wsX7_isSetting_4 : (.code yX7_heapOf cX7_heapOf 1 (some .int) : Cond) ∈ wsX7_isSetting := mz_mt (mz_ml (mz_ml (mz_mt (mz_mt (mz_mt mz_mh)))))
set_option maxRecDepth 20000 in
theorem ggX7_isSetting_X7_heapOf : GoodIn wsX7_isSetting wsX7_heapOf := goodIn_sub (mz_fc mz_i_wsX7_isSetting_4 (mz_fn)) (by decide +kernel)
theorem mz_i_wsX7_isSetting_3 : (.initialized RX7 : Cond) ∈ wsX7_isSetting := mz_mt (mz_ml (mz_ml (mz_mt (mz_mt mz_mh))))
theorem mz_i_wsX7_isSetting_2 : (.static yX7_heapOf : Cond) ∈ wsX7_isSetting := mz_mt (mz_ml (mz_ml (mz_mt mz_mh)))
theorem mz_i_wsX7_isSetting_1 : (.methodLink RX7 127 yX7_heapOf : Cond) ∈ wsX7_isSetting := mz_mt (mz_ml (mz_ml mz_mh))
set_option maxRecDepth 20000 in
theorem gX7_isSetting_X7_heapOf : GoodIn wsX7_isSetting (va_wsS RX7 127 yX7_heapOf wsX7_heapOf) := goodIn_app (goodIn_sub (mz_fc mz_i_wsX7_isSetting_1 (mz_fc mz_i_wsX7_isSetting_2 (mz_fc mz_i_wsX7_isSetting_3 mz_fn))) (by decide +kernel)) ggX7_isSetting_X7_heapOf
theorem mz_i_wsX7_isSetting_8 : (.code yX7_isHeap cX7_isHeap 2 (some .boolean) : Cond) ∈ wsX7_isSetting := mz_mt (mz_ml (mz_ml (mz_mt (mz_mt (mz_mt (mz_mt (mz_mt (mz_mt (mz_mt mz_mh)))))))))
theorem mz_i_wsX7_isSetting_15 : (.fieldLink RX2 18 "MadeItSo$Drawing" "things" "I" : Cond) ∈ wsX7_isSetting := mz_mt (mz_ml (mz_ml (mz_mt (mz_mt (mz_mt (mz_mt (mz_mt (mz_mt (mz_mt (mz_mt (mz_mt (mz_mt (mz_mt (mz_mt (mz_mt (mz_mt mz_mh))))))))))))))))
theorem mz_i_wsX7_isSetting_14 : (.code yX2_everything cX2_everything 1 (some .int) : Cond) ∈ wsX7_isSetting := mz_mt (mz_ml (mz_ml (mz_mt (mz_mt (mz_mt (mz_mt (mz_mt (mz_mt (mz_mt (mz_mt (mz_mt (mz_mt (mz_mt (mz_mt (mz_mt mz_mh)))))))))))))))
theorem mz_i_wsX7_isSetting_13 : (.initialized RX2 : Cond) ∈ wsX7_isSetting := mz_mt (mz_ml (mz_ml (mz_mt (mz_mt (mz_mt (mz_mt (mz_mt (mz_mt (mz_mt (mz_mt (mz_mt (mz_mt (mz_mt (mz_mt mz_mh))))))))))))))
theorem mz_i_wsX7_isSetting_12 : (.selects RX2 yX2_everything yX2_everything : Cond) ∈ wsX7_isSetting := mz_mt (mz_ml (mz_ml (mz_mt (mz_mt (mz_mt (mz_mt (mz_mt (mz_mt (mz_mt (mz_mt (mz_mt (mz_mt (mz_mt mz_mh)))))))))))))
theorem mz_i_wsX7_isSetting_11 : (.instanceMethod yX2_everything : Cond) ∈ wsX7_isSetting := mz_mt (mz_ml (mz_ml (mz_mt (mz_mt (mz_mt (mz_mt (mz_mt (mz_mt (mz_mt (mz_mt (mz_mt (mz_mt mz_mh))))))))))))
theorem mz_i_wsX7_isSetting_10 : (.methodLink RX7 223 yX2_everything : Cond) ∈ wsX7_isSetting := mz_mt (mz_ml (mz_ml (mz_mt (mz_mt (mz_mt (mz_mt (mz_mt (mz_mt (mz_mt (mz_mt (mz_mt mz_mh)))))))))))
theorem mz_i_wsX7_isSetting_9 : (.fieldLink RX7 12 "MadeItSo" "drawing" "LMadeItSo$Drawing;" : Cond) ∈ wsX7_isSetting := mz_mt (mz_ml (mz_ml (mz_mt (mz_mt (mz_mt (mz_mt (mz_mt (mz_mt (mz_mt (mz_mt mz_mh))))))))))
theorem mz_f_wsX7_isSetting_wsX70 : ∀ w ∈ wsX70, w ∈ wsX7_isSetting := fun _ h => mz_mt (mz_ml (mz_mr h))
theorem mz_f_wsX7_isSetting_wsX20 : ∀ w ∈ wsX20, w ∈ wsX7_isSetting := fun _ h => mz_mt (mz_mr h)
set_option maxRecDepth 20000 in
theorem ggX7_isSetting_X7_isHeap : GoodIn wsX7_isSetting wsX7_isHeap := goodIn_sub (mz_fc mz_i_wsX7_isSetting_8 (mz_fa (mz_fa (mz_fc mz_i_wsX7_isSetting_9 (mz_fc mz_i_wsX7_isSetting_10 (mz_fc mz_i_wsX7_isSetting_11 (mz_fc mz_i_wsX7_isSetting_12 (mz_fc mz_i_wsX7_isSetting_13 (mz_fc mz_i_wsX7_isSetting_14 (mz_fc mz_i_wsX7_isSetting_15 mz_fn))))))) (mz_f_wsX7_isSetting_wsX70)) (mz_f_wsX7_isSetting_wsX20))) (by decide +kernel)
theorem mz_i_wsX7_isSetting_7 : (.selects RX7 yX7_isHeap yX7_isHeap : Cond) ∈ wsX7_isSetting := mz_mt (mz_ml (mz_ml (mz_mt (mz_mt (mz_mt (mz_mt (mz_mt (mz_mt mz_mh))))))))
theorem mz_i_wsX7_isSetting_6 : (.instanceMethod yX7_isHeap : Cond) ∈ wsX7_isSetting := mz_mt (mz_ml (mz_ml (mz_mt (mz_mt (mz_mt (mz_mt (mz_mt mz_mh)))))))
theorem mz_i_wsX7_isSetting_5 : (.methodLink RX7 144 yX7_isHeap : Cond) ∈ wsX7_isSetting := mz_mt (mz_ml (mz_ml (mz_mt (mz_mt (mz_mt (mz_mt mz_mh))))))
set_option maxRecDepth 20000 in
theorem gX7_isSetting_X7_isHeap : GoodIn wsX7_isSetting (wsV RX7 144 RX7 yX7_isHeap wsX7_isHeap) := goodIn_app (goodIn_sub (mz_fc mz_i_wsX7_isSetting_5 (mz_fc mz_i_wsX7_isSetting_6 (mz_fc mz_i_wsX7_isSetting_7 (mz_fc mz_i_wsX7_isSetting_3 mz_fn)))) (by decide +kernel)) ggX7_isSetting_X7_isHeap
theorem mz_i_wsX7_isSetting_18 : (.code yX7_onesOf cX7_onesOf 1 (some .int) : Cond) ∈ wsX7_isSetting := mz_mt (mz_ml (mz_ml (mz_mt (mz_mt (mz_mt (mz_mt (mz_mt (mz_mt (mz_mt (mz_mt (mz_mt (mz_mt (mz_mt (mz_mt (mz_mt (mz_mt (mz_mt (mz_mt (mz_mt mz_mh)))))))))))))))))))
set_option maxRecDepth 20000 in
theorem ggX7_isSetting_X7_onesOf : GoodIn wsX7_isSetting wsX7_onesOf := goodIn_sub (mz_fc mz_i_wsX7_isSetting_18 (mz_fn)) (by decide +kernel)
theorem mz_i_wsX7_isSetting_17 : (.static yX7_onesOf : Cond) ∈ wsX7_isSetting := mz_mt (mz_ml (mz_ml (mz_mt (mz_mt (mz_mt (mz_mt (mz_mt (mz_mt (mz_mt (mz_mt (mz_mt (mz_mt (mz_mt (mz_mt (mz_mt (mz_mt (mz_mt (mz_mt mz_mh))))))))))))))))))
theorem mz_i_wsX7_isSetting_16 : (.methodLink RX7 130 yX7_onesOf : Cond) ∈ wsX7_isSetting := mz_mt (mz_ml (mz_ml (mz_mt (mz_mt (mz_mt (mz_mt (mz_mt (mz_mt (mz_mt (mz_mt (mz_mt (mz_mt (mz_mt (mz_mt (mz_mt (mz_mt (mz_mt mz_mh)))))))))))))))))
set_option maxRecDepth 20000 in
theorem gX7_isSetting_X7_onesOf : GoodIn wsX7_isSetting (va_wsS RX7 130 yX7_onesOf wsX7_onesOf) := goodIn_app (goodIn_sub (mz_fc mz_i_wsX7_isSetting_16 (mz_fc mz_i_wsX7_isSetting_17 (mz_fc mz_i_wsX7_isSetting_3 mz_fn))) (by decide +kernel)) ggX7_isSetting_X7_onesOf
theorem dX7_isSetting_0 : decode cX7_isSetting 0 = .ok (.iload_n 1, 1) := by decide +kernel
theorem dX7_isSetting_1 : decode cX7_isSetting 1 = .ok (.bipush 16, 2) := by decide +kernel
theorem dX7_isSetting_3 : decode cX7_isSetting 3 = .ok (.iushr, 1) := by decide +kernel
theorem dX7_isSetting_4 : decode cX7_isSetting 4 = .ok (.ifCond .ne 32, 3) := by decide +kernel
theorem dX7_isSetting_7 : decode cX7_isSetting 7 = .ok (.aload_n 0, 1) := by decide +kernel
theorem dX7_isSetting_8 : decode cX7_isSetting 8 = .ok (.iload_n 1, 1) := by decide +kernel
theorem dX7_isSetting_9 : decode cX7_isSetting 9 = .ok (.invokestatic 127, 3) := by decide +kernel
theorem dX7_isSetting_12 : decode cX7_isSetting 12 = .ok (.invokevirtual 144, 3) := by decide +kernel
theorem dX7_isSetting_15 : decode cX7_isSetting 15 = .ok (.ifCond .eq 21, 3) := by decide +kernel
theorem dX7_isSetting_18 : decode cX7_isSetting 18 = .ok (.iload_n 1, 1) := by decide +kernel
theorem dX7_isSetting_19 : decode cX7_isSetting 19 = .ok (.invokestatic 130, 3) := by decide +kernel
theorem dX7_isSetting_22 : decode cX7_isSetting 22 = .ok (.iload_n 1, 1) := by decide +kernel
theorem dX7_isSetting_23 : decode cX7_isSetting 23 = .ok (.invokestatic 127, 3) := by decide +kernel
theorem dX7_isSetting_26 : decode cX7_isSetting 26 = .ok (.iconst (-1), 1) := by decide +kernel
theorem dX7_isSetting_27 : decode cX7_isSetting 27 = .ok (.ixor, 1) := by decide +kernel
theorem dX7_isSetting_28 : decode cX7_isSetting 28 = .ok (.iand, 1) := by decide +kernel
theorem dX7_isSetting_29 : decode cX7_isSetting 29 = .ok (.ifCond .ne 7, 3) := by decide +kernel
theorem dX7_isSetting_32 : decode cX7_isSetting 32 = .ok (.iconst 1, 1) := by decide +kernel
theorem dX7_isSetting_33 : decode cX7_isSetting 33 = .ok (.goto 4, 3) := by decide +kernel
theorem dX7_isSetting_36 : decode cX7_isSetting 36 = .ok (.iconst 0, 1) := by decide +kernel
theorem dX7_isSetting_37 : decode cX7_isSetting 37 = .ok (.ireturn, 1) := by decide +kernel
theorem mz_i_wsX7_sumOver_7 : (.code yX5_clear cX5_clear 1 none : Cond) ∈ wsX7_sumOver := mz_mt (mz_ml (mz_ml (mz_ml (mz_ml (mz_ml (mz_mt (mz_mt (mz_mt (mz_mt (mz_mt (mz_mt mz_mh)))))))))))
theorem mz_i_wsX7_sumOver_20 : (.code yX0_trim cX0_trim 2 none : Cond) ∈ wsX7_sumOver := mz_mt (mz_ml (mz_ml (mz_ml (mz_ml (mz_ml (mz_mt (mz_mt (mz_mt (mz_mt (mz_mt (mz_mt (mz_mt (mz_mt (mz_mt (mz_mt (mz_mt (mz_mt (mz_mt (mz_mt (mz_mt (mz_mt (mz_mt (mz_mt (mz_mt mz_mh))))))))))))))))))))))))
theorem mz_i_wsX7_sumOver_19 : (.selects RX0 yX0_trim yX0_trim : Cond) ∈ wsX7_sumOver := mz_mt (mz_ml (mz_ml (mz_ml (mz_ml (mz_ml (mz_mt (mz_mt (mz_mt (mz_mt (mz_mt (mz_mt (mz_mt (mz_mt (mz_mt (mz_mt (mz_mt (mz_mt (mz_mt (mz_mt (mz_mt (mz_mt (mz_mt (mz_mt mz_mh)))))))))))))))))))))))
theorem mz_i_wsX7_sumOver_18 : (.instanceMethod yX0_trim : Cond) ∈ wsX7_sumOver := mz_mt (mz_ml (mz_ml (mz_ml (mz_ml (mz_ml (mz_mt (mz_mt (mz_mt (mz_mt (mz_mt (mz_mt (mz_mt (mz_mt (mz_mt (mz_mt (mz_mt (mz_mt (mz_mt (mz_mt (mz_mt (mz_mt (mz_mt mz_mh))))))))))))))))))))))
theorem mz_i_wsX7_sumOver_17 : (.methodLink RX0 17 yX0_trim : Cond) ∈ wsX7_sumOver := mz_mt (mz_ml (mz_ml (mz_ml (mz_ml (mz_ml (mz_mt (mz_mt (mz_mt (mz_mt (mz_mt (mz_mt (mz_mt (mz_mt (mz_mt (mz_mt (mz_mt (mz_mt (mz_mt (mz_mt (mz_mt (mz_mt mz_mh)))))))))))))))))))))
theorem mz_i_wsX7_sumOver_16 : (.fieldLink RX0 9 "MadeItSo$Big" "limbs" "[J" : Cond) ∈ wsX7_sumOver := mz_mt (mz_ml (mz_ml (mz_ml (mz_ml (mz_ml (mz_mt (mz_mt (mz_mt (mz_mt (mz_mt (mz_mt (mz_mt (mz_mt (mz_mt (mz_mt (mz_mt (mz_mt (mz_mt (mz_mt (mz_mt mz_mh))))))))))))))))))))
theorem mz_i_wsX7_sumOver_15 : (.fieldLink RX0 13 "MadeItSo$Big" "used" "I" : Cond) ∈ wsX7_sumOver := mz_mt (mz_ml (mz_ml (mz_ml (mz_ml (mz_ml (mz_mt (mz_mt (mz_mt (mz_mt (mz_mt (mz_mt (mz_mt (mz_mt (mz_mt (mz_mt (mz_mt (mz_mt (mz_mt (mz_mt mz_mh)))))))))))))))))))
theorem mz_i_wsX7_sumOver_14 : (.code yX0_becomeDigit cX0_becomeDigit 3 none : Cond) ∈ wsX7_sumOver := mz_mt (mz_ml (mz_ml (mz_ml (mz_ml (mz_ml (mz_mt (mz_mt (mz_mt (mz_mt (mz_mt (mz_mt (mz_mt (mz_mt (mz_mt (mz_mt (mz_mt (mz_mt (mz_mt mz_mh))))))))))))))))))
theorem mz_i_wsX7_sumOver_13 : (.initialized RX0 : Cond) ∈ wsX7_sumOver := mz_mt (mz_ml (mz_ml (mz_ml (mz_ml (mz_ml (mz_mt (mz_mt (mz_mt (mz_mt (mz_mt (mz_mt (mz_mt (mz_mt (mz_mt (mz_mt (mz_mt (mz_mt mz_mh)))))))))))))))))
theorem mz_i_wsX7_sumOver_12 : (.selects RX0 yX0_becomeDigit yX0_becomeDigit : Cond) ∈ wsX7_sumOver := mz_mt (mz_ml (mz_ml (mz_ml (mz_ml (mz_ml (mz_mt (mz_mt (mz_mt (mz_mt (mz_mt (mz_mt (mz_mt (mz_mt (mz_mt (mz_mt (mz_mt mz_mh))))))))))))))))
theorem mz_i_wsX7_sumOver_11 : (.instanceMethod yX0_becomeDigit : Cond) ∈ wsX7_sumOver := mz_mt (mz_ml (mz_ml (mz_ml (mz_ml (mz_ml (mz_mt (mz_mt (mz_mt (mz_mt (mz_mt (mz_mt (mz_mt (mz_mt (mz_mt (mz_mt mz_mh)))))))))))))))
theorem mz_i_wsX7_sumOver_10 : (.methodLink RX5 22 yX0_becomeDigit : Cond) ∈ wsX7_sumOver := mz_mt (mz_ml (mz_ml (mz_ml (mz_ml (mz_ml (mz_mt (mz_mt (mz_mt (mz_mt (mz_mt (mz_mt (mz_mt (mz_mt (mz_mt mz_mh))))))))))))))
theorem mz_i_wsX7_sumOver_9 : (.fieldLink RX5 16 "MadeItSo$Total" "bottom" "LMadeItSo$Big;" : Cond) ∈ wsX7_sumOver := mz_mt (mz_ml (mz_ml (mz_ml (mz_ml (mz_ml (mz_mt (mz_mt (mz_mt (mz_mt (mz_mt (mz_mt (mz_mt (mz_mt mz_mh)))))))))))))
theorem mz_i_wsX7_sumOver_8 : (.fieldLink RX5 10 "MadeItSo$Total" "top" "LMadeItSo$Big;" : Cond) ∈ wsX7_sumOver := mz_mt (mz_ml (mz_ml (mz_ml (mz_ml (mz_ml (mz_mt (mz_mt (mz_mt (mz_mt (mz_mt (mz_mt (mz_mt mz_mh))))))))))))
theorem mz_f_wsX7_sumOver_wsX50 : ∀ w ∈ wsX50, w ∈ wsX7_sumOver := fun _ h => mz_mt (mz_ml (mz_ml (mz_mr h)))
theorem mz_f_wsX7_sumOver_wsX00 : ∀ w ∈ wsX00, w ∈ wsX7_sumOver := fun _ h => mz_mt (mz_ml (mz_mr h))
set_option maxRecDepth 20000 in
theorem ggX7_sumOver_X5_clear : GoodIn wsX7_sumOver wsX5_clear := goodIn_sub (mz_fc mz_i_wsX7_sumOver_7 (mz_fa (mz_fa (mz_fc mz_i_wsX7_sumOver_8 (mz_fc mz_i_wsX7_sumOver_9 (mz_fc mz_i_wsX7_sumOver_10 (mz_fc mz_i_wsX7_sumOver_11 (mz_fc mz_i_wsX7_sumOver_12 (mz_fc mz_i_wsX7_sumOver_13 (mz_fc mz_i_wsX7_sumOver_14 (mz_fc mz_i_wsX7_sumOver_15 (mz_fc mz_i_wsX7_sumOver_16 (mz_fc mz_i_wsX7_sumOver_17 (mz_fc mz_i_wsX7_sumOver_18 (mz_fc mz_i_wsX7_sumOver_19 (mz_fc mz_i_wsX7_sumOver_20 mz_fn))))))))))))) (mz_f_wsX7_sumOver_wsX50)) (mz_f_wsX7_sumOver_wsX00))) (by decide +kernel)
theorem mz_i_wsX7_sumOver_6 : (.initialized RX5 : Cond) ∈ wsX7_sumOver := mz_mt (mz_ml (mz_ml (mz_ml (mz_ml (mz_ml (mz_mt (mz_mt (mz_mt (mz_mt (mz_mt mz_mh))))))))))
theorem mz_i_wsX7_sumOver_5 : (.selects RX5 yX5_clear yX5_clear : Cond) ∈ wsX7_sumOver := mz_mt (mz_ml (mz_ml (mz_ml (mz_ml (mz_ml (mz_mt (mz_mt (mz_mt (mz_mt mz_mh)))))))))
theorem mz_i_wsX7_sumOver_4 : (.instanceMethod yX5_clear : Cond) ∈ wsX7_sumOver := mz_mt (mz_ml (mz_ml (mz_ml (mz_ml (mz_ml (mz_mt (mz_mt (mz_mt mz_mh))))))))
theorem mz_i_wsX7_sumOver_3 : (.methodLink RX7 226 yX5_clear : Cond) ∈ wsX7_sumOver := mz_mt (mz_ml (mz_ml (mz_ml (mz_ml (mz_ml (mz_mt (mz_mt mz_mh)))))))
set_option maxRecDepth 20000 in
theorem gX7_sumOver_X5_clear : GoodIn wsX7_sumOver (wsV RX7 226 RX5 yX5_clear wsX5_clear) := goodIn_app (goodIn_sub (mz_fc mz_i_wsX7_sumOver_3 (mz_fc mz_i_wsX7_sumOver_4 (mz_fc mz_i_wsX7_sumOver_5 (mz_fc mz_i_wsX7_sumOver_6 mz_fn)))) (by decide +kernel)) ggX7_sumOver_X5_clear
theorem mz_i_wsX7_sumOver_24 : (.code yX7_partsOf cX7_partsOf 1 (some .int) : Cond) ∈ wsX7_sumOver := mz_mt (mz_ml (mz_ml (mz_ml (mz_ml (mz_ml (mz_mt (mz_mt (mz_mt (mz_mt (mz_mt (mz_mt (mz_mt (mz_mt (mz_mt (mz_mt (mz_mt (mz_mt (mz_mt (mz_mt (mz_mt (mz_mt (mz_mt (mz_mt (mz_mt (mz_mt (mz_mt (mz_mt (mz_mt mz_mh))))))))))))))))))))))))))))
theorem mz_i_wsX7_sumOver_31 : (.constant RJ6 267 (252645135) : Cond) ∈ wsX7_sumOver := mz_mt (mz_ml (mz_ml (mz_ml (mz_ml (mz_mr (mz_ml (mz_mt (mz_mt (mz_mt (mz_mt (mz_mt (mz_mt mz_mh))))))))))))
theorem mz_i_wsX7_sumOver_30 : (.constant RJ6 266 (858993459) : Cond) ∈ wsX7_sumOver := mz_mt (mz_ml (mz_ml (mz_ml (mz_ml (mz_mr (mz_ml (mz_mt (mz_mt (mz_mt (mz_mt (mz_mt mz_mh)))))))))))
theorem mz_i_wsX7_sumOver_29 : (.constant RJ6 265 (1431655765) : Cond) ∈ wsX7_sumOver := mz_mt (mz_ml (mz_ml (mz_ml (mz_ml (mz_mr (mz_ml (mz_mt (mz_mt (mz_mt (mz_mt mz_mh))))))))))
theorem mz_i_wsX7_sumOver_28 : (.code yJ6_bitCount_0f7a4 cJ6_bitCount_0f7a4 1 (some .int) : Cond) ∈ wsX7_sumOver := mz_mt (mz_ml (mz_ml (mz_ml (mz_ml (mz_mr (mz_ml (mz_mt (mz_mt (mz_mt mz_mh)))))))))
theorem mz_i_wsX7_sumOver_27 : (.initialized RJ6 : Cond) ∈ wsX7_sumOver := mz_mt (mz_ml (mz_ml (mz_ml (mz_ml (mz_mr (mz_ml (mz_mt (mz_mt mz_mh))))))))
theorem mz_i_wsX7_sumOver_26 : (.static yJ6_bitCount_0f7a4 : Cond) ∈ wsX7_sumOver := mz_mt (mz_ml (mz_ml (mz_ml (mz_ml (mz_mr (mz_ml (mz_mt mz_mh)))))))
theorem mz_i_wsX7_sumOver_25 : (.methodLink RX7 239 yJ6_bitCount_0f7a4 : Cond) ∈ wsX7_sumOver := mz_mt (mz_ml (mz_ml (mz_ml (mz_ml (mz_mr (mz_ml mz_mh))))))
set_option maxRecDepth 20000 in
theorem ggX7_sumOver_X7_partsOf : GoodIn wsX7_sumOver wsX7_partsOf := goodIn_sub (mz_fc mz_i_wsX7_sumOver_24 (mz_fc mz_i_wsX7_sumOver_25 (mz_fc mz_i_wsX7_sumOver_26 (mz_fc mz_i_wsX7_sumOver_27 (mz_fc mz_i_wsX7_sumOver_28 (mz_fc mz_i_wsX7_sumOver_29 (mz_fc mz_i_wsX7_sumOver_30 (mz_fc mz_i_wsX7_sumOver_31 mz_fn)))))))) (by decide +kernel)
theorem mz_i_wsX7_sumOver_23 : (.initialized RX7 : Cond) ∈ wsX7_sumOver := mz_mt (mz_ml (mz_ml (mz_ml (mz_ml (mz_ml (mz_mt (mz_mt (mz_mt (mz_mt (mz_mt (mz_mt (mz_mt (mz_mt (mz_mt (mz_mt (mz_mt (mz_mt (mz_mt (mz_mt (mz_mt (mz_mt (mz_mt (mz_mt (mz_mt (mz_mt (mz_mt (mz_mt mz_mh)))))))))))))))))))))))))))
theorem mz_i_wsX7_sumOver_22 : (.static yX7_partsOf : Cond) ∈ wsX7_sumOver := mz_mt (mz_ml (mz_ml (mz_ml (mz_ml (mz_ml (mz_mt (mz_mt (mz_mt (mz_mt (mz_mt (mz_mt (mz_mt (mz_mt (mz_mt (mz_mt (mz_mt (mz_mt (mz_mt (mz_mt (mz_mt (mz_mt (mz_mt (mz_mt (mz_mt (mz_mt (mz_mt mz_mh))))))))))))))))))))))))))
theorem mz_i_wsX7_sumOver_21 : (.methodLink RX7 220 yX7_partsOf : Cond) ∈ wsX7_sumOver := mz_mt (mz_ml (mz_ml (mz_ml (mz_ml (mz_ml (mz_mt (mz_mt (mz_mt (mz_mt (mz_mt (mz_mt (mz_mt (mz_mt (mz_mt (mz_mt (mz_mt (mz_mt (mz_mt (mz_mt (mz_mt (mz_mt (mz_mt (mz_mt (mz_mt (mz_mt mz_mh)))))))))))))))))))))))))
set_option maxRecDepth 20000 in
theorem gX7_sumOver_X7_partsOf : GoodIn wsX7_sumOver (va_wsS RX7 220 yX7_partsOf wsX7_partsOf) := goodIn_app (goodIn_sub (mz_fc mz_i_wsX7_sumOver_21 (mz_fc mz_i_wsX7_sumOver_22 (mz_fc mz_i_wsX7_sumOver_23 mz_fn))) (by decide +kernel)) ggX7_sumOver_X7_partsOf
theorem mz_i_wsX7_sumOver_36 : (.code yX6_having cX6_having 9 (some .long) : Cond) ∈ wsX7_sumOver := mz_mt (mz_ml (mz_ml (mz_ml (mz_ml (mz_mr (mz_ml (mz_mt (mz_mt (mz_mt (mz_mt (mz_mt (mz_mt (mz_mt (mz_mt (mz_mt (mz_mt (mz_mt mz_mh)))))))))))))))))
theorem mz_i_wsX7_sumOver_40 : (.code yX7_nextPart cX7_nextPart 2 (some .int) : Cond) ∈ wsX7_sumOver := mz_mt (mz_ml (mz_ml (mz_ml (mz_ml (mz_mr (mz_ml (mz_mt (mz_mt (mz_mt (mz_mt (mz_mt (mz_mt (mz_mt (mz_mt (mz_mt (mz_mt (mz_mt (mz_mt (mz_mt (mz_mt (mz_mt mz_mh)))))))))))))))))))))
theorem mz_i_wsX7_sumOver_39 : (.static yX7_nextPart : Cond) ∈ wsX7_sumOver := mz_mt (mz_ml (mz_ml (mz_ml (mz_ml (mz_mr (mz_ml (mz_mt (mz_mt (mz_mt (mz_mt (mz_mt (mz_mt (mz_mt (mz_mt (mz_mt (mz_mt (mz_mt (mz_mt (mz_mt (mz_mt mz_mh))))))))))))))))))))
theorem mz_i_wsX7_sumOver_38 : (.fieldLink RX6 9 "MadeItSo$Weights" "ofCase" "[J" : Cond) ∈ wsX7_sumOver := mz_mt (mz_ml (mz_ml (mz_ml (mz_ml (mz_mr (mz_ml (mz_mt (mz_mt (mz_mt (mz_mt (mz_mt (mz_mt (mz_mt (mz_mt (mz_mt (mz_mt (mz_mt (mz_mt (mz_mt mz_mh)))))))))))))))))))
theorem mz_i_wsX7_sumOver_37 : (.fieldLink RX6 15 "MadeItSo$Weights" "everything" "I" : Cond) ∈ wsX7_sumOver := mz_mt (mz_ml (mz_ml (mz_ml (mz_ml (mz_mr (mz_ml (mz_mt (mz_mt (mz_mt (mz_mt (mz_mt (mz_mt (mz_mt (mz_mt (mz_mt (mz_mt (mz_mt (mz_mt mz_mh))))))))))))))))))
theorem mz_f_wsX7_sumOver_wsX60 : ∀ w ∈ wsX60, w ∈ wsX7_sumOver := fun _ h => mz_mt (mz_mr h)
set_option maxRecDepth 20000 in
theorem ggX7_sumOver_X6_having : GoodIn wsX7_sumOver wsX6_having := goodIn_sub (mz_fc mz_i_wsX7_sumOver_36 (mz_fa (mz_fc mz_i_wsX7_sumOver_37 (mz_fc mz_i_wsX7_sumOver_38 (mz_fc mz_i_wsX7_sumOver_22 (mz_fc mz_i_wsX7_sumOver_23 (mz_fc mz_i_wsX7_sumOver_24 (mz_fc mz_i_wsX7_sumOver_25 (mz_fc mz_i_wsX7_sumOver_26 (mz_fc mz_i_wsX7_sumOver_27 (mz_fc mz_i_wsX7_sumOver_28 (mz_fc mz_i_wsX7_sumOver_29 (mz_fc mz_i_wsX7_sumOver_30 (mz_fc mz_i_wsX7_sumOver_31 (mz_fc mz_i_wsX7_sumOver_39 (mz_fc mz_i_wsX7_sumOver_40 mz_fn)))))))))))))) (mz_f_wsX7_sumOver_wsX60))) (by decide +kernel)
theorem mz_i_wsX7_sumOver_35 : (.initialized RX6 : Cond) ∈ wsX7_sumOver := mz_mt (mz_ml (mz_ml (mz_ml (mz_ml (mz_mr (mz_ml (mz_mt (mz_mt (mz_mt (mz_mt (mz_mt (mz_mt (mz_mt (mz_mt (mz_mt (mz_mt mz_mh))))))))))))))))
theorem mz_i_wsX7_sumOver_34 : (.selects RX6 yX6_having yX6_having : Cond) ∈ wsX7_sumOver := mz_mt (mz_ml (mz_ml (mz_ml (mz_ml (mz_mr (mz_ml (mz_mt (mz_mt (mz_mt (mz_mt (mz_mt (mz_mt (mz_mt (mz_mt (mz_mt mz_mh)))))))))))))))
theorem mz_i_wsX7_sumOver_33 : (.instanceMethod yX6_having : Cond) ∈ wsX7_sumOver := mz_mt (mz_ml (mz_ml (mz_ml (mz_ml (mz_mr (mz_ml (mz_mt (mz_mt (mz_mt (mz_mt (mz_mt (mz_mt (mz_mt (mz_mt mz_mh))))))))))))))
theorem mz_i_wsX7_sumOver_32 : (.methodLink RX7 133 yX6_having : Cond) ∈ wsX7_sumOver := mz_mt (mz_ml (mz_ml (mz_ml (mz_ml (mz_mr (mz_ml (mz_mt (mz_mt (mz_mt (mz_mt (mz_mt (mz_mt (mz_mt mz_mh)))))))))))))
set_option maxRecDepth 20000 in
theorem gX7_sumOver_X6_having : GoodIn wsX7_sumOver (wsV RX7 133 RX6 yX6_having wsX6_having) := goodIn_app (goodIn_sub (mz_fc mz_i_wsX7_sumOver_32 (mz_fc mz_i_wsX7_sumOver_33 (mz_fc mz_i_wsX7_sumOver_34 (mz_fc mz_i_wsX7_sumOver_35 mz_fn)))) (by decide +kernel)) ggX7_sumOver_X6_having
theorem mz_i_wsX7_sumOver_43 : (.code yX7_heapOf cX7_heapOf 1 (some .int) : Cond) ∈ wsX7_sumOver := mz_mt (mz_ml (mz_ml (mz_ml (mz_ml (mz_mr (mz_ml (mz_mt (mz_mt (mz_mt (mz_mt (mz_mt (mz_mt (mz_mt (mz_mt (mz_mt (mz_mt (mz_mt (mz_mt (mz_mt (mz_mt (mz_mt (mz_mt (mz_mt (mz_mt mz_mh))))))))))))))))))))))))
set_option maxRecDepth 20000 in
theorem ggX7_sumOver_X7_heapOf : GoodIn wsX7_sumOver wsX7_heapOf := goodIn_sub (mz_fc mz_i_wsX7_sumOver_43 (mz_fn)) (by decide +kernel)
theorem mz_i_wsX7_sumOver_42 : (.static yX7_heapOf : Cond) ∈ wsX7_sumOver := mz_mt (mz_ml (mz_ml (mz_ml (mz_ml (mz_mr (mz_ml (mz_mt (mz_mt (mz_mt (mz_mt (mz_mt (mz_mt (mz_mt (mz_mt (mz_mt (mz_mt (mz_mt (mz_mt (mz_mt (mz_mt (mz_mt (mz_mt (mz_mt mz_mh)))))))))))))))))))))))
theorem mz_i_wsX7_sumOver_41 : (.methodLink RX7 127 yX7_heapOf : Cond) ∈ wsX7_sumOver := mz_mt (mz_ml (mz_ml (mz_ml (mz_ml (mz_mr (mz_ml (mz_mt (mz_mt (mz_mt (mz_mt (mz_mt (mz_mt (mz_mt (mz_mt (mz_mt (mz_mt (mz_mt (mz_mt (mz_mt (mz_mt (mz_mt (mz_mt mz_mh))))))))))))))))))))))
set_option maxRecDepth 20000 in
theorem gX7_sumOver_X7_heapOf : GoodIn wsX7_sumOver (va_wsS RX7 127 yX7_heapOf wsX7_heapOf) := goodIn_app (goodIn_sub (mz_fc mz_i_wsX7_sumOver_41 (mz_fc mz_i_wsX7_sumOver_42 (mz_fc mz_i_wsX7_sumOver_23 mz_fn))) (by decide +kernel)) ggX7_sumOver_X7_heapOf
theorem mz_i_wsX7_sumOver_46 : (.code yX7_onesOf cX7_onesOf 1 (some .int) : Cond) ∈ wsX7_sumOver := mz_mt (mz_ml (mz_ml (mz_ml (mz_ml (mz_mr (mz_ml (mz_mt (mz_mt (mz_mt (mz_mt (mz_mt (mz_mt (mz_mt (mz_mt (mz_mt (mz_mt (mz_mt (mz_mt (mz_mt (mz_mt (mz_mt (mz_mt (mz_mt (mz_mt (mz_mt (mz_mt (mz_mt mz_mh)))))))))))))))))))))))))))
set_option maxRecDepth 20000 in
theorem ggX7_sumOver_X7_onesOf : GoodIn wsX7_sumOver wsX7_onesOf := goodIn_sub (mz_fc mz_i_wsX7_sumOver_46 (mz_fn)) (by decide +kernel)
theorem mz_i_wsX7_sumOver_45 : (.static yX7_onesOf : Cond) ∈ wsX7_sumOver := mz_mt (mz_ml (mz_ml (mz_ml (mz_ml (mz_mr (mz_ml (mz_mt (mz_mt (mz_mt (mz_mt (mz_mt (mz_mt (mz_mt (mz_mt (mz_mt (mz_mt (mz_mt (mz_mt (mz_mt (mz_mt (mz_mt (mz_mt (mz_mt (mz_mt (mz_mt (mz_mt mz_mh))))))))))))))))))))))))))
theorem mz_i_wsX7_sumOver_44 : (.methodLink RX7 130 yX7_onesOf : Cond) ∈ wsX7_sumOver := mz_mt (mz_ml (mz_ml (mz_ml (mz_ml (mz_mr (mz_ml (mz_mt (mz_mt (mz_mt (mz_mt (mz_mt (mz_mt (mz_mt (mz_mt (mz_mt (mz_mt (mz_mt (mz_mt (mz_mt (mz_mt (mz_mt (mz_mt (mz_mt (mz_mt (mz_mt mz_mh)))))))))))))))))))))))))
set_option maxRecDepth 20000 in
theorem gX7_sumOver_X7_onesOf : GoodIn wsX7_sumOver (va_wsS RX7 130 yX7_onesOf wsX7_onesOf) := goodIn_app (goodIn_sub (mz_fc mz_i_wsX7_sumOver_44 (mz_fc mz_i_wsX7_sumOver_45 (mz_fc mz_i_wsX7_sumOver_23 mz_fn))) (by decide +kernel)) ggX7_sumOver_X7_onesOf
theorem mz_i_wsX7_sumOver_49 : (.code yX7_clash cX7_clash 2 (some .boolean) : Cond) ∈ wsX7_sumOver := mz_mt (mz_ml (mz_ml (mz_ml (mz_ml (mz_mr (mz_mr (mz_ml mz_mh)))))))
set_option maxRecDepth 20000 in
theorem ggX7_sumOver_X7_clash : GoodIn wsX7_sumOver wsX7_clash := goodIn_sub (mz_fc mz_i_wsX7_sumOver_49 (mz_fc mz_i_wsX7_sumOver_41 (mz_fc mz_i_wsX7_sumOver_42 (mz_fc mz_i_wsX7_sumOver_23 (mz_fc mz_i_wsX7_sumOver_43 (mz_fc mz_i_wsX7_sumOver_44 (mz_fc mz_i_wsX7_sumOver_45 (mz_fc mz_i_wsX7_sumOver_46 mz_fn)))))))) (by decide +kernel)
theorem mz_i_wsX7_sumOver_48 : (.static yX7_clash : Cond) ∈ wsX7_sumOver := mz_mt (mz_ml (mz_ml (mz_ml (mz_ml (mz_mr (mz_ml (mz_mt (mz_mt (mz_mt (mz_mt (mz_mt (mz_mt (mz_mt (mz_mt (mz_mt (mz_mt (mz_mt (mz_mt (mz_mt (mz_mt (mz_mt (mz_mt (mz_mt (mz_mt (mz_mt (mz_mt (mz_mt (mz_mt (mz_mt mz_mh)))))))))))))))))))))))))))))
theorem mz_i_wsX7_sumOver_47 : (.methodLink RX7 137 yX7_clash : Cond) ∈ wsX7_sumOver := mz_mt (mz_ml (mz_ml (mz_ml (mz_ml (mz_mr (mz_ml (mz_mt (mz_mt (mz_mt (mz_mt (mz_mt (mz_mt (mz_mt (mz_mt (mz_mt (mz_mt (mz_mt (mz_mt (mz_mt (mz_mt (mz_mt (mz_mt (mz_mt (mz_mt (mz_mt (mz_mt (mz_mt (mz_mt mz_mh))))))))))))))))))))))))))))
set_option maxRecDepth 20000 in
theorem gX7_sumOver_X7_clash : GoodIn wsX7_sumOver (va_wsS RX7 137 yX7_clash wsX7_clash) := goodIn_app (goodIn_sub (mz_fc mz_i_wsX7_sumOver_47 (mz_fc mz_i_wsX7_sumOver_48 (mz_fc mz_i_wsX7_sumOver_23 mz_fn))) (by decide +kernel)) ggX7_sumOver_X7_clash
theorem mz_i_wsX7_sumOver_53 : (.code yX5_add cX5_add 13 none : Cond) ∈ wsX7_sumOver := mz_mt (mz_ml (mz_ml (mz_ml (mz_ml (mz_mr (mz_mr (mz_ml (mz_mt (mz_mt (mz_mt (mz_mt mz_mh)))))))))))
theorem mz_i_wsX7_sumOver_71 : (.code yX0_times cX0_times 16 none : Cond) ∈ wsX7_sumOver := mz_mt (mz_ml (mz_ml (mz_ml (mz_ml (mz_mr (mz_mr (mz_ml (mz_mt (mz_mt (mz_mt (mz_mt (mz_mt (mz_mt (mz_mt (mz_mt (mz_mt (mz_mt (mz_mt (mz_mt (mz_mt (mz_mt (mz_mt (mz_mt (mz_mt (mz_mt (mz_mt (mz_mt (mz_mt (mz_mt mz_mh)))))))))))))))))))))))))))))
theorem mz_i_wsX7_sumOver_70 : (.selects RX0 yX0_times yX0_times : Cond) ∈ wsX7_sumOver := mz_mt (mz_ml (mz_ml (mz_ml (mz_ml (mz_mr (mz_mr (mz_ml (mz_mt (mz_mt (mz_mt (mz_mt (mz_mt (mz_mt (mz_mt (mz_mt (mz_mt (mz_mt (mz_mt (mz_mt (mz_mt (mz_mt (mz_mt (mz_mt (mz_mt (mz_mt (mz_mt (mz_mt (mz_mt mz_mh))))))))))))))))))))))))))))
theorem mz_i_wsX7_sumOver_69 : (.instanceMethod yX0_times : Cond) ∈ wsX7_sumOver := mz_mt (mz_ml (mz_ml (mz_ml (mz_ml (mz_mr (mz_mr (mz_ml (mz_mt (mz_mt (mz_mt (mz_mt (mz_mt (mz_mt (mz_mt (mz_mt (mz_mt (mz_mt (mz_mt (mz_mt (mz_mt (mz_mt (mz_mt (mz_mt (mz_mt (mz_mt (mz_mt (mz_mt mz_mh)))))))))))))))))))))))))))
theorem mz_i_wsX7_sumOver_68 : (.methodLink RX5 36 yX0_times : Cond) ∈ wsX7_sumOver := mz_mt (mz_ml (mz_ml (mz_ml (mz_ml (mz_mr (mz_mr (mz_ml (mz_mt (mz_mt (mz_mt (mz_mt (mz_mt (mz_mt (mz_mt (mz_mt (mz_mt (mz_mt (mz_mt (mz_mt (mz_mt (mz_mt (mz_mt (mz_mt (mz_mt (mz_mt (mz_mt mz_mh))))))))))))))))))))))))))
theorem mz_i_wsX7_sumOver_67 : (.code Lib.Math.max.name Lib.Math.max.code 2 (some .int) : Cond) ∈ wsX7_sumOver := mz_mt (mz_ml (mz_ml (mz_ml (mz_ml (mz_mr (mz_mr (mz_ml (mz_mt (mz_mt (mz_mt (mz_mt (mz_mt (mz_mt (mz_mt (mz_mt (mz_mt (mz_mt (mz_mt (mz_mt (mz_mt (mz_mt (mz_mt (mz_mt (mz_mt (mz_mt mz_mh)))))))))))))))))))))))))
theorem mz_i_wsX7_sumOver_66 : (.static Lib.Math.max.name : Cond) ∈ wsX7_sumOver := mz_mt (mz_ml (mz_ml (mz_ml (mz_ml (mz_mr (mz_mr (mz_ml (mz_mt (mz_mt (mz_mt (mz_mt (mz_mt (mz_mt (mz_mt (mz_mt (mz_mt (mz_mt (mz_mt (mz_mt (mz_mt (mz_mt (mz_mt (mz_mt (mz_mt mz_mh))))))))))))))))))))))))
theorem mz_i_wsX7_sumOver_65 : (.methodLink RX0 20 Lib.Math.max.name : Cond) ∈ wsX7_sumOver := mz_mt (mz_ml (mz_ml (mz_ml (mz_ml (mz_mr (mz_mr (mz_ml (mz_mt (mz_mt (mz_mt (mz_mt (mz_mt (mz_mt (mz_mt (mz_mt (mz_mt (mz_mt (mz_mt (mz_mt (mz_mt (mz_mt (mz_mt (mz_mt mz_mh)))))))))))))))))))))))
theorem mz_i_wsX7_sumOver_64 : (.code yX0_become cX0_become 4 none : Cond) ∈ wsX7_sumOver := mz_mt (mz_ml (mz_ml (mz_ml (mz_ml (mz_mr (mz_mr (mz_ml (mz_mt (mz_mt (mz_mt (mz_mt (mz_mt (mz_mt (mz_mt (mz_mt (mz_mt (mz_mt (mz_mt (mz_mt (mz_mt (mz_mt (mz_mt mz_mh))))))))))))))))))))))
theorem mz_i_wsX7_sumOver_63 : (.selects RX0 yX0_become yX0_become : Cond) ∈ wsX7_sumOver := mz_mt (mz_ml (mz_ml (mz_ml (mz_ml (mz_mr (mz_mr (mz_ml (mz_mt (mz_mt (mz_mt (mz_mt (mz_mt (mz_mt (mz_mt (mz_mt (mz_mt (mz_mt (mz_mt (mz_mt (mz_mt (mz_mt mz_mh)))))))))))))))))))))
theorem mz_i_wsX7_sumOver_62 : (.instanceMethod yX0_become : Cond) ∈ wsX7_sumOver := mz_mt (mz_ml (mz_ml (mz_ml (mz_ml (mz_mr (mz_mr (mz_ml (mz_mt (mz_mt (mz_mt (mz_mt (mz_mt (mz_mt (mz_mt (mz_mt (mz_mt (mz_mt (mz_mt (mz_mt (mz_mt mz_mh))))))))))))))))))))
theorem mz_i_wsX7_sumOver_61 : (.methodLink RX5 32 yX0_become : Cond) ∈ wsX7_sumOver := mz_mt (mz_ml (mz_ml (mz_ml (mz_ml (mz_mr (mz_mr (mz_ml (mz_mt (mz_mt (mz_mt (mz_mt (mz_mt (mz_mt (mz_mt (mz_mt (mz_mt (mz_mt (mz_mt (mz_mt mz_mh)))))))))))))))))))
theorem mz_i_wsX7_sumOver_60 : (.code Lib.MathLoose.max_long.x Lib.MathLoose.max_long.code 4 (some .long) : Cond) ∈ wsX7_sumOver := mz_mt (mz_ml (mz_ml (mz_ml (mz_ml (mz_mr (mz_mr (mz_ml (mz_mt (mz_mt (mz_mt (mz_mt (mz_mt (mz_mt (mz_mt (mz_mt (mz_mt (mz_mt (mz_mt mz_mh))))))))))))))))))
theorem mz_i_wsX7_sumOver_59 : (.initialized "java/lang/Math" : Cond) ∈ wsX7_sumOver := mz_mt (mz_ml (mz_ml (mz_ml (mz_ml (mz_mr (mz_mr (mz_ml (mz_mt (mz_mt (mz_mt (mz_mt (mz_mt (mz_mt (mz_mt (mz_mt (mz_mt (mz_mt mz_mh)))))))))))))))))
theorem mz_i_wsX7_sumOver_58 : (.static Lib.MathLoose.max_long.x : Cond) ∈ wsX7_sumOver := mz_mt (mz_ml (mz_ml (mz_ml (mz_ml (mz_mr (mz_mr (mz_ml (mz_mt (mz_mt (mz_mt (mz_mt (mz_mt (mz_mt (mz_mt (mz_mt (mz_mt mz_mh))))))))))))))))
theorem mz_i_wsX7_sumOver_57 : (.methodLink RX7 199 Lib.MathLoose.max_long.x : Cond) ∈ wsX7_sumOver := mz_mt (mz_ml (mz_ml (mz_ml (mz_ml (mz_mr (mz_mr (mz_ml (mz_mt (mz_mt (mz_mt (mz_mt (mz_mt (mz_mt (mz_mt (mz_mt mz_mh)))))))))))))))
theorem mz_i_wsX7_sumOver_56 : (.code yX7_commonDivisor cX7_commonDivisor 11 (some .long) : Cond) ∈ wsX7_sumOver := mz_mt (mz_ml (mz_ml (mz_ml (mz_ml (mz_mr (mz_mr (mz_ml (mz_mt (mz_mt (mz_mt (mz_mt (mz_mt (mz_mt (mz_mt mz_mh))))))))))))))
theorem mz_i_wsX7_sumOver_55 : (.static yX7_commonDivisor : Cond) ∈ wsX7_sumOver := mz_mt (mz_ml (mz_ml (mz_ml (mz_ml (mz_mr (mz_mr (mz_ml (mz_mt (mz_mt (mz_mt (mz_mt (mz_mt (mz_mt mz_mh)))))))))))))
theorem mz_i_wsX7_sumOver_54 : (.fieldLink RX5 19 "MadeItSo$Total" "spare" "LMadeItSo$Big;" : Cond) ∈ wsX7_sumOver := mz_mt (mz_ml (mz_ml (mz_ml (mz_ml (mz_mr (mz_mr (mz_ml (mz_mt (mz_mt (mz_mt (mz_mt (mz_mt mz_mh))))))))))))
theorem mz_i_wsX7_sumOver_79 : (.code yX0_plus cX0_plus 7 none : Cond) ∈ wsX7_sumOver := mz_mt (mz_ml (mz_ml (mz_ml (mz_ml (mz_mr (mz_mr (mz_mr (mz_mt (mz_mt (mz_mt (mz_mt (mz_mt (mz_mt mz_mh)))))))))))))
theorem mz_i_wsX7_sumOver_78 : (.selects RX0 yX0_plus yX0_plus : Cond) ∈ wsX7_sumOver := mz_mt (mz_ml (mz_ml (mz_ml (mz_ml (mz_mr (mz_mr (mz_mr (mz_mt (mz_mt (mz_mt (mz_mt (mz_mt mz_mh))))))))))))
theorem mz_i_wsX7_sumOver_77 : (.instanceMethod yX0_plus : Cond) ∈ wsX7_sumOver := mz_mt (mz_ml (mz_ml (mz_ml (mz_ml (mz_mr (mz_mr (mz_mr (mz_mt (mz_mt (mz_mt (mz_mt mz_mh)))))))))))
theorem mz_i_wsX7_sumOver_76 : (.methodLink RX5 40 yX0_plus : Cond) ∈ wsX7_sumOver := mz_mt (mz_ml (mz_ml (mz_ml (mz_ml (mz_mr (mz_mr (mz_mr (mz_mt (mz_mt (mz_mt mz_mh))))))))))
theorem mz_i_wsX7_sumOver_75 : (.code Lib.Math.min.name Lib.Math.min.code 2 (some .int) : Cond) ∈ wsX7_sumOver := mz_mt (mz_ml (mz_ml (mz_ml (mz_ml (mz_mr (mz_mr (mz_mr (mz_mt (mz_mt mz_mh)))))))))
theorem mz_i_wsX7_sumOver_74 : (.static Lib.Math.min.name : Cond) ∈ wsX7_sumOver := mz_mt (mz_ml (mz_ml (mz_ml (mz_ml (mz_mr (mz_mr (mz_mr (mz_mt mz_mh))))))))
theorem mz_i_wsX7_sumOver_73 : (.methodLink RX0 28 Lib.Math.min.name : Cond) ∈ wsX7_sumOver := mz_mt (mz_ml (mz_ml (mz_ml (mz_ml (mz_mr (mz_mr (mz_mr mz_mh)))))))
theorem mz_i_wsX7_sumOver_72 : (.constantLong RX0 26 (1073741823) : Cond) ∈ wsX7_sumOver := mz_mt (mz_ml (mz_ml (mz_ml (mz_ml (mz_mr (mz_mr (mz_ml (mz_mt (mz_mt (mz_mt (mz_mt (mz_mt (mz_mt (mz_mt (mz_mt (mz_mt (mz_mt (mz_mt (mz_mt (mz_mt (mz_mt (mz_mt (mz_mt (mz_mt (mz_mt (mz_mt (mz_mt (mz_mt (mz_mt (mz_mt mz_mh))))))))))))))))))))))))))))))
set_option maxRecDepth 20000 in
theorem ggX7_sumOver_X5_add : GoodIn wsX7_sumOver wsX5_add := goodIn_sub (mz_fc mz_i_wsX7_sumOver_53 (mz_fa (mz_fa (mz_fa (mz_fc mz_i_wsX7_sumOver_54 (mz_fc mz_i_wsX7_sumOver_9 (mz_fc mz_i_wsX7_sumOver_8 (mz_fc mz_i_wsX7_sumOver_55 (mz_fc mz_i_wsX7_sumOver_23 (mz_fc mz_i_wsX7_sumOver_56 (mz_fc mz_i_wsX7_sumOver_57 (mz_fc mz_i_wsX7_sumOver_58 (mz_fc mz_i_wsX7_sumOver_59 (mz_fc mz_i_wsX7_sumOver_60 (mz_fc mz_i_wsX7_sumOver_61 (mz_fc mz_i_wsX7_sumOver_62 (mz_fc mz_i_wsX7_sumOver_63 (mz_fc mz_i_wsX7_sumOver_13 (mz_fc mz_i_wsX7_sumOver_64 (mz_fc mz_i_wsX7_sumOver_15 (mz_fc mz_i_wsX7_sumOver_65 (mz_fc mz_i_wsX7_sumOver_66 (mz_fc mz_i_wsX7_sumOver_67 (mz_fc mz_i_wsX7_sumOver_16 (mz_fc mz_i_wsX7_sumOver_68 (mz_fc mz_i_wsX7_sumOver_69 (mz_fc mz_i_wsX7_sumOver_70 (mz_fc mz_i_wsX7_sumOver_71 mz_fn)))))))))))))))))))))))) (mz_fc mz_i_wsX7_sumOver_72 (mz_fc mz_i_wsX7_sumOver_73 (mz_fc mz_i_wsX7_sumOver_74 (mz_fc mz_i_wsX7_sumOver_75 (mz_fc mz_i_wsX7_sumOver_17 (mz_fc mz_i_wsX7_sumOver_18 (mz_fc mz_i_wsX7_sumOver_19 (mz_fc mz_i_wsX7_sumOver_20 (mz_fc mz_i_wsX7_sumOver_76 (mz_fc mz_i_wsX7_sumOver_77 (mz_fc mz_i_wsX7_sumOver_78 (mz_fc mz_i_wsX7_sumOver_79 mz_fn))))))))))))) (mz_f_wsX7_sumOver_wsX50)) (mz_f_wsX7_sumOver_wsX00))) (by decide +kernel)
theorem mz_i_wsX7_sumOver_52 : (.selects RX5 yX5_add yX5_add : Cond) ∈ wsX7_sumOver := mz_mt (mz_ml (mz_ml (mz_ml (mz_ml (mz_mr (mz_mr (mz_ml (mz_mt (mz_mt (mz_mt mz_mh))))))))))
theorem mz_i_wsX7_sumOver_51 : (.instanceMethod yX5_add : Cond) ∈ wsX7_sumOver := mz_mt (mz_ml (mz_ml (mz_ml (mz_ml (mz_mr (mz_mr (mz_ml (mz_mt (mz_mt mz_mh)))))))))
theorem mz_i_wsX7_sumOver_50 : (.methodLink RX7 229 yX5_add : Cond) ∈ wsX7_sumOver := mz_mt (mz_ml (mz_ml (mz_ml (mz_ml (mz_mr (mz_mr (mz_ml (mz_mt mz_mh))))))))
set_option maxRecDepth 20000 in
theorem gX7_sumOver_X5_add : GoodIn wsX7_sumOver (wsV RX7 229 RX5 yX5_add wsX5_add) := goodIn_app (goodIn_sub (mz_fc mz_i_wsX7_sumOver_50 (mz_fc mz_i_wsX7_sumOver_51 (mz_fc mz_i_wsX7_sumOver_52 (mz_fc mz_i_wsX7_sumOver_6 mz_fn)))) (by decide +kernel)) ggX7_sumOver_X5_add
set_option maxRecDepth 20000 in
theorem ggX7_sumOver_X7_nextPart : GoodIn wsX7_sumOver wsX7_nextPart := goodIn_sub (mz_fc mz_i_wsX7_sumOver_40 (mz_fn)) (by decide +kernel)
theorem mz_i_wsX7_sumOver_80 : (.methodLink RX7 233 yX7_nextPart : Cond) ∈ wsX7_sumOver := mz_mt (mz_ml (mz_ml (mz_ml (mz_ml (mz_mr (mz_mr (mz_mr (mz_mt (mz_mt (mz_mt (mz_mt (mz_mt (mz_mt (mz_mt mz_mh))))))))))))))
set_option maxRecDepth 20000 in
theorem gX7_sumOver_X7_nextPart : GoodIn wsX7_sumOver (va_wsS RX7 233 yX7_nextPart wsX7_nextPart) := goodIn_app (goodIn_sub (mz_fc mz_i_wsX7_sumOver_80 (mz_fc mz_i_wsX7_sumOver_39 (mz_fc mz_i_wsX7_sumOver_23 mz_fn))) (by decide +kernel)) ggX7_sumOver_X7_nextPart
theorem dX7_sumOver_0 : decode cX7_sumOver 0 = .ok (.aload_n 0, 1) := by decide +kernel
theorem dX7_sumOver_1 : decode cX7_sumOver 1 = .ok (.getfield 36, 3) := by decide +kernel
theorem dX7_sumOver_4 : decode cX7_sumOver 4 = .ok (.invokevirtual 226, 3) := by decide +kernel
theorem dX7_sumOver_7 : decode cX7_sumOver 7 = .ok (.iload_n 1, 1) := by decide +kernel
theorem dX7_sumOver_8 : decode cX7_sumOver 8 = .ok (.invokestatic 220, 3) := by decide +kernel
theorem dX7_sumOver_11 : decode cX7_sumOver 11 = .ok (.istore 4, 2) := by decide +kernel
theorem dX7_sumOver_13 : decode cX7_sumOver 13 = .ok (.iconst 0, 1) := by decide +kernel
theorem dX7_sumOver_14 : decode cX7_sumOver 14 = .ok (.istore 5, 2) := by decide +kernel
theorem dX7_sumOver_16 : decode cX7_sumOver 16 = .ok (.iconst 0, 1) := by decide +kernel
theorem dX7_sumOver_17 : decode cX7_sumOver 17 = .ok (.istore 6, 2) := by decide +kernel
theorem dX7_sumOver_19 : decode cX7_sumOver 19 = .ok (.iload 5, 2) := by decide +kernel
theorem dX7_sumOver_21 : decode cX7_sumOver 21 = .ok (.iload 4, 2) := by decide +kernel
theorem dX7_sumOver_23 : decode cX7_sumOver 23 = .ok (.if_icmp .ge 114, 3) := by decide +kernel
theorem dX7_sumOver_26 : decode cX7_sumOver 26 = .ok (.aload_n 0, 1) := by decide +kernel
theorem dX7_sumOver_27 : decode cX7_sumOver 27 = .ok (.getfield 29, 3) := by decide +kernel
theorem dX7_sumOver_30 : decode cX7_sumOver 30 = .ok (.iload_n 1, 1) := by decide +kernel
theorem dX7_sumOver_31 : decode cX7_sumOver 31 = .ok (.iload 6, 2) := by decide +kernel
theorem dX7_sumOver_33 : decode cX7_sumOver 33 = .ok (.invokevirtual 133, 3) := by decide +kernel
theorem dX7_sumOver_36 : decode cX7_sumOver 36 = .ok (.lstore 7, 2) := by decide +kernel
theorem dX7_sumOver_38 : decode cX7_sumOver 38 = .ok (.lload 7, 2) := by decide +kernel
theorem dX7_sumOver_40 : decode cX7_sumOver 40 = .ok (.lconst 0, 1) := by decide +kernel
theorem dX7_sumOver_41 : decode cX7_sumOver 41 = .ok (.lcmp, 1) := by decide +kernel
theorem dX7_sumOver_42 : decode cX7_sumOver 42 = .ok (.ifCond .le 81, 3) := by decide +kernel
theorem dX7_sumOver_45 : decode cX7_sumOver 45 = .ok (.aload_n 0, 1) := by decide +kernel
theorem dX7_sumOver_46 : decode cX7_sumOver 46 = .ok (.getfield 29, 3) := by decide +kernel
theorem dX7_sumOver_49 : decode cX7_sumOver 49 = .ok (.iload_n 1, 1) := by decide +kernel
theorem dX7_sumOver_50 : decode cX7_sumOver 50 = .ok (.iload_n 2, 1) := by decide +kernel
theorem dX7_sumOver_51 : decode cX7_sumOver 51 = .ok (.invokestatic 127, 3) := by decide +kernel
theorem dX7_sumOver_54 : decode cX7_sumOver 54 = .ok (.ior, 1) := by decide +kernel
theorem dX7_sumOver_55 : decode cX7_sumOver 55 = .ok (.iload 6, 2) := by decide +kernel
theorem dX7_sumOver_57 : decode cX7_sumOver 57 = .ok (.iload_n 2, 1) := by decide +kernel
theorem dX7_sumOver_58 : decode cX7_sumOver 58 = .ok (.invokestatic 130, 3) := by decide +kernel
theorem dX7_sumOver_61 : decode cX7_sumOver 61 = .ok (.ior, 1) := by decide +kernel
theorem dX7_sumOver_62 : decode cX7_sumOver 62 = .ok (.invokevirtual 133, 3) := by decide +kernel
theorem dX7_sumOver_65 : decode cX7_sumOver 65 = .ok (.lstore 9, 2) := by decide +kernel
theorem dX7_sumOver_67 : decode cX7_sumOver 67 = .ok (.lload 9, 2) := by decide +kernel
theorem dX7_sumOver_69 : decode cX7_sumOver 69 = .ok (.lconst 0, 1) := by decide +kernel
theorem dX7_sumOver_70 : decode cX7_sumOver 70 = .ok (.lcmp, 1) := by decide +kernel
theorem dX7_sumOver_71 : decode cX7_sumOver 71 = .ok (.ifCond .gt 5, 3) := by decide +kernel
theorem dX7_sumOver_74 : decode cX7_sumOver 74 = .ok (.iconst 0, 1) := by decide +kernel
theorem dX7_sumOver_75 : decode cX7_sumOver 75 = .ok (.ireturn, 1) := by decide +kernel
theorem dX7_sumOver_76 : decode cX7_sumOver 76 = .ok (.iload_n 2, 1) := by decide +kernel
theorem dX7_sumOver_77 : decode cX7_sumOver 77 = .ok (.iload_n 3, 1) := by decide +kernel
theorem dX7_sumOver_78 : decode cX7_sumOver 78 = .ok (.invokestatic 137, 3) := by decide +kernel
theorem dX7_sumOver_81 : decode cX7_sumOver 81 = .ok (.ifCond .ne 42, 3) := by decide +kernel
theorem dX7_sumOver_84 : decode cX7_sumOver 84 = .ok (.iload_n 1, 1) := by decide +kernel
theorem dX7_sumOver_85 : decode cX7_sumOver 85 = .ok (.iload_n 2, 1) := by decide +kernel
theorem dX7_sumOver_86 : decode cX7_sumOver 86 = .ok (.iload_n 3, 1) := by decide +kernel
theorem dX7_sumOver_87 : decode cX7_sumOver 87 = .ok (.ior, 1) := by decide +kernel
theorem dX7_sumOver_88 : decode cX7_sumOver 88 = .ok (.invokestatic 127, 3) := by decide +kernel
theorem dX7_sumOver_91 : decode cX7_sumOver 91 = .ok (.ior, 1) := by decide +kernel
theorem dX7_sumOver_92 : decode cX7_sumOver 92 = .ok (.istore 11, 2) := by decide +kernel
theorem dX7_sumOver_94 : decode cX7_sumOver 94 = .ok (.aload_n 0, 1) := by decide +kernel
theorem dX7_sumOver_95 : decode cX7_sumOver 95 = .ok (.getfield 36, 3) := by decide +kernel
theorem dX7_sumOver_98 : decode cX7_sumOver 98 = .ok (.lload 7, 2) := by decide +kernel
theorem dX7_sumOver_100 : decode cX7_sumOver 100 = .ok (.aload_n 0, 1) := by decide +kernel
theorem dX7_sumOver_101 : decode cX7_sumOver 101 = .ok (.getfield 29, 3) := by decide +kernel
theorem dX7_sumOver_104 : decode cX7_sumOver 104 = .ok (.iload 11, 2) := by decide +kernel
theorem dX7_sumOver_106 : decode cX7_sumOver 106 = .ok (.iload 6, 2) := by decide +kernel
theorem dX7_sumOver_108 : decode cX7_sumOver 108 = .ok (.iload_n 2, 1) := by decide +kernel
theorem dX7_sumOver_109 : decode cX7_sumOver 109 = .ok (.iload_n 3, 1) := by decide +kernel
theorem dX7_sumOver_110 : decode cX7_sumOver 110 = .ok (.ior, 1) := by decide +kernel
theorem dX7_sumOver_111 : decode cX7_sumOver 111 = .ok (.invokestatic 130, 3) := by decide +kernel
theorem dX7_sumOver_114 : decode cX7_sumOver 114 = .ok (.ior, 1) := by decide +kernel
theorem dX7_sumOver_115 : decode cX7_sumOver 115 = .ok (.invokevirtual 133, 3) := by decide +kernel
theorem dX7_sumOver_118 : decode cX7_sumOver 118 = .ok (.lload 9, 2) := by decide +kernel
theorem dX7_sumOver_120 : decode cX7_sumOver 120 = .ok (.invokevirtual 229, 3) := by decide +kernel
theorem dX7_sumOver_123 : decode cX7_sumOver 123 = .ok (.iinc 5 1, 3) := by decide +kernel
theorem dX7_sumOver_126 : decode cX7_sumOver 126 = .ok (.iload 6, 2) := by decide +kernel
theorem dX7_sumOver_128 : decode cX7_sumOver 128 = .ok (.iload_n 1, 1) := by decide +kernel
theorem dX7_sumOver_129 : decode cX7_sumOver 129 = .ok (.invokestatic 233, 3) := by decide +kernel
theorem dX7_sumOver_132 : decode cX7_sumOver 132 = .ok (.istore 6, 2) := by decide +kernel
theorem dX7_sumOver_134 : decode cX7_sumOver 134 = .ok (.goto (-115), 3) := by decide +kernel
theorem dX7_sumOver_137 : decode cX7_sumOver 137 = .ok (.iconst 1, 1) := by decide +kernel
theorem dX7_sumOver_138 : decode cX7_sumOver 138 = .ok (.ireturn, 1) := by decide +kernel
theorem mz_i_wsX7_leastOfBoth_9 : (.code yX7_bit cX7_bit 1 (some .int) : Cond) ∈ wsX7_leastOfBoth := mz_mt (mz_ml (mz_ml (mz_ml (mz_mt (mz_mt (mz_mt (mz_mt (mz_mt (mz_mt (mz_mt (mz_mt mz_mh)))))))))))
set_option maxRecDepth 20000 in
theorem ggX7_leastOfBoth_X7_bit : GoodIn wsX7_leastOfBoth wsX7_bit := goodIn_sub (mz_fc mz_i_wsX7_leastOfBoth_9 (mz_fn)) (by decide +kernel)
theorem mz_i_wsX7_leastOfBoth_8 : (.initialized RX7 : Cond) ∈ wsX7_leastOfBoth := mz_mt (mz_ml (mz_ml (mz_ml (mz_mt (mz_mt (mz_mt (mz_mt (mz_mt (mz_mt (mz_mt mz_mh))))))))))
theorem mz_i_wsX7_leastOfBoth_7 : (.static yX7_bit : Cond) ∈ wsX7_leastOfBoth := mz_mt (mz_ml (mz_ml (mz_ml (mz_mt (mz_mt (mz_mt (mz_mt (mz_mt (mz_mt mz_mh)))))))))
theorem mz_i_wsX7_leastOfBoth_6 : (.methodLink RX7 73 yX7_bit : Cond) ∈ wsX7_leastOfBoth := mz_mt (mz_ml (mz_ml (mz_ml (mz_mt (mz_mt (mz_mt (mz_mt (mz_mt mz_mh))))))))
set_option maxRecDepth 20000 in
theorem gX7_leastOfBoth_X7_bit : GoodIn wsX7_leastOfBoth (va_wsS RX7 73 yX7_bit wsX7_bit) := goodIn_app (goodIn_sub (mz_fc mz_i_wsX7_leastOfBoth_6 (mz_fc mz_i_wsX7_leastOfBoth_7 (mz_fc mz_i_wsX7_leastOfBoth_8 mz_fn))) (by decide +kernel)) ggX7_leastOfBoth_X7_bit
theorem mz_i_wsX7_leastOfBoth_14 : (.code yX6_having cX6_having 9 (some .long) : Cond) ∈ wsX7_leastOfBoth := mz_mt (mz_ml (mz_ml (mz_ml (mz_mt (mz_mt (mz_mt (mz_mt (mz_mt (mz_mt (mz_mt (mz_mt (mz_mt (mz_mt (mz_mt (mz_mt (mz_mt mz_mh))))))))))))))))
theorem mz_i_wsX7_leastOfBoth_27 : (.code yX7_nextPart cX7_nextPart 2 (some .int) : Cond) ∈ wsX7_leastOfBoth := mz_mt (mz_ml (mz_ml (mz_mr (mz_mt (mz_mt mz_mh)))))
theorem mz_i_wsX7_leastOfBoth_26 : (.static yX7_nextPart : Cond) ∈ wsX7_leastOfBoth := mz_mt (mz_ml (mz_ml (mz_mr (mz_mt mz_mh))))
theorem mz_i_wsX7_leastOfBoth_25 : (.constant RJ6 267 (252645135) : Cond) ∈ wsX7_leastOfBoth := mz_mt (mz_ml (mz_ml (mz_mr mz_mh)))
theorem mz_i_wsX7_leastOfBoth_24 : (.constant RJ6 266 (858993459) : Cond) ∈ wsX7_leastOfBoth := mz_mt (mz_ml (mz_ml (mz_ml (mz_mt (mz_mt (mz_mt (mz_mt (mz_mt (mz_mt (mz_mt (mz_mt (mz_mt (mz_mt (mz_mt (mz_mt (mz_mt (mz_mt (mz_mt (mz_mt (mz_mt (mz_mt (mz_mt (mz_mt (mz_mt (mz_mt (mz_mt mz_mh))))))))))))))))))))))))))
theorem mz_i_wsX7_leastOfBoth_23 : (.constant RJ6 265 (1431655765) : Cond) ∈ wsX7_leastOfBoth := mz_mt (mz_ml (mz_ml (mz_ml (mz_mt (mz_mt (mz_mt (mz_mt (mz_mt (mz_mt (mz_mt (mz_mt (mz_mt (mz_mt (mz_mt (mz_mt (mz_mt (mz_mt (mz_mt (mz_mt (mz_mt (mz_mt (mz_mt (mz_mt (mz_mt (mz_mt mz_mh)))))))))))))))))))))))))
theorem mz_i_wsX7_leastOfBoth_22 : (.code yJ6_bitCount_0f7a4 cJ6_bitCount_0f7a4 1 (some .int) : Cond) ∈ wsX7_leastOfBoth := mz_mt (mz_ml (mz_ml (mz_ml (mz_mt (mz_mt (mz_mt (mz_mt (mz_mt (mz_mt (mz_mt (mz_mt (mz_mt (mz_mt (mz_mt (mz_mt (mz_mt (mz_mt (mz_mt (mz_mt (mz_mt (mz_mt (mz_mt (mz_mt (mz_mt mz_mh))))))))))))))))))))))))
theorem mz_i_wsX7_leastOfBoth_21 : (.initialized RJ6 : Cond) ∈ wsX7_leastOfBoth := mz_mt (mz_ml (mz_ml (mz_ml (mz_mt (mz_mt (mz_mt (mz_mt (mz_mt (mz_mt (mz_mt (mz_mt (mz_mt (mz_mt (mz_mt (mz_mt (mz_mt (mz_mt (mz_mt (mz_mt (mz_mt (mz_mt (mz_mt (mz_mt mz_mh)))))))))))))))))))))))
theorem mz_i_wsX7_leastOfBoth_20 : (.static yJ6_bitCount_0f7a4 : Cond) ∈ wsX7_leastOfBoth := mz_mt (mz_ml (mz_ml (mz_ml (mz_mt (mz_mt (mz_mt (mz_mt (mz_mt (mz_mt (mz_mt (mz_mt (mz_mt (mz_mt (mz_mt (mz_mt (mz_mt (mz_mt (mz_mt (mz_mt (mz_mt (mz_mt (mz_mt mz_mh))))))))))))))))))))))
theorem mz_i_wsX7_leastOfBoth_19 : (.methodLink RX7 239 yJ6_bitCount_0f7a4 : Cond) ∈ wsX7_leastOfBoth := mz_mt (mz_ml (mz_ml (mz_ml (mz_mt (mz_mt (mz_mt (mz_mt (mz_mt (mz_mt (mz_mt (mz_mt (mz_mt (mz_mt (mz_mt (mz_mt (mz_mt (mz_mt (mz_mt (mz_mt (mz_mt (mz_mt mz_mh)))))))))))))))))))))
theorem mz_i_wsX7_leastOfBoth_18 : (.code yX7_partsOf cX7_partsOf 1 (some .int) : Cond) ∈ wsX7_leastOfBoth := mz_mt (mz_ml (mz_ml (mz_ml (mz_mt (mz_mt (mz_mt (mz_mt (mz_mt (mz_mt (mz_mt (mz_mt (mz_mt (mz_mt (mz_mt (mz_mt (mz_mt (mz_mt (mz_mt (mz_mt (mz_mt mz_mh))))))))))))))))))))
theorem mz_i_wsX7_leastOfBoth_17 : (.static yX7_partsOf : Cond) ∈ wsX7_leastOfBoth := mz_mt (mz_ml (mz_ml (mz_ml (mz_mt (mz_mt (mz_mt (mz_mt (mz_mt (mz_mt (mz_mt (mz_mt (mz_mt (mz_mt (mz_mt (mz_mt (mz_mt (mz_mt (mz_mt (mz_mt mz_mh)))))))))))))))))))
theorem mz_i_wsX7_leastOfBoth_16 : (.fieldLink RX6 9 "MadeItSo$Weights" "ofCase" "[J" : Cond) ∈ wsX7_leastOfBoth := mz_mt (mz_ml (mz_ml (mz_ml (mz_mt (mz_mt (mz_mt (mz_mt (mz_mt (mz_mt (mz_mt (mz_mt (mz_mt (mz_mt (mz_mt (mz_mt (mz_mt (mz_mt (mz_mt mz_mh))))))))))))))))))
theorem mz_i_wsX7_leastOfBoth_15 : (.fieldLink RX6 15 "MadeItSo$Weights" "everything" "I" : Cond) ∈ wsX7_leastOfBoth := mz_mt (mz_ml (mz_ml (mz_ml (mz_mt (mz_mt (mz_mt (mz_mt (mz_mt (mz_mt (mz_mt (mz_mt (mz_mt (mz_mt (mz_mt (mz_mt (mz_mt (mz_mt mz_mh)))))))))))))))))
theorem mz_f_wsX7_leastOfBoth_wsX60 : ∀ w ∈ wsX60, w ∈ wsX7_leastOfBoth := fun _ h => mz_mt (mz_mr h)
set_option maxRecDepth 20000 in
theorem ggX7_leastOfBoth_X6_having : GoodIn wsX7_leastOfBoth wsX6_having := goodIn_sub (mz_fc mz_i_wsX7_leastOfBoth_14 (mz_fa (mz_fc mz_i_wsX7_leastOfBoth_15 (mz_fc mz_i_wsX7_leastOfBoth_16 (mz_fc mz_i_wsX7_leastOfBoth_17 (mz_fc mz_i_wsX7_leastOfBoth_8 (mz_fc mz_i_wsX7_leastOfBoth_18 (mz_fc mz_i_wsX7_leastOfBoth_19 (mz_fc mz_i_wsX7_leastOfBoth_20 (mz_fc mz_i_wsX7_leastOfBoth_21 (mz_fc mz_i_wsX7_leastOfBoth_22 (mz_fc mz_i_wsX7_leastOfBoth_23 (mz_fc mz_i_wsX7_leastOfBoth_24 (mz_fc mz_i_wsX7_leastOfBoth_25 (mz_fc mz_i_wsX7_leastOfBoth_26 (mz_fc mz_i_wsX7_leastOfBoth_27 mz_fn)))))))))))))) (mz_f_wsX7_leastOfBoth_wsX60))) (by decide +kernel)
theorem mz_i_wsX7_leastOfBoth_13 : (.initialized RX6 : Cond) ∈ wsX7_leastOfBoth := mz_mt (mz_ml (mz_ml (mz_ml (mz_mt (mz_mt (mz_mt (mz_mt (mz_mt (mz_mt (mz_mt (mz_mt (mz_mt (mz_mt (mz_mt (mz_mt mz_mh)))))))))))))))
theorem mz_i_wsX7_leastOfBoth_12 : (.selects RX6 yX6_having yX6_having : Cond) ∈ wsX7_leastOfBoth := mz_mt (mz_ml (mz_ml (mz_ml (mz_mt (mz_mt (mz_mt (mz_mt (mz_mt (mz_mt (mz_mt (mz_mt (mz_mt (mz_mt (mz_mt mz_mh))))))))))))))
theorem mz_i_wsX7_leastOfBoth_11 : (.instanceMethod yX6_having : Cond) ∈ wsX7_leastOfBoth := mz_mt (mz_ml (mz_ml (mz_ml (mz_mt (mz_mt (mz_mt (mz_mt (mz_mt (mz_mt (mz_mt (mz_mt (mz_mt (mz_mt mz_mh)))))))))))))
theorem mz_i_wsX7_leastOfBoth_10 : (.methodLink RX7 133 yX6_having : Cond) ∈ wsX7_leastOfBoth := mz_mt (mz_ml (mz_ml (mz_ml (mz_mt (mz_mt (mz_mt (mz_mt (mz_mt (mz_mt (mz_mt (mz_mt (mz_mt mz_mh))))))))))))
set_option maxRecDepth 20000 in
theorem gX7_leastOfBoth_X6_having : GoodIn wsX7_leastOfBoth (wsV RX7 133 RX6 yX6_having wsX6_having) := goodIn_app (goodIn_sub (mz_fc mz_i_wsX7_leastOfBoth_10 (mz_fc mz_i_wsX7_leastOfBoth_11 (mz_fc mz_i_wsX7_leastOfBoth_12 (mz_fc mz_i_wsX7_leastOfBoth_13 mz_fn)))) (by decide +kernel)) ggX7_leastOfBoth_X6_having
theorem dX7_leastOfBoth_0 : decode cX7_leastOfBoth 0 = .ok (.aload_n 0, 1) := by decide +kernel
theorem dX7_leastOfBoth_1 : decode cX7_leastOfBoth 1 = .ok (.getfield 29, 3) := by decide +kernel
theorem dX7_leastOfBoth_4 : decode cX7_leastOfBoth 4 = .ok (.iload_n 1, 1) := by decide +kernel
theorem dX7_leastOfBoth_5 : decode cX7_leastOfBoth 5 = .ok (.invokestatic 73, 3) := by decide +kernel
theorem dX7_leastOfBoth_8 : decode cX7_leastOfBoth 8 = .ok (.iload_n 1, 1) := by decide +kernel
theorem dX7_leastOfBoth_9 : decode cX7_leastOfBoth 9 = .ok (.invokestatic 73, 3) := by decide +kernel
theorem dX7_leastOfBoth_12 : decode cX7_leastOfBoth 12 = .ok (.invokevirtual 133, 3) := by decide +kernel
theorem dX7_leastOfBoth_15 : decode cX7_leastOfBoth 15 = .ok (.lstore 6, 2) := by decide +kernel
theorem dX7_leastOfBoth_17 : decode cX7_leastOfBoth 17 = .ok (.lconst 0, 1) := by decide +kernel
theorem dX7_leastOfBoth_18 : decode cX7_leastOfBoth 18 = .ok (.lload_n 2, 1) := by decide +kernel
theorem dX7_leastOfBoth_19 : decode cX7_leastOfBoth 19 = .ok (.lload 4, 2) := by decide +kernel
theorem dX7_leastOfBoth_21 : decode cX7_leastOfBoth 21 = .ok (.lsub, 1) := by decide +kernel
theorem dX7_leastOfBoth_22 : decode cX7_leastOfBoth 22 = .ok (.invokestatic 199, 3) := by decide +kernel
theorem dX7_leastOfBoth_25 : decode cX7_leastOfBoth 25 = .ok (.lstore 8, 2) := by decide +kernel
theorem dX7_leastOfBoth_27 : decode cX7_leastOfBoth 27 = .ok (.lload 8, 2) := by decide +kernel
theorem dX7_leastOfBoth_29 : decode cX7_leastOfBoth 29 = .ok (.lload 6, 2) := by decide +kernel
theorem dX7_leastOfBoth_31 : decode cX7_leastOfBoth 31 = .ok (.lload 4, 2) := by decide +kernel
theorem dX7_leastOfBoth_33 : decode cX7_leastOfBoth 33 = .ok (.lsub, 1) := by decide +kernel
theorem dX7_leastOfBoth_34 : decode cX7_leastOfBoth 34 = .ok (.lload_n 2, 1) := by decide +kernel
theorem dX7_leastOfBoth_35 : decode cX7_leastOfBoth 35 = .ok (.lload 6, 2) := by decide +kernel
theorem dX7_leastOfBoth_37 : decode cX7_leastOfBoth 37 = .ok (.lsub, 1) := by decide +kernel
theorem dX7_leastOfBoth_38 : decode cX7_leastOfBoth 38 = .ok (.invokestatic 199, 3) := by decide +kernel
theorem dX7_leastOfBoth_41 : decode cX7_leastOfBoth 41 = .ok (.invokestatic 199, 3) := by decide +kernel
theorem dX7_leastOfBoth_44 : decode cX7_leastOfBoth 44 = .ok (.lreturn, 1) := by decide +kernel
theorem mz_i_wsX7_mostOfBoth_9 : (.code yX7_bit cX7_bit 1 (some .int) : Cond) ∈ wsX7_mostOfBoth := mz_mt (mz_ml (mz_ml (mz_ml (mz_mt (mz_mt (mz_mt (mz_mt (mz_mt (mz_mt (mz_mt (mz_mt mz_mh)))))))))))
set_option maxRecDepth 20000 in
theorem ggX7_mostOfBoth_X7_bit : GoodIn wsX7_mostOfBoth wsX7_bit := goodIn_sub (mz_fc mz_i_wsX7_mostOfBoth_9 (mz_fn)) (by decide +kernel)
theorem mz_i_wsX7_mostOfBoth_8 : (.initialized RX7 : Cond) ∈ wsX7_mostOfBoth := mz_mt (mz_ml (mz_ml (mz_ml (mz_mt (mz_mt (mz_mt (mz_mt (mz_mt (mz_mt (mz_mt mz_mh))))))))))
theorem mz_i_wsX7_mostOfBoth_7 : (.static yX7_bit : Cond) ∈ wsX7_mostOfBoth := mz_mt (mz_ml (mz_ml (mz_ml (mz_mt (mz_mt (mz_mt (mz_mt (mz_mt (mz_mt mz_mh)))))))))
theorem mz_i_wsX7_mostOfBoth_6 : (.methodLink RX7 73 yX7_bit : Cond) ∈ wsX7_mostOfBoth := mz_mt (mz_ml (mz_ml (mz_ml (mz_mt (mz_mt (mz_mt (mz_mt (mz_mt mz_mh))))))))
set_option maxRecDepth 20000 in
theorem gX7_mostOfBoth_X7_bit : GoodIn wsX7_mostOfBoth (va_wsS RX7 73 yX7_bit wsX7_bit) := goodIn_app (goodIn_sub (mz_fc mz_i_wsX7_mostOfBoth_6 (mz_fc mz_i_wsX7_mostOfBoth_7 (mz_fc mz_i_wsX7_mostOfBoth_8 mz_fn))) (by decide +kernel)) ggX7_mostOfBoth_X7_bit
theorem mz_i_wsX7_mostOfBoth_14 : (.code yX6_having cX6_having 9 (some .long) : Cond) ∈ wsX7_mostOfBoth := mz_mt (mz_ml (mz_ml (mz_ml (mz_mt (mz_mt (mz_mt (mz_mt (mz_mt (mz_mt (mz_mt (mz_mt (mz_mt (mz_mt (mz_mt (mz_mt (mz_mt mz_mh))))))))))))))))
theorem mz_i_wsX7_mostOfBoth_27 : (.code yX7_nextPart cX7_nextPart 2 (some .int) : Cond) ∈ wsX7_mostOfBoth := mz_mt (mz_ml (mz_ml (mz_mr (mz_mt (mz_mt mz_mh)))))
theorem mz_i_wsX7_mostOfBoth_26 : (.static yX7_nextPart : Cond) ∈ wsX7_mostOfBoth := mz_mt (mz_ml (mz_ml (mz_mr (mz_mt mz_mh))))
theorem mz_i_wsX7_mostOfBoth_25 : (.constant RJ6 267 (252645135) : Cond) ∈ wsX7_mostOfBoth := mz_mt (mz_ml (mz_ml (mz_mr mz_mh)))
theorem mz_i_wsX7_mostOfBoth_24 : (.constant RJ6 266 (858993459) : Cond) ∈ wsX7_mostOfBoth := mz_mt (mz_ml (mz_ml (mz_ml (mz_mt (mz_mt (mz_mt (mz_mt (mz_mt (mz_mt (mz_mt (mz_mt (mz_mt (mz_mt (mz_mt (mz_mt (mz_mt (mz_mt (mz_mt (mz_mt (mz_mt (mz_mt (mz_mt (mz_mt (mz_mt (mz_mt (mz_mt mz_mh))))))))))))))))))))))))))
theorem mz_i_wsX7_mostOfBoth_23 : (.constant RJ6 265 (1431655765) : Cond) ∈ wsX7_mostOfBoth := mz_mt (mz_ml (mz_ml (mz_ml (mz_mt (mz_mt (mz_mt (mz_mt (mz_mt (mz_mt (mz_mt (mz_mt (mz_mt (mz_mt (mz_mt (mz_mt (mz_mt (mz_mt (mz_mt (mz_mt (mz_mt (mz_mt (mz_mt (mz_mt (mz_mt (mz_mt mz_mh)))))))))))))))))))))))))
theorem mz_i_wsX7_mostOfBoth_22 : (.code yJ6_bitCount_0f7a4 cJ6_bitCount_0f7a4 1 (some .int) : Cond) ∈ wsX7_mostOfBoth := mz_mt (mz_ml (mz_ml (mz_ml (mz_mt (mz_mt (mz_mt (mz_mt (mz_mt (mz_mt (mz_mt (mz_mt (mz_mt (mz_mt (mz_mt (mz_mt (mz_mt (mz_mt (mz_mt (mz_mt (mz_mt (mz_mt (mz_mt (mz_mt (mz_mt mz_mh))))))))))))))))))))))))
theorem mz_i_wsX7_mostOfBoth_21 : (.initialized RJ6 : Cond) ∈ wsX7_mostOfBoth := mz_mt (mz_ml (mz_ml (mz_ml (mz_mt (mz_mt (mz_mt (mz_mt (mz_mt (mz_mt (mz_mt (mz_mt (mz_mt (mz_mt (mz_mt (mz_mt (mz_mt (mz_mt (mz_mt (mz_mt (mz_mt (mz_mt (mz_mt (mz_mt mz_mh)))))))))))))))))))))))
theorem mz_i_wsX7_mostOfBoth_20 : (.static yJ6_bitCount_0f7a4 : Cond) ∈ wsX7_mostOfBoth := mz_mt (mz_ml (mz_ml (mz_ml (mz_mt (mz_mt (mz_mt (mz_mt (mz_mt (mz_mt (mz_mt (mz_mt (mz_mt (mz_mt (mz_mt (mz_mt (mz_mt (mz_mt (mz_mt (mz_mt (mz_mt (mz_mt (mz_mt mz_mh))))))))))))))))))))))
theorem mz_i_wsX7_mostOfBoth_19 : (.methodLink RX7 239 yJ6_bitCount_0f7a4 : Cond) ∈ wsX7_mostOfBoth := mz_mt (mz_ml (mz_ml (mz_ml (mz_mt (mz_mt (mz_mt (mz_mt (mz_mt (mz_mt (mz_mt (mz_mt (mz_mt (mz_mt (mz_mt (mz_mt (mz_mt (mz_mt (mz_mt (mz_mt (mz_mt (mz_mt mz_mh)))))))))))))))))))))
theorem mz_i_wsX7_mostOfBoth_18 : (.code yX7_partsOf cX7_partsOf 1 (some .int) : Cond) ∈ wsX7_mostOfBoth := mz_mt (mz_ml (mz_ml (mz_ml (mz_mt (mz_mt (mz_mt (mz_mt (mz_mt (mz_mt (mz_mt (mz_mt (mz_mt (mz_mt (mz_mt (mz_mt (mz_mt (mz_mt (mz_mt (mz_mt (mz_mt mz_mh))))))))))))))))))))
theorem mz_i_wsX7_mostOfBoth_17 : (.static yX7_partsOf : Cond) ∈ wsX7_mostOfBoth := mz_mt (mz_ml (mz_ml (mz_ml (mz_mt (mz_mt (mz_mt (mz_mt (mz_mt (mz_mt (mz_mt (mz_mt (mz_mt (mz_mt (mz_mt (mz_mt (mz_mt (mz_mt (mz_mt (mz_mt mz_mh)))))))))))))))))))
theorem mz_i_wsX7_mostOfBoth_16 : (.fieldLink RX6 9 "MadeItSo$Weights" "ofCase" "[J" : Cond) ∈ wsX7_mostOfBoth := mz_mt (mz_ml (mz_ml (mz_ml (mz_mt (mz_mt (mz_mt (mz_mt (mz_mt (mz_mt (mz_mt (mz_mt (mz_mt (mz_mt (mz_mt (mz_mt (mz_mt (mz_mt (mz_mt mz_mh))))))))))))))))))
theorem mz_i_wsX7_mostOfBoth_15 : (.fieldLink RX6 15 "MadeItSo$Weights" "everything" "I" : Cond) ∈ wsX7_mostOfBoth := mz_mt (mz_ml (mz_ml (mz_ml (mz_mt (mz_mt (mz_mt (mz_mt (mz_mt (mz_mt (mz_mt (mz_mt (mz_mt (mz_mt (mz_mt (mz_mt (mz_mt (mz_mt mz_mh)))))))))))))))))
theorem mz_f_wsX7_mostOfBoth_wsX60 : ∀ w ∈ wsX60, w ∈ wsX7_mostOfBoth := fun _ h => mz_mt (mz_mr h)
set_option maxRecDepth 20000 in
theorem ggX7_mostOfBoth_X6_having : GoodIn wsX7_mostOfBoth wsX6_having := goodIn_sub (mz_fc mz_i_wsX7_mostOfBoth_14 (mz_fa (mz_fc mz_i_wsX7_mostOfBoth_15 (mz_fc mz_i_wsX7_mostOfBoth_16 (mz_fc mz_i_wsX7_mostOfBoth_17 (mz_fc mz_i_wsX7_mostOfBoth_8 (mz_fc mz_i_wsX7_mostOfBoth_18 (mz_fc mz_i_wsX7_mostOfBoth_19 (mz_fc mz_i_wsX7_mostOfBoth_20 (mz_fc mz_i_wsX7_mostOfBoth_21 (mz_fc mz_i_wsX7_mostOfBoth_22 (mz_fc mz_i_wsX7_mostOfBoth_23 (mz_fc mz_i_wsX7_mostOfBoth_24 (mz_fc mz_i_wsX7_mostOfBoth_25 (mz_fc mz_i_wsX7_mostOfBoth_26 (mz_fc mz_i_wsX7_mostOfBoth_27 mz_fn)))))))))))))) (mz_f_wsX7_mostOfBoth_wsX60))) (by decide +kernel)
theorem mz_i_wsX7_mostOfBoth_13 : (.initialized RX6 : Cond) ∈ wsX7_mostOfBoth := mz_mt (mz_ml (mz_ml (mz_ml (mz_mt (mz_mt (mz_mt (mz_mt (mz_mt (mz_mt (mz_mt (mz_mt (mz_mt (mz_mt (mz_mt (mz_mt mz_mh)))))))))))))))
theorem mz_i_wsX7_mostOfBoth_12 : (.selects RX6 yX6_having yX6_having : Cond) ∈ wsX7_mostOfBoth := mz_mt (mz_ml (mz_ml (mz_ml (mz_mt (mz_mt (mz_mt (mz_mt (mz_mt (mz_mt (mz_mt (mz_mt (mz_mt (mz_mt (mz_mt mz_mh))))))))))))))
theorem mz_i_wsX7_mostOfBoth_11 : (.instanceMethod yX6_having : Cond) ∈ wsX7_mostOfBoth := mz_mt (mz_ml (mz_ml (mz_ml (mz_mt (mz_mt (mz_mt (mz_mt (mz_mt (mz_mt (mz_mt (mz_mt (mz_mt (mz_mt mz_mh)))))))))))))
theorem mz_i_wsX7_mostOfBoth_10 : (.methodLink RX7 133 yX6_having : Cond) ∈ wsX7_mostOfBoth := mz_mt (mz_ml (mz_ml (mz_ml (mz_mt (mz_mt (mz_mt (mz_mt (mz_mt (mz_mt (mz_mt (mz_mt (mz_mt mz_mh))))))))))))
set_option maxRecDepth 20000 in
theorem gX7_mostOfBoth_X6_having : GoodIn wsX7_mostOfBoth (wsV RX7 133 RX6 yX6_having wsX6_having) := goodIn_app (goodIn_sub (mz_fc mz_i_wsX7_mostOfBoth_10 (mz_fc mz_i_wsX7_mostOfBoth_11 (mz_fc mz_i_wsX7_mostOfBoth_12 (mz_fc mz_i_wsX7_mostOfBoth_13 mz_fn)))) (by decide +kernel)) ggX7_mostOfBoth_X6_having
theorem dX7_mostOfBoth_0 : decode cX7_mostOfBoth 0 = .ok (.iload_n 1, 1) := by decide +kernel
theorem dX7_mostOfBoth_1 : decode cX7_mostOfBoth 1 = .ok (.invokestatic 73, 3) := by decide +kernel
theorem dX7_mostOfBoth_4 : decode cX7_mostOfBoth 4 = .ok (.iload_n 2, 1) := by decide +kernel
theorem dX7_mostOfBoth_5 : decode cX7_mostOfBoth 5 = .ok (.invokestatic 73, 3) := by decide +kernel
theorem dX7_mostOfBoth_8 : decode cX7_mostOfBoth 8 = .ok (.ior, 1) := by decide +kernel
theorem dX7_mostOfBoth_9 : decode cX7_mostOfBoth 9 = .ok (.istore 7, 2) := by decide +kernel
theorem dX7_mostOfBoth_11 : decode cX7_mostOfBoth 11 = .ok (.aload_n 0, 1) := by decide +kernel
theorem dX7_mostOfBoth_12 : decode cX7_mostOfBoth 12 = .ok (.getfield 29, 3) := by decide +kernel
theorem dX7_mostOfBoth_15 : decode cX7_mostOfBoth 15 = .ok (.iload 7, 2) := by decide +kernel
theorem dX7_mostOfBoth_17 : decode cX7_mostOfBoth 17 = .ok (.iload 7, 2) := by decide +kernel
theorem dX7_mostOfBoth_19 : decode cX7_mostOfBoth 19 = .ok (.invokevirtual 133, 3) := by decide +kernel
theorem dX7_mostOfBoth_22 : decode cX7_mostOfBoth 22 = .ok (.aload_n 0, 1) := by decide +kernel
theorem dX7_mostOfBoth_23 : decode cX7_mostOfBoth 23 = .ok (.getfield 29, 3) := by decide +kernel
theorem dX7_mostOfBoth_26 : decode cX7_mostOfBoth 26 = .ok (.iload 7, 2) := by decide +kernel
theorem dX7_mostOfBoth_28 : decode cX7_mostOfBoth 28 = .ok (.iconst 0, 1) := by decide +kernel
theorem dX7_mostOfBoth_29 : decode cX7_mostOfBoth 29 = .ok (.invokevirtual 133, 3) := by decide +kernel
theorem dX7_mostOfBoth_32 : decode cX7_mostOfBoth 32 = .ok (.ladd, 1) := by decide +kernel
theorem dX7_mostOfBoth_33 : decode cX7_mostOfBoth 33 = .ok (.lstore 8, 2) := by decide +kernel
theorem dX7_mostOfBoth_35 : decode cX7_mostOfBoth 35 = .ok (.aload_n 0, 1) := by decide +kernel
theorem dX7_mostOfBoth_36 : decode cX7_mostOfBoth 36 = .ok (.getfield 29, 3) := by decide +kernel
theorem dX7_mostOfBoth_39 : decode cX7_mostOfBoth 39 = .ok (.iload 7, 2) := by decide +kernel
theorem dX7_mostOfBoth_41 : decode cX7_mostOfBoth 41 = .ok (.iload_n 1, 1) := by decide +kernel
theorem dX7_mostOfBoth_42 : decode cX7_mostOfBoth 42 = .ok (.invokestatic 73, 3) := by decide +kernel
theorem dX7_mostOfBoth_45 : decode cX7_mostOfBoth 45 = .ok (.invokevirtual 133, 3) := by decide +kernel
theorem dX7_mostOfBoth_48 : decode cX7_mostOfBoth 48 = .ok (.aload_n 0, 1) := by decide +kernel
theorem dX7_mostOfBoth_49 : decode cX7_mostOfBoth 49 = .ok (.getfield 29, 3) := by decide +kernel
theorem dX7_mostOfBoth_52 : decode cX7_mostOfBoth 52 = .ok (.iload 7, 2) := by decide +kernel
theorem dX7_mostOfBoth_54 : decode cX7_mostOfBoth 54 = .ok (.iload_n 2, 1) := by decide +kernel
theorem dX7_mostOfBoth_55 : decode cX7_mostOfBoth 55 = .ok (.invokestatic 73, 3) := by decide +kernel
theorem dX7_mostOfBoth_58 : decode cX7_mostOfBoth 58 = .ok (.invokevirtual 133, 3) := by decide +kernel
theorem dX7_mostOfBoth_61 : decode cX7_mostOfBoth 61 = .ok (.ladd, 1) := by decide +kernel
theorem dX7_mostOfBoth_62 : decode cX7_mostOfBoth 62 = .ok (.lstore 10, 2) := by decide +kernel
theorem dX7_mostOfBoth_64 : decode cX7_mostOfBoth 64 = .ok (.lload_n 3, 1) := by decide +kernel
theorem dX7_mostOfBoth_65 : decode cX7_mostOfBoth 65 = .ok (.aload_n 0, 1) := by decide +kernel
theorem dX7_mostOfBoth_66 : decode cX7_mostOfBoth 66 = .ok (.getfield 29, 3) := by decide +kernel
theorem dX7_mostOfBoth_69 : decode cX7_mostOfBoth 69 = .ok (.iconst 0, 1) := by decide +kernel
theorem dX7_mostOfBoth_70 : decode cX7_mostOfBoth 70 = .ok (.iconst 0, 1) := by decide +kernel
theorem dX7_mostOfBoth_71 : decode cX7_mostOfBoth 71 = .ok (.invokevirtual 133, 3) := by decide +kernel
theorem dX7_mostOfBoth_74 : decode cX7_mostOfBoth 74 = .ok (.lload 5, 2) := by decide +kernel
theorem dX7_mostOfBoth_76 : decode cX7_mostOfBoth 76 = .ok (.lsub, 1) := by decide +kernel
theorem dX7_mostOfBoth_77 : decode cX7_mostOfBoth 77 = .ok (.invokestatic 236, 3) := by decide +kernel
theorem dX7_mostOfBoth_80 : decode cX7_mostOfBoth 80 = .ok (.lstore 12, 2) := by decide +kernel
theorem dX7_mostOfBoth_82 : decode cX7_mostOfBoth 82 = .ok (.lload 12, 2) := by decide +kernel
theorem dX7_mostOfBoth_84 : decode cX7_mostOfBoth 84 = .ok (.lload 8, 2) := by decide +kernel
theorem dX7_mostOfBoth_86 : decode cX7_mostOfBoth 86 = .ok (.lload_n 3, 1) := by decide +kernel
theorem dX7_mostOfBoth_87 : decode cX7_mostOfBoth 87 = .ok (.lload 5, 2) := by decide +kernel
theorem dX7_mostOfBoth_89 : decode cX7_mostOfBoth 89 = .ok (.lsub, 1) := by decide +kernel
theorem dX7_mostOfBoth_90 : decode cX7_mostOfBoth 90 = .ok (.lload 10, 2) := by decide +kernel
theorem dX7_mostOfBoth_92 : decode cX7_mostOfBoth 92 = .ok (.ladd, 1) := by decide +kernel
theorem dX7_mostOfBoth_93 : decode cX7_mostOfBoth 93 = .ok (.invokestatic 236, 3) := by decide +kernel
theorem dX7_mostOfBoth_96 : decode cX7_mostOfBoth 96 = .ok (.invokestatic 236, 3) := by decide +kernel
theorem dX7_mostOfBoth_99 : decode cX7_mostOfBoth 99 = .ok (.lreturn, 1) := by decide +kernel
theorem mz_i_wsX7_mostOfNeed_9 : (.code yX7_bit cX7_bit 1 (some .int) : Cond) ∈ wsX7_mostOfNeed := mz_mt (mz_ml (mz_ml (mz_ml (mz_mt (mz_mt (mz_mt (mz_mt (mz_mt (mz_mt (mz_mt (mz_mt mz_mh)))))))))))
set_option maxRecDepth 20000 in
theorem ggX7_mostOfNeed_X7_bit : GoodIn wsX7_mostOfNeed wsX7_bit := goodIn_sub (mz_fc mz_i_wsX7_mostOfNeed_9 (mz_fn)) (by decide +kernel)
theorem mz_i_wsX7_mostOfNeed_8 : (.initialized RX7 : Cond) ∈ wsX7_mostOfNeed := mz_mt (mz_ml (mz_ml (mz_ml (mz_mt (mz_mt (mz_mt (mz_mt (mz_mt (mz_mt (mz_mt mz_mh))))))))))
theorem mz_i_wsX7_mostOfNeed_7 : (.static yX7_bit : Cond) ∈ wsX7_mostOfNeed := mz_mt (mz_ml (mz_ml (mz_ml (mz_mt (mz_mt (mz_mt (mz_mt (mz_mt (mz_mt mz_mh)))))))))
theorem mz_i_wsX7_mostOfNeed_6 : (.methodLink RX7 73 yX7_bit : Cond) ∈ wsX7_mostOfNeed := mz_mt (mz_ml (mz_ml (mz_ml (mz_mt (mz_mt (mz_mt (mz_mt (mz_mt mz_mh))))))))
set_option maxRecDepth 20000 in
theorem gX7_mostOfNeed_X7_bit : GoodIn wsX7_mostOfNeed (va_wsS RX7 73 yX7_bit wsX7_bit) := goodIn_app (goodIn_sub (mz_fc mz_i_wsX7_mostOfNeed_6 (mz_fc mz_i_wsX7_mostOfNeed_7 (mz_fc mz_i_wsX7_mostOfNeed_8 mz_fn))) (by decide +kernel)) ggX7_mostOfNeed_X7_bit
theorem mz_i_wsX7_mostOfNeed_14 : (.code yX6_having cX6_having 9 (some .long) : Cond) ∈ wsX7_mostOfNeed := mz_mt (mz_ml (mz_ml (mz_ml (mz_mt (mz_mt (mz_mt (mz_mt (mz_mt (mz_mt (mz_mt (mz_mt (mz_mt (mz_mt (mz_mt (mz_mt (mz_mt mz_mh))))))))))))))))
theorem mz_i_wsX7_mostOfNeed_27 : (.code yX7_nextPart cX7_nextPart 2 (some .int) : Cond) ∈ wsX7_mostOfNeed := mz_mt (mz_ml (mz_ml (mz_mr (mz_mt (mz_mt mz_mh)))))
theorem mz_i_wsX7_mostOfNeed_26 : (.static yX7_nextPart : Cond) ∈ wsX7_mostOfNeed := mz_mt (mz_ml (mz_ml (mz_mr (mz_mt mz_mh))))
theorem mz_i_wsX7_mostOfNeed_25 : (.constant RJ6 267 (252645135) : Cond) ∈ wsX7_mostOfNeed := mz_mt (mz_ml (mz_ml (mz_mr mz_mh)))
theorem mz_i_wsX7_mostOfNeed_24 : (.constant RJ6 266 (858993459) : Cond) ∈ wsX7_mostOfNeed := mz_mt (mz_ml (mz_ml (mz_ml (mz_mt (mz_mt (mz_mt (mz_mt (mz_mt (mz_mt (mz_mt (mz_mt (mz_mt (mz_mt (mz_mt (mz_mt (mz_mt (mz_mt (mz_mt (mz_mt (mz_mt (mz_mt (mz_mt (mz_mt (mz_mt (mz_mt (mz_mt mz_mh))))))))))))))))))))))))))
theorem mz_i_wsX7_mostOfNeed_23 : (.constant RJ6 265 (1431655765) : Cond) ∈ wsX7_mostOfNeed := mz_mt (mz_ml (mz_ml (mz_ml (mz_mt (mz_mt (mz_mt (mz_mt (mz_mt (mz_mt (mz_mt (mz_mt (mz_mt (mz_mt (mz_mt (mz_mt (mz_mt (mz_mt (mz_mt (mz_mt (mz_mt (mz_mt (mz_mt (mz_mt (mz_mt (mz_mt mz_mh)))))))))))))))))))))))))
theorem mz_i_wsX7_mostOfNeed_22 : (.code yJ6_bitCount_0f7a4 cJ6_bitCount_0f7a4 1 (some .int) : Cond) ∈ wsX7_mostOfNeed := mz_mt (mz_ml (mz_ml (mz_ml (mz_mt (mz_mt (mz_mt (mz_mt (mz_mt (mz_mt (mz_mt (mz_mt (mz_mt (mz_mt (mz_mt (mz_mt (mz_mt (mz_mt (mz_mt (mz_mt (mz_mt (mz_mt (mz_mt (mz_mt (mz_mt mz_mh))))))))))))))))))))))))
theorem mz_i_wsX7_mostOfNeed_21 : (.initialized RJ6 : Cond) ∈ wsX7_mostOfNeed := mz_mt (mz_ml (mz_ml (mz_ml (mz_mt (mz_mt (mz_mt (mz_mt (mz_mt (mz_mt (mz_mt (mz_mt (mz_mt (mz_mt (mz_mt (mz_mt (mz_mt (mz_mt (mz_mt (mz_mt (mz_mt (mz_mt (mz_mt (mz_mt mz_mh)))))))))))))))))))))))
theorem mz_i_wsX7_mostOfNeed_20 : (.static yJ6_bitCount_0f7a4 : Cond) ∈ wsX7_mostOfNeed := mz_mt (mz_ml (mz_ml (mz_ml (mz_mt (mz_mt (mz_mt (mz_mt (mz_mt (mz_mt (mz_mt (mz_mt (mz_mt (mz_mt (mz_mt (mz_mt (mz_mt (mz_mt (mz_mt (mz_mt (mz_mt (mz_mt (mz_mt mz_mh))))))))))))))))))))))
theorem mz_i_wsX7_mostOfNeed_19 : (.methodLink RX7 239 yJ6_bitCount_0f7a4 : Cond) ∈ wsX7_mostOfNeed := mz_mt (mz_ml (mz_ml (mz_ml (mz_mt (mz_mt (mz_mt (mz_mt (mz_mt (mz_mt (mz_mt (mz_mt (mz_mt (mz_mt (mz_mt (mz_mt (mz_mt (mz_mt (mz_mt (mz_mt (mz_mt (mz_mt mz_mh)))))))))))))))))))))
theorem mz_i_wsX7_mostOfNeed_18 : (.code yX7_partsOf cX7_partsOf 1 (some .int) : Cond) ∈ wsX7_mostOfNeed := mz_mt (mz_ml (mz_ml (mz_ml (mz_mt (mz_mt (mz_mt (mz_mt (mz_mt (mz_mt (mz_mt (mz_mt (mz_mt (mz_mt (mz_mt (mz_mt (mz_mt (mz_mt (mz_mt (mz_mt (mz_mt mz_mh))))))))))))))))))))
theorem mz_i_wsX7_mostOfNeed_17 : (.static yX7_partsOf : Cond) ∈ wsX7_mostOfNeed := mz_mt (mz_ml (mz_ml (mz_ml (mz_mt (mz_mt (mz_mt (mz_mt (mz_mt (mz_mt (mz_mt (mz_mt (mz_mt (mz_mt (mz_mt (mz_mt (mz_mt (mz_mt (mz_mt (mz_mt mz_mh)))))))))))))))))))
theorem mz_i_wsX7_mostOfNeed_16 : (.fieldLink RX6 9 "MadeItSo$Weights" "ofCase" "[J" : Cond) ∈ wsX7_mostOfNeed := mz_mt (mz_ml (mz_ml (mz_ml (mz_mt (mz_mt (mz_mt (mz_mt (mz_mt (mz_mt (mz_mt (mz_mt (mz_mt (mz_mt (mz_mt (mz_mt (mz_mt (mz_mt (mz_mt mz_mh))))))))))))))))))
theorem mz_i_wsX7_mostOfNeed_15 : (.fieldLink RX6 15 "MadeItSo$Weights" "everything" "I" : Cond) ∈ wsX7_mostOfNeed := mz_mt (mz_ml (mz_ml (mz_ml (mz_mt (mz_mt (mz_mt (mz_mt (mz_mt (mz_mt (mz_mt (mz_mt (mz_mt (mz_mt (mz_mt (mz_mt (mz_mt (mz_mt mz_mh)))))))))))))))))
theorem mz_f_wsX7_mostOfNeed_wsX60 : ∀ w ∈ wsX60, w ∈ wsX7_mostOfNeed := fun _ h => mz_mt (mz_mr h)
set_option maxRecDepth 20000 in
theorem ggX7_mostOfNeed_X6_having : GoodIn wsX7_mostOfNeed wsX6_having := goodIn_sub (mz_fc mz_i_wsX7_mostOfNeed_14 (mz_fa (mz_fc mz_i_wsX7_mostOfNeed_15 (mz_fc mz_i_wsX7_mostOfNeed_16 (mz_fc mz_i_wsX7_mostOfNeed_17 (mz_fc mz_i_wsX7_mostOfNeed_8 (mz_fc mz_i_wsX7_mostOfNeed_18 (mz_fc mz_i_wsX7_mostOfNeed_19 (mz_fc mz_i_wsX7_mostOfNeed_20 (mz_fc mz_i_wsX7_mostOfNeed_21 (mz_fc mz_i_wsX7_mostOfNeed_22 (mz_fc mz_i_wsX7_mostOfNeed_23 (mz_fc mz_i_wsX7_mostOfNeed_24 (mz_fc mz_i_wsX7_mostOfNeed_25 (mz_fc mz_i_wsX7_mostOfNeed_26 (mz_fc mz_i_wsX7_mostOfNeed_27 mz_fn)))))))))))))) (mz_f_wsX7_mostOfNeed_wsX60))) (by decide +kernel)
theorem mz_i_wsX7_mostOfNeed_13 : (.initialized RX6 : Cond) ∈ wsX7_mostOfNeed := mz_mt (mz_ml (mz_ml (mz_ml (mz_mt (mz_mt (mz_mt (mz_mt (mz_mt (mz_mt (mz_mt (mz_mt (mz_mt (mz_mt (mz_mt (mz_mt mz_mh)))))))))))))))
theorem mz_i_wsX7_mostOfNeed_12 : (.selects RX6 yX6_having yX6_having : Cond) ∈ wsX7_mostOfNeed := mz_mt (mz_ml (mz_ml (mz_ml (mz_mt (mz_mt (mz_mt (mz_mt (mz_mt (mz_mt (mz_mt (mz_mt (mz_mt (mz_mt (mz_mt mz_mh))))))))))))))
theorem mz_i_wsX7_mostOfNeed_11 : (.instanceMethod yX6_having : Cond) ∈ wsX7_mostOfNeed := mz_mt (mz_ml (mz_ml (mz_ml (mz_mt (mz_mt (mz_mt (mz_mt (mz_mt (mz_mt (mz_mt (mz_mt (mz_mt (mz_mt mz_mh)))))))))))))
theorem mz_i_wsX7_mostOfNeed_10 : (.methodLink RX7 133 yX6_having : Cond) ∈ wsX7_mostOfNeed := mz_mt (mz_ml (mz_ml (mz_ml (mz_mt (mz_mt (mz_mt (mz_mt (mz_mt (mz_mt (mz_mt (mz_mt (mz_mt mz_mh))))))))))))
set_option maxRecDepth 20000 in
theorem gX7_mostOfNeed_X6_having : GoodIn wsX7_mostOfNeed (wsV RX7 133 RX6 yX6_having wsX6_having) := goodIn_app (goodIn_sub (mz_fc mz_i_wsX7_mostOfNeed_10 (mz_fc mz_i_wsX7_mostOfNeed_11 (mz_fc mz_i_wsX7_mostOfNeed_12 (mz_fc mz_i_wsX7_mostOfNeed_13 mz_fn)))) (by decide +kernel)) ggX7_mostOfNeed_X6_having
theorem dX7_mostOfNeed_0 : decode cX7_mostOfNeed 0 = .ok (.iload_n 1, 1) := by decide +kernel
theorem dX7_mostOfNeed_1 : decode cX7_mostOfNeed 1 = .ok (.invokestatic 73, 3) := by decide +kernel
theorem dX7_mostOfNeed_4 : decode cX7_mostOfNeed 4 = .ok (.iload_n 2, 1) := by decide +kernel
theorem dX7_mostOfNeed_5 : decode cX7_mostOfNeed 5 = .ok (.invokestatic 73, 3) := by decide +kernel
theorem dX7_mostOfNeed_8 : decode cX7_mostOfNeed 8 = .ok (.ior, 1) := by decide +kernel
theorem dX7_mostOfNeed_9 : decode cX7_mostOfNeed 9 = .ok (.istore 5, 2) := by decide +kernel
theorem dX7_mostOfNeed_11 : decode cX7_mostOfNeed 11 = .ok (.aload_n 0, 1) := by decide +kernel
theorem dX7_mostOfNeed_12 : decode cX7_mostOfNeed 12 = .ok (.getfield 29, 3) := by decide +kernel
theorem dX7_mostOfNeed_15 : decode cX7_mostOfNeed 15 = .ok (.iconst 0, 1) := by decide +kernel
theorem dX7_mostOfNeed_16 : decode cX7_mostOfNeed 16 = .ok (.iconst 0, 1) := by decide +kernel
theorem dX7_mostOfNeed_17 : decode cX7_mostOfNeed 17 = .ok (.invokevirtual 133, 3) := by decide +kernel
theorem dX7_mostOfNeed_20 : decode cX7_mostOfNeed 20 = .ok (.lload_n 3, 1) := by decide +kernel
theorem dX7_mostOfNeed_21 : decode cX7_mostOfNeed 21 = .ok (.lsub, 1) := by decide +kernel
theorem dX7_mostOfNeed_22 : decode cX7_mostOfNeed 22 = .ok (.aload_n 0, 1) := by decide +kernel
theorem dX7_mostOfNeed_23 : decode cX7_mostOfNeed 23 = .ok (.getfield 29, 3) := by decide +kernel
theorem dX7_mostOfNeed_26 : decode cX7_mostOfNeed 26 = .ok (.iload 5, 2) := by decide +kernel
theorem dX7_mostOfNeed_28 : decode cX7_mostOfNeed 28 = .ok (.iconst 0, 1) := by decide +kernel
theorem dX7_mostOfNeed_29 : decode cX7_mostOfNeed 29 = .ok (.invokevirtual 133, 3) := by decide +kernel
theorem dX7_mostOfNeed_32 : decode cX7_mostOfNeed 32 = .ok (.lsub, 1) := by decide +kernel
theorem dX7_mostOfNeed_33 : decode cX7_mostOfNeed 33 = .ok (.lstore 6, 2) := by decide +kernel
theorem dX7_mostOfNeed_35 : decode cX7_mostOfNeed 35 = .ok (.aload_n 0, 1) := by decide +kernel
theorem dX7_mostOfNeed_36 : decode cX7_mostOfNeed 36 = .ok (.getfield 29, 3) := by decide +kernel
theorem dX7_mostOfNeed_39 : decode cX7_mostOfNeed 39 = .ok (.iload 5, 2) := by decide +kernel
theorem dX7_mostOfNeed_41 : decode cX7_mostOfNeed 41 = .ok (.iload 5, 2) := by decide +kernel
theorem dX7_mostOfNeed_43 : decode cX7_mostOfNeed 43 = .ok (.invokevirtual 133, 3) := by decide +kernel
theorem dX7_mostOfNeed_46 : decode cX7_mostOfNeed 46 = .ok (.lload 6, 2) := by decide +kernel
theorem dX7_mostOfNeed_48 : decode cX7_mostOfNeed 48 = .ok (.invokestatic 236, 3) := by decide +kernel
theorem dX7_mostOfNeed_51 : decode cX7_mostOfNeed 51 = .ok (.lreturn, 1) := by decide +kernel
