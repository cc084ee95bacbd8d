/-! printed rows of NAMES that the contracts use -/
theorem dX0_init_0 : decode cX0_init 0 = .ok (.aload_n 0, 1) := by decide +kernel
theorem dX0_init_1 : decode cX0_init 1 = .ok (.invokespecial 3, 3) := by decide +kernel
theorem dX0_init_4 : decode cX0_init 4 = .ok (.aload_n 0, 1) := by decide +kernel
theorem dX0_init_5 : decode cX0_init 5 = .ok (.sipush 128, 3) := by decide +kernel
theorem dX0_init_8 : decode cX0_init 8 = .ok (.newarray .long, 2) := by decide +kernel
theorem dX0_init_10 : decode cX0_init 10 = .ok (.putfield 9, 3) := by decide +kernel
theorem dX0_init_13 : decode cX0_init 13 = .ok (.aload_n 0, 1) := by decide +kernel
theorem dX0_init_14 : decode cX0_init 14 = .ok (.iconst 0, 1) := by decide +kernel
theorem dX0_init_15 : decode cX0_init 15 = .ok (.putfield 13, 3) := by decide +kernel
theorem dX0_init_18 : decode cX0_init 18 = .ok (.return_, 1) := by decide +kernel
theorem dX1_init_0 : decode cX1_init 0 = .ok (.aload_n 0, 1) := by decide +kernel
theorem dX1_init_1 : decode cX1_init 1 = .ok (.invokespecial 3, 3) := by decide +kernel
theorem dX1_init_4 : decode cX1_init 4 = .ok (.aload_n 0, 1) := by decide +kernel
theorem dX1_init_5 : decode cX1_init 5 = .ok (.sipush 1024, 3) := by decide +kernel
theorem dX1_init_8 : decode cX1_init 8 = .ok (.newarray .int, 2) := by decide +kernel
theorem dX1_init_10 : decode cX1_init 10 = .ok (.putfield 9, 3) := by decide +kernel
theorem dX1_init_13 : decode cX1_init 13 = .ok (.return_, 1) := by decide +kernel
theorem dX2_init_0 : decode cX2_init 0 = .ok (.aload_n 0, 1) := by decide +kernel
theorem dX2_init_1 : decode cX2_init 1 = .ok (.invokespecial 3, 3) := by decide +kernel
theorem dX2_init_4 : decode cX2_init 4 = .ok (.aload_n 0, 1) := by decide +kernel
theorem dX2_init_5 : decode cX2_init 5 = .ok (.bipush 8, 2) := by decide +kernel
theorem dX2_init_7 : decode cX2_init 7 = .ok (.newarray .int, 2) := by decide +kernel
theorem dX2_init_9 : decode cX2_init 9 = .ok (.putfield 9, 3) := by decide +kernel
theorem dX2_init_12 : decode cX2_init 12 = .ok (.aload_n 0, 1) := by decide +kernel
theorem dX2_init_13 : decode cX2_init 13 = .ok (.bipush 8, 2) := by decide +kernel
theorem dX2_init_15 : decode cX2_init 15 = .ok (.newarray .int, 2) := by decide +kernel
theorem dX2_init_17 : decode cX2_init 17 = .ok (.putfield 15, 3) := by decide +kernel
theorem dX2_init_20 : decode cX2_init 20 = .ok (.aload_n 0, 1) := by decide +kernel
theorem dX2_init_21 : decode cX2_init 21 = .ok (.iconst 0, 1) := by decide +kernel
theorem dX2_init_22 : decode cX2_init 22 = .ok (.putfield 18, 3) := by decide +kernel
theorem dX2_init_25 : decode cX2_init 25 = .ok (.return_, 1) := by decide +kernel
theorem dX3_init_0 : decode cX3_init 0 = .ok (.aload_n 0, 1) := by decide +kernel
theorem dX3_init_1 : decode cX3_init 1 = .ok (.invokespecial 3, 3) := by decide +kernel
theorem dX3_init_4 : decode cX3_init 4 = .ok (.aload_n 0, 1) := by decide +kernel
theorem dX3_init_5 : decode cX3_init 5 = .ok (.bipush 64, 2) := by decide +kernel
theorem dX3_init_7 : decode cX3_init 7 = .ok (.newarray .int, 2) := by decide +kernel
theorem dX3_init_9 : decode cX3_init 9 = .ok (.putfield 9, 3) := by decide +kernel
theorem dX3_init_12 : decode cX3_init 12 = .ok (.aload_n 0, 1) := by decide +kernel
theorem dX3_init_13 : decode cX3_init 13 = .ok (.iconst 0, 1) := by decide +kernel
theorem dX3_init_14 : decode cX3_init 14 = .ok (.putfield 15, 3) := by decide +kernel
theorem dX3_init_17 : decode cX3_init 17 = .ok (.return_, 1) := by decide +kernel
theorem dX4_init_0 : decode cX4_init 0 = .ok (.aload_n 0, 1) := by decide +kernel
theorem dX4_init_1 : decode cX4_init 1 = .ok (.invokespecial 3, 3) := by decide +kernel
theorem dX4_init_4 : decode cX4_init 4 = .ok (.aload_n 0, 1) := by decide +kernel
theorem dX4_init_5 : decode cX4_init 5 = .ok (.sipush 256, 3) := by decide +kernel
theorem dX4_init_8 : decode cX4_init 8 = .ok (.newarray .int, 2) := by decide +kernel
theorem dX4_init_10 : decode cX4_init 10 = .ok (.putfield 9, 3) := by decide +kernel
theorem dX4_init_13 : decode cX4_init 13 = .ok (.return_, 1) := by decide +kernel
theorem mz_i_wsX5_init_11 : (.code yX0_init cX0_init 1 none : Cond) ∈ wsX5_init := mz_mt (mz_ml (mz_ml (mz_mt (mz_mt (mz_mt (mz_mt (mz_mt (mz_mt (mz_mt (mz_mt (mz_mt (mz_mt mz_mh))))))))))))
theorem mz_i_wsX5_init_15 : (.fieldLink RX0 13 "MadeItSo$Big" "used" "I" : Cond) ∈ wsX5_init := mz_mt (mz_ml (mz_ml (mz_mt (mz_mt (mz_mt (mz_mt (mz_mt (mz_mt (mz_mt (mz_mt (mz_mt (mz_mt (mz_mt (mz_mt (mz_mt (mz_mt mz_mh))))))))))))))))
theorem mz_i_wsX5_init_14 : (.fieldLink RX0 9 "MadeItSo$Big" "limbs" "[J" : Cond) ∈ wsX5_init := mz_mt (mz_ml (mz_ml (mz_mt (mz_mt (mz_mt (mz_mt (mz_mt (mz_mt (mz_mt (mz_mt (mz_mt (mz_mt (mz_mt (mz_mt (mz_mt mz_mh)))))))))))))))
theorem mz_i_wsX5_init_13 : (.arrayClass .long : Cond) ∈ wsX5_init := mz_mt (mz_ml (mz_ml (mz_mt (mz_mt (mz_mt (mz_mt (mz_mt (mz_mt (mz_mt (mz_mt (mz_mt (mz_mt (mz_mt (mz_mt mz_mh))))))))))))))
theorem mz_i_wsX5_init_3 : (.code objectInit ⟨#[0xb1]⟩ 1 none : Cond) ∈ wsX5_init := mz_mt (mz_ml (mz_ml (mz_mt (mz_mt mz_mh))))
theorem mz_i_wsX5_init_2 : (.instanceMethod objectInit : Cond) ∈ wsX5_init := mz_mt (mz_ml (mz_ml (mz_mt mz_mh)))
theorem mz_i_wsX5_init_12 : (.methodLink RX0 3 objectInit : Cond) ∈ wsX5_init := mz_mt (mz_ml (mz_ml (mz_mt (mz_mt (mz_mt (mz_mt (mz_mt (mz_mt (mz_mt (mz_mt (mz_mt (mz_mt (mz_mt mz_mh)))))))))))))
theorem mz_f_wsX5_init_wsX00 : ∀ w ∈ wsX00, w ∈ wsX5_init := fun _ h => mz_mt (mz_ml (mz_mr h))
set_option maxRecDepth 20000 in
theorem ggX5_init_X0_init : GoodIn wsX5_init wsX0_init := goodIn_sub (mz_fc mz_i_wsX5_init_11 (mz_fa (mz_fc mz_i_wsX5_init_12 (mz_fc mz_i_wsX5_init_2 (mz_fc mz_i_wsX5_init_3 (mz_fc mz_i_wsX5_init_13 (mz_fc mz_i_wsX5_init_14 (mz_fc mz_i_wsX5_init_15 mz_fn)))))) (mz_f_wsX5_init_wsX00))) (by decide +kernel)
set_option maxRecDepth 20000 in
theorem gX5_init_X0_init_n9 : GoodIn wsX5_init (wsX0_init) := ggX5_init_X0_init
theorem dX5_init_0 : decode cX5_init 0 = .ok (.aload_n 0, 1) := by decide +kernel
theorem dX5_init_1 : decode cX5_init 1 = .ok (.invokespecial 1, 3) := by decide +kernel
theorem dX5_init_4 : decode cX5_init 4 = .ok (.aload_n 0, 1) := by decide +kernel
theorem dX5_init_5 : decode cX5_init 5 = .ok (.new 7, 3) := by decide +kernel
theorem dX5_init_8 : decode cX5_init 8 = .ok (.dup, 1) := by decide +kernel
theorem dX5_init_9 : decode cX5_init 9 = .ok (.invokespecial 9, 3) := by decide +kernel
theorem dX5_init_12 : decode cX5_init 12 = .ok (.putfield 10, 3) := by decide +kernel
theorem dX5_init_15 : decode cX5_init 15 = .ok (.aload_n 0, 1) := by decide +kernel
theorem dX5_init_16 : decode cX5_init 16 = .ok (.new 7, 3) := by decide +kernel
theorem dX5_init_19 : decode cX5_init 19 = .ok (.dup, 1) := by decide +kernel
theorem dX5_init_20 : decode cX5_init 20 = .ok (.invokespecial 9, 3) := by decide +kernel
theorem dX5_init_23 : decode cX5_init 23 = .ok (.putfield 16, 3) := by decide +kernel
theorem dX5_init_26 : decode cX5_init 26 = .ok (.aload_n 0, 1) := by decide +kernel
theorem dX5_init_27 : decode cX5_init 27 = .ok (.new 7, 3) := by decide +kernel
theorem dX5_init_30 : decode cX5_init 30 = .ok (.dup, 1) := by decide +kernel
theorem dX5_init_31 : decode cX5_init 31 = .ok (.invokespecial 9, 3) := by decide +kernel
theorem dX5_init_34 : decode cX5_init 34 = .ok (.putfield 19, 3) := by decide +kernel
theorem dX5_init_37 : decode cX5_init 37 = .ok (.return_, 1) := by decide +kernel
theorem dX6_init_0 : decode cX6_init 0 = .ok (.aload_n 0, 1) := by decide +kernel
theorem dX6_init_1 : decode cX6_init 1 = .ok (.invokespecial 3, 3) := by decide +kernel
theorem dX6_init_4 : decode cX6_init 4 = .ok (.aload_n 0, 1) := by decide +kernel
theorem dX6_init_5 : decode cX6_init 5 = .ok (.sipush 256, 3) := by decide +kernel
theorem dX6_init_8 : decode cX6_init 8 = .ok (.newarray .long, 2) := by decide +kernel
theorem dX6_init_10 : decode cX6_init 10 = .ok (.putfield 9, 3) := by decide +kernel
theorem dX6_init_13 : decode cX6_init 13 = .ok (.aload_n 0, 1) := by decide +kernel
theorem dX6_init_14 : decode cX6_init 14 = .ok (.iconst 0, 1) := by decide +kernel
theorem dX6_init_15 : decode cX6_init 15 = .ok (.putfield 15, 3) := by decide +kernel
theorem dX6_init_18 : decode cX6_init 18 = .ok (.return_, 1) := by decide +kernel
theorem mz_i_wsX7_init_33 : (.code yX2_init cX2_init 1 none : Cond) ∈ wsX7_init := mz_mt (mz_ml (mz_ml (mz_ml (mz_ml (mz_ml (mz_ml (mz_ml (mz_ml (mz_mr (mz_ml (mz_mt (mz_mt (mz_mt (mz_mt (mz_mt (mz_mt (mz_mt (mz_mt mz_mh))))))))))))))))))
theorem mz_i_wsX7_init_38 : (.fieldLink RX2 18 "MadeItSo$Drawing" "things" "I" : Cond) ∈ wsX7_init := mz_mt (mz_ml (mz_ml (mz_ml (mz_ml (mz_ml (mz_ml (mz_ml (mz_ml (mz_mr (mz_ml (mz_mt (mz_mt (mz_mt (mz_mt (mz_mt (mz_mt (mz_mt (mz_mt (mz_mt (mz_mt (mz_mt (mz_mt (mz_mt mz_mh)))))))))))))))))))))))
theorem mz_i_wsX7_init_37 : (.fieldLink RX2 15 "MadeItSo$Drawing" "children" "[I" : Cond) ∈ wsX7_init := mz_mt (mz_ml (mz_ml (mz_ml (mz_ml (mz_ml (mz_ml (mz_ml (mz_ml (mz_mr (mz_ml (mz_mt (mz_mt (mz_mt (mz_mt (mz_mt (mz_mt (mz_mt (mz_mt (mz_mt (mz_mt (mz_mt (mz_mt mz_mh))))))))))))))))))))))
theorem mz_i_wsX7_init_36 : (.fieldLink RX2 9 "MadeItSo$Drawing" "parents" "[I" : Cond) ∈ wsX7_init := mz_mt (mz_ml (mz_ml (mz_ml (mz_ml (mz_ml (mz_ml (mz_ml (mz_ml (mz_mr (mz_ml (mz_mt (mz_mt (mz_mt (mz_mt (mz_mt (mz_mt (mz_mt (mz_mt (mz_mt (mz_mt (mz_mt mz_mh)))))))))))))))))))))
theorem mz_i_wsX7_init_35 : (.arrayClass .int : Cond) ∈ wsX7_init := mz_mt (mz_ml (mz_ml (mz_ml (mz_ml (mz_ml (mz_ml (mz_ml (mz_ml (mz_mr (mz_ml (mz_mt (mz_mt (mz_mt (mz_mt (mz_mt (mz_mt (mz_mt (mz_mt (mz_mt (mz_mt mz_mh))))))))))))))))))))
theorem mz_i_wsX7_init_3 : (.code objectInit ⟨#[0xb1]⟩ 1 none : Cond) ∈ wsX7_init := mz_mt (mz_ml (mz_ml (mz_ml (mz_ml (mz_ml (mz_ml (mz_ml (mz_ml (mz_ml (mz_mt (mz_mt mz_mh)))))))))))
theorem mz_i_wsX7_init_2 : (.instanceMethod objectInit : Cond) ∈ wsX7_init := mz_mt (mz_ml (mz_ml (mz_ml (mz_ml (mz_ml (mz_ml (mz_ml (mz_ml (mz_ml (mz_mt mz_mh))))))))))
theorem mz_i_wsX7_init_34 : (.methodLink RX2 3 objectInit : Cond) ∈ wsX7_init := mz_mt (mz_ml (mz_ml (mz_ml (mz_ml (mz_ml (mz_ml (mz_ml (mz_ml (mz_mr (mz_ml (mz_mt (mz_mt (mz_mt (mz_mt (mz_mt (mz_mt (mz_mt (mz_mt (mz_mt mz_mh)))))))))))))))))))
theorem mz_f_wsX7_init_wsX20 : ∀ w ∈ wsX20, w ∈ wsX7_init := fun _ h => mz_mt (mz_ml (mz_ml (mz_ml (mz_ml (mz_ml (mz_ml (mz_ml (mz_mr h))))))))
set_option maxRecDepth 20000 in
theorem ggX7_init_X2_init : GoodIn wsX7_init wsX2_init := goodIn_sub (mz_fc mz_i_wsX7_init_33 (mz_fa (mz_fc mz_i_wsX7_init_34 (mz_fc mz_i_wsX7_init_2 (mz_fc mz_i_wsX7_init_3 (mz_fc mz_i_wsX7_init_35 (mz_fc mz_i_wsX7_init_36 (mz_fc mz_i_wsX7_init_37 (mz_fc mz_i_wsX7_init_38 mz_fn))))))) (mz_f_wsX7_init_wsX20))) (by decide +kernel)
set_option maxRecDepth 20000 in
theorem gX7_init_X2_init_n11 : GoodIn wsX7_init (wsX2_init) := ggX7_init_X2_init
theorem mz_i_wsX7_init_40 : (.code yX1_init cX1_init 1 none : Cond) ∈ wsX7_init := mz_mt (mz_ml (mz_ml (mz_ml (mz_ml (mz_ml (mz_ml (mz_ml (mz_ml (mz_mr (mz_ml (mz_mt (mz_mt (mz_mt (mz_mt (mz_mt (mz_mt (mz_mt (mz_mt (mz_mt (mz_mt (mz_mt (mz_mt (mz_mt (mz_mt (mz_mt mz_mh)))))))))))))))))))))))))
theorem mz_i_wsX7_init_42 : (.fieldLink RX1 9 "MadeItSo$Books" "parts" "[I" : Cond) ∈ wsX7_init := mz_mt (mz_ml (mz_ml (mz_ml (mz_ml (mz_ml (mz_ml (mz_ml (mz_ml (mz_mr (mz_ml (mz_mt (mz_mt (mz_mt (mz_mt (mz_mt (mz_mt (mz_mt (mz_mt (mz_mt (mz_mt (mz_mt (mz_mt (mz_mt (mz_mt (mz_mt (mz_mt (mz_mt mz_mh)))))))))))))))))))))))))))
theorem mz_i_wsX7_init_41 : (.methodLink RX1 3 objectInit : Cond) ∈ wsX7_init := mz_mt (mz_ml (mz_ml (mz_ml (mz_ml (mz_ml (mz_ml (mz_ml (mz_ml (mz_mr (mz_ml (mz_mt (mz_mt (mz_mt (mz_mt (mz_mt (mz_mt (mz_mt (mz_mt (mz_mt (mz_mt (mz_mt (mz_mt (mz_mt (mz_mt (mz_mt (mz_mt mz_mh))))))))))))))))))))))))))
theorem mz_f_wsX7_init_wsX10 : ∀ w ∈ wsX10, w ∈ wsX7_init := fun _ h => mz_mt (mz_ml (mz_ml (mz_ml (mz_ml (mz_ml (mz_mr h))))))
set_option maxRecDepth 20000 in
theorem ggX7_init_X1_init : GoodIn wsX7_init wsX1_init := goodIn_sub (mz_fc mz_i_wsX7_init_40 (mz_fa (mz_fc mz_i_wsX7_init_41 (mz_fc mz_i_wsX7_init_2 (mz_fc mz_i_wsX7_init_3 (mz_fc mz_i_wsX7_init_35 (mz_fc mz_i_wsX7_init_42 mz_fn))))) (mz_f_wsX7_init_wsX10))) (by decide +kernel)
set_option maxRecDepth 20000 in
theorem gX7_init_X1_init_n21 : GoodIn wsX7_init (wsX1_init) := ggX7_init_X1_init
theorem mz_i_wsX7_init_44 : (.code yX6_init cX6_init 1 none : Cond) ∈ wsX7_init := mz_mt (mz_ml (mz_ml (mz_ml (mz_ml (mz_ml (mz_ml (mz_ml (mz_ml (mz_mr (mz_ml (mz_mt (mz_mt (mz_mt (mz_mt (mz_mt (mz_mt (mz_mt (mz_mt (mz_mt (mz_mt (mz_mt (mz_mt (mz_mt (mz_mt (mz_mt (mz_mt (mz_mt (mz_mt (mz_mt mz_mh)))))))))))))))))))))))))))))
theorem mz_i_wsX7_init_48 : (.fieldLink RX6 15 "MadeItSo$Weights" "everything" "I" : Cond) ∈ wsX7_init := mz_mt (mz_ml (mz_ml (mz_ml (mz_ml (mz_ml (mz_ml (mz_ml (mz_ml (mz_mr (mz_ml (mz_mt (mz_mt (mz_mt (mz_mt (mz_mt (mz_mt (mz_mt (mz_mt (mz_mt (mz_mt (mz_mt (mz_mt (mz_mt (mz_mt (mz_mt (mz_mt (mz_mt (mz_mt (mz_mt (mz_mt (mz_mt (mz_mt (mz_mt mz_mh)))))))))))))))))))))))))))))))))
theorem mz_i_wsX7_init_47 : (.fieldLink RX6 9 "MadeItSo$Weights" "ofCase" "[J" : Cond) ∈ wsX7_init := mz_mt (mz_ml (mz_ml (mz_ml (mz_ml (mz_ml (mz_ml (mz_ml (mz_ml (mz_mr (mz_ml (mz_mt (mz_mt (mz_mt (mz_mt (mz_mt (mz_mt (mz_mt (mz_mt (mz_mt (mz_mt (mz_mt (mz_mt (mz_mt (mz_mt (mz_mt (mz_mt (mz_mt (mz_mt (mz_mt (mz_mt (mz_mt (mz_mt mz_mh))))))))))))))))))))))))))))))))
theorem mz_i_wsX7_init_46 : (.arrayClass .long : Cond) ∈ wsX7_init := mz_mt (mz_ml (mz_ml (mz_ml (mz_ml (mz_ml (mz_ml (mz_ml (mz_ml (mz_mr (mz_ml (mz_mt (mz_mt (mz_mt (mz_mt (mz_mt (mz_mt (mz_mt (mz_mt (mz_mt (mz_mt (mz_mt (mz_mt (mz_mt (mz_mt (mz_mt (mz_mt (mz_mt (mz_mt (mz_mt (mz_mt (mz_mt mz_mh)))))))))))))))))))))))))))))))
theorem mz_i_wsX7_init_45 : (.methodLink RX6 3 objectInit : Cond) ∈ wsX7_init := mz_mt (mz_ml (mz_ml (mz_ml (mz_ml (mz_ml (mz_ml (mz_ml (mz_ml (mz_mr (mz_ml (mz_mt (mz_mt (mz_mt (mz_mt (mz_mt (mz_mt (mz_mt (mz_mt (mz_mt (mz_mt (mz_mt (mz_mt (mz_mt (mz_mt (mz_mt (mz_mt (mz_mt (mz_mt (mz_mt (mz_mt mz_mh))))))))))))))))))))))))))))))
theorem mz_f_wsX7_init_wsX60 : ∀ w ∈ wsX60, w ∈ wsX7_init := fun _ h => mz_mt (mz_ml (mz_ml (mz_ml (mz_ml (mz_mr h)))))
set_option maxRecDepth 20000 in
theorem ggX7_init_X6_init : GoodIn wsX7_init wsX6_init := goodIn_sub (mz_fc mz_i_wsX7_init_44 (mz_fa (mz_fc mz_i_wsX7_init_45 (mz_fc mz_i_wsX7_init_2 (mz_fc mz_i_wsX7_init_3 (mz_fc mz_i_wsX7_init_46 (mz_fc mz_i_wsX7_init_47 (mz_fc mz_i_wsX7_init_48 mz_fn)))))) (mz_f_wsX7_init_wsX60))) (by decide +kernel)
set_option maxRecDepth 20000 in
theorem gX7_init_X6_init_n28 : GoodIn wsX7_init (wsX6_init) := ggX7_init_X6_init
theorem mz_i_wsX7_init_50 : (.code yX5_init cX5_init 1 none : Cond) ∈ wsX7_init := mz_mt (mz_ml (mz_ml (mz_ml (mz_ml (mz_ml (mz_ml (mz_ml (mz_ml (mz_mr (mz_mr (mz_mt mz_mh)))))))))))
theorem mz_i_wsX7_init_62 : (.fieldLink RX0 13 "MadeItSo$Big" "used" "I" : Cond) ∈ wsX7_init := mz_mt (mz_ml (mz_ml (mz_ml (mz_ml (mz_ml (mz_ml (mz_ml (mz_ml (mz_mr (mz_mr (mz_mt (mz_mt (mz_mt (mz_mt (mz_mt (mz_mt (mz_mt (mz_mt (mz_mt (mz_mt (mz_mt (mz_mt (mz_mt mz_mh)))))))))))))))))))))))
theorem mz_i_wsX7_init_61 : (.fieldLink RX0 9 "MadeItSo$Big" "limbs" "[J" : Cond) ∈ wsX7_init := mz_mt (mz_ml (mz_ml (mz_ml (mz_ml (mz_ml (mz_ml (mz_ml (mz_ml (mz_mr (mz_mr (mz_mt (mz_mt (mz_mt (mz_mt (mz_mt (mz_mt (mz_mt (mz_mt (mz_mt (mz_mt (mz_mt (mz_mt mz_mh))))))))))))))))))))))
theorem mz_i_wsX7_init_60 : (.methodLink RX0 3 objectInit : Cond) ∈ wsX7_init := mz_mt (mz_ml (mz_ml (mz_ml (mz_ml (mz_ml (mz_ml (mz_ml (mz_ml (mz_mr (mz_mr (mz_mt (mz_mt (mz_mt (mz_mt (mz_mt (mz_mt (mz_mt (mz_mt (mz_mt (mz_mt (mz_mt mz_mh)))))))))))))))))))))
theorem mz_i_wsX7_init_59 : (.code yX0_init cX0_init 1 none : Cond) ∈ wsX7_init := mz_mt (mz_ml (mz_ml (mz_ml (mz_ml (mz_ml (mz_ml (mz_ml (mz_ml (mz_mr (mz_mr (mz_mt (mz_mt (mz_mt (mz_mt (mz_mt (mz_mt (mz_mt (mz_mt (mz_mt (mz_mt mz_mh))))))))))))))))))))
theorem mz_i_wsX7_init_58 : (.instanceMethod yX0_init : Cond) ∈ wsX7_init := mz_mt (mz_ml (mz_ml (mz_ml (mz_ml (mz_ml (mz_ml (mz_ml (mz_ml (mz_mr (mz_mr (mz_mt (mz_mt (mz_mt (mz_mt (mz_mt (mz_mt (mz_mt (mz_mt (mz_mt mz_mh)))))))))))))))))))
theorem mz_i_wsX7_init_57 : (.fieldLink RX5 19 "MadeItSo$Total" "spare" "LMadeItSo$Big;" : Cond) ∈ wsX7_init := mz_mt (mz_ml (mz_ml (mz_ml (mz_ml (mz_ml (mz_ml (mz_ml (mz_ml (mz_mr (mz_mr (mz_mt (mz_mt (mz_mt (mz_mt (mz_mt (mz_mt (mz_mt (mz_mt mz_mh))))))))))))))))))
theorem mz_i_wsX7_init_56 : (.fieldLink RX5 16 "MadeItSo$Total" "bottom" "LMadeItSo$Big;" : Cond) ∈ wsX7_init := mz_mt (mz_ml (mz_ml (mz_ml (mz_ml (mz_ml (mz_ml (mz_ml (mz_ml (mz_mr (mz_mr (mz_mt (mz_mt (mz_mt (mz_mt (mz_mt (mz_mt (mz_mt mz_mh)))))))))))))))))
theorem mz_i_wsX7_init_55 : (.fieldLink RX5 10 "MadeItSo$Total" "top" "LMadeItSo$Big;" : Cond) ∈ wsX7_init := mz_mt (mz_ml (mz_ml (mz_ml (mz_ml (mz_ml (mz_ml (mz_ml (mz_ml (mz_mr (mz_mr (mz_mt (mz_mt (mz_mt (mz_mt (mz_mt (mz_mt mz_mh))))))))))))))))
theorem mz_i_wsX7_init_54 : (.initialized RX0 : Cond) ∈ wsX7_init := mz_mt (mz_ml (mz_ml (mz_ml (mz_ml (mz_ml (mz_ml (mz_ml (mz_ml (mz_mr (mz_mr (mz_mt (mz_mt (mz_mt (mz_mt (mz_mt mz_mh)))))))))))))))
theorem mz_i_wsX7_init_53 : (.instantiable RX0 2 : Cond) ∈ wsX7_init := mz_mt (mz_ml (mz_ml (mz_ml (mz_ml (mz_ml (mz_ml (mz_ml (mz_ml (mz_mr (mz_mr (mz_mt (mz_mt (mz_mt (mz_mt mz_mh))))))))))))))
theorem mz_i_wsX7_init_52 : (.classLink RX5 7 RX0 : Cond) ∈ wsX7_init := mz_mt (mz_ml (mz_ml (mz_ml (mz_ml (mz_ml (mz_ml (mz_ml (mz_ml (mz_mr (mz_mr (mz_mt (mz_mt (mz_mt mz_mh)))))))))))))
theorem mz_i_wsX7_init_51 : (.methodLink RX5 1 objectInit : Cond) ∈ wsX7_init := mz_mt (mz_ml (mz_ml (mz_ml (mz_ml (mz_ml (mz_ml (mz_ml (mz_ml (mz_mr (mz_mr (mz_mt (mz_mt mz_mh))))))))))))
theorem mz_f_wsX7_init_wsX00 : ∀ w ∈ wsX00, w ∈ wsX7_init := fun _ h => mz_mt (mz_mr h)
theorem mz_f_wsX7_init_wsX50 : ∀ w ∈ wsX50, w ∈ wsX7_init := fun _ h => mz_mt (mz_ml (mz_ml (mz_ml (mz_mr h))))
set_option maxRecDepth 20000 in
theorem ggX7_init_X5_init : GoodIn wsX7_init wsX5_init := goodIn_sub (mz_fc mz_i_wsX7_init_50 (mz_fa (mz_fa (mz_fc mz_i_wsX7_init_51 (mz_fc mz_i_wsX7_init_2 (mz_fc mz_i_wsX7_init_3 (mz_fc mz_i_wsX7_init_52 (mz_fc mz_i_wsX7_init_53 (mz_fc mz_i_wsX7_init_54 (mz_fc mz_i_wsX7_init_55 (mz_fc mz_i_wsX7_init_56 (mz_fc mz_i_wsX7_init_57 (mz_fc mz_i_wsX7_init_58 (mz_fc mz_i_wsX7_init_59 (mz_fc mz_i_wsX7_init_60 (mz_fc mz_i_wsX7_init_46 (mz_fc mz_i_wsX7_init_61 (mz_fc mz_i_wsX7_init_62 mz_fn))))))))))))))) (mz_f_wsX7_init_wsX00)) (mz_f_wsX7_init_wsX50))) (by decide +kernel)
set_option maxRecDepth 20000 in
theorem gX7_init_X5_init_n35 : GoodIn wsX7_init (wsX5_init) := ggX7_init_X5_init
theorem mz_i_wsX7_init_64 : (.code yX3_init cX3_init 1 none : Cond) ∈ wsX7_init := mz_mt (mz_ml (mz_ml (mz_ml (mz_ml (mz_ml (mz_ml (mz_ml (mz_ml (mz_mr (mz_mr (mz_mt (mz_mt (mz_mt (mz_mt (mz_mt (mz_mt (mz_mt (mz_mt (mz_mt (mz_mt (mz_mt (mz_mt (mz_mt (mz_mt (mz_mt mz_mh)))))))))))))))))))))))))
theorem mz_i_wsX7_init_67 : (.fieldLink RX3 15 "MadeItSo$LeastHeaps" "many" "I" : Cond) ∈ wsX7_init := mz_mt (mz_ml (mz_ml (mz_ml (mz_ml (mz_ml (mz_ml (mz_ml (mz_ml (mz_mr (mz_mr (mz_mt (mz_mt (mz_mt (mz_mt (mz_mt (mz_mt (mz_mt (mz_mt (mz_mt (mz_mt (mz_mt (mz_mt (mz_mt (mz_mt (mz_mt (mz_mt (mz_mt (mz_mt mz_mh))))))))))))))))))))))))))))
theorem mz_i_wsX7_init_66 : (.fieldLink RX3 9 "MadeItSo$LeastHeaps" "found" "[I" : Cond) ∈ wsX7_init := mz_mt (mz_ml (mz_ml (mz_ml (mz_ml (mz_ml (mz_ml (mz_ml (mz_ml (mz_mr (mz_mr (mz_mt (mz_mt (mz_mt (mz_mt (mz_mt (mz_mt (mz_mt (mz_mt (mz_mt (mz_mt (mz_mt (mz_mt (mz_mt (mz_mt (mz_mt (mz_mt (mz_mt mz_mh)))))))))))))))))))))))))))
theorem mz_i_wsX7_init_65 : (.methodLink RX3 3 objectInit : Cond) ∈ wsX7_init := mz_mt (mz_ml (mz_ml (mz_ml (mz_ml (mz_ml (mz_ml (mz_ml (mz_ml (mz_mr (mz_mr (mz_mt (mz_mt (mz_mt (mz_mt (mz_mt (mz_mt (mz_mt (mz_mt (mz_mt (mz_mt (mz_mt (mz_mt (mz_mt (mz_mt (mz_mt (mz_mt mz_mh))))))))))))))))))))))))))
theorem mz_f_wsX7_init_wsX30 : ∀ w ∈ wsX30, w ∈ wsX7_init := fun _ h => mz_mt (mz_ml (mz_ml (mz_mr h)))
set_option maxRecDepth 20000 in
theorem ggX7_init_X3_init : GoodIn wsX7_init wsX3_init := goodIn_sub (mz_fc mz_i_wsX7_init_64 (mz_fa (mz_fc mz_i_wsX7_init_65 (mz_fc mz_i_wsX7_init_2 (mz_fc mz_i_wsX7_init_3 (mz_fc mz_i_wsX7_init_35 (mz_fc mz_i_wsX7_init_66 (mz_fc mz_i_wsX7_init_67 mz_fn)))))) (mz_f_wsX7_init_wsX30))) (by decide +kernel)
set_option maxRecDepth 20000 in
theorem gX7_init_X3_init_n42 : GoodIn wsX7_init (wsX3_init) := ggX7_init_X3_init
theorem mz_i_wsX7_init_69 : (.code yX4_init cX4_init 1 none : Cond) ∈ wsX7_init := mz_mt (mz_ml (mz_ml (mz_ml (mz_ml (mz_ml (mz_ml (mz_ml (mz_ml (mz_mr (mz_mr (mz_mt (mz_mt (mz_mt (mz_mt (mz_mt (mz_mt (mz_mt (mz_mt (mz_mt (mz_mt (mz_mt (mz_mt (mz_mt (mz_mt (mz_mt (mz_mt (mz_mt (mz_mt (mz_mt (mz_mt mz_mh))))))))))))))))))))))))))))))
theorem mz_i_wsX7_init_71 : (.fieldLink RX4 9 "MadeItSo$Lookalikes" "waysOf" "[I" : Cond) ∈ wsX7_init := mz_mt (mz_ml (mz_ml (mz_ml (mz_ml (mz_ml (mz_ml (mz_ml (mz_ml (mz_mr (mz_mr (mz_mt (mz_mt (mz_mt (mz_mt (mz_mt (mz_mt (mz_mt (mz_mt (mz_mt (mz_mt (mz_mt (mz_mt (mz_mt (mz_mt (mz_mt (mz_mt (mz_mt (mz_mt (mz_mt (mz_mt (mz_mt (mz_mt mz_mh))))))))))))))))))))))))))))))))
theorem mz_i_wsX7_init_70 : (.methodLink RX4 3 objectInit : Cond) ∈ wsX7_init := mz_mt (mz_ml (mz_ml (mz_ml (mz_ml (mz_ml (mz_ml (mz_ml (mz_ml (mz_mr (mz_mr (mz_mt (mz_mt (mz_mt (mz_mt (mz_mt (mz_mt (mz_mt (mz_mt (mz_mt (mz_mt (mz_mt (mz_mt (mz_mt (mz_mt (mz_mt (mz_mt (mz_mt (mz_mt (mz_mt (mz_mt (mz_mt mz_mh)))))))))))))))))))))))))))))))
theorem mz_f_wsX7_init_wsX40 : ∀ w ∈ wsX40, w ∈ wsX7_init := fun _ h => mz_mt (mz_ml (mz_mr h))
set_option maxRecDepth 20000 in
theorem ggX7_init_X4_init : GoodIn wsX7_init wsX4_init := goodIn_sub (mz_fc mz_i_wsX7_init_69 (mz_fa (mz_fc mz_i_wsX7_init_70 (mz_fc mz_i_wsX7_init_2 (mz_fc mz_i_wsX7_init_3 (mz_fc mz_i_wsX7_init_35 (mz_fc mz_i_wsX7_init_71 mz_fn))))) (mz_f_wsX7_init_wsX40))) (by decide +kernel)
set_option maxRecDepth 20000 in
theorem gX7_init_X4_init_n49 : GoodIn wsX7_init (wsX4_init) := ggX7_init_X4_init
theorem dX7_init_0 : decode cX7_init 0 = .ok (.aload_n 0, 1) := by decide +kernel
theorem dX7_init_1 : decode cX7_init 1 = .ok (.invokespecial 3, 3) := by decide +kernel
theorem dX7_init_4 : decode cX7_init 4 = .ok (.aload_n 0, 1) := by decide +kernel
theorem dX7_init_5 : decode cX7_init 5 = .ok (.new 9, 3) := by decide +kernel
theorem dX7_init_8 : decode cX7_init 8 = .ok (.dup, 1) := by decide +kernel
theorem dX7_init_9 : decode cX7_init 9 = .ok (.invokespecial 11, 3) := by decide +kernel
theorem dX7_init_12 : decode cX7_init 12 = .ok (.putfield 12, 3) := by decide +kernel
theorem dX7_init_15 : decode cX7_init 15 = .ok (.aload_n 0, 1) := by decide +kernel
theorem dX7_init_16 : decode cX7_init 16 = .ok (.new 9, 3) := by decide +kernel
theorem dX7_init_19 : decode cX7_init 19 = .ok (.dup, 1) := by decide +kernel
theorem dX7_init_20 : decode cX7_init 20 = .ok (.invokespecial 11, 3) := by decide +kernel
theorem dX7_init_23 : decode cX7_init 23 = .ok (.putfield 16, 3) := by decide +kernel
theorem dX7_init_26 : decode cX7_init 26 = .ok (.aload_n 0, 1) := by decide +kernel
theorem dX7_init_27 : decode cX7_init 27 = .ok (.new 19, 3) := by decide +kernel
theorem dX7_init_30 : decode cX7_init 30 = .ok (.dup, 1) := by decide +kernel
theorem dX7_init_31 : decode cX7_init 31 = .ok (.invokespecial 21, 3) := by decide +kernel
theorem dX7_init_34 : decode cX7_init 34 = .ok (.putfield 22, 3) := by decide +kernel
theorem dX7_init_37 : decode cX7_init 37 = .ok (.aload_n 0, 1) := by decide +kernel
theorem dX7_init_38 : decode cX7_init 38 = .ok (.new 26, 3) := by decide +kernel
theorem dX7_init_41 : decode cX7_init 41 = .ok (.dup, 1) := by decide +kernel
theorem dX7_init_42 : decode cX7_init 42 = .ok (.invokespecial 28, 3) := by decide +kernel
theorem dX7_init_45 : decode cX7_init 45 = .ok (.putfield 29, 3) := by decide +kernel
theorem dX7_init_48 : decode cX7_init 48 = .ok (.aload_n 0, 1) := by decide +kernel
theorem dX7_init_49 : decode cX7_init 49 = .ok (.new 33, 3) := by decide +kernel
theorem dX7_init_52 : decode cX7_init 52 = .ok (.dup, 1) := by decide +kernel
theorem dX7_init_53 : decode cX7_init 53 = .ok (.invokespecial 35, 3) := by decide +kernel
theorem dX7_init_56 : decode cX7_init 56 = .ok (.putfield 36, 3) := by decide +kernel
theorem dX7_init_59 : decode cX7_init 59 = .ok (.aload_n 0, 1) := by decide +kernel
theorem dX7_init_60 : decode cX7_init 60 = .ok (.new 40, 3) := by decide +kernel
theorem dX7_init_63 : decode cX7_init 63 = .ok (.dup, 1) := by decide +kernel
theorem dX7_init_64 : decode cX7_init 64 = .ok (.invokespecial 42, 3) := by decide +kernel
theorem dX7_init_67 : decode cX7_init 67 = .ok (.putfield 43, 3) := by decide +kernel
theorem dX7_init_70 : decode cX7_init 70 = .ok (.aload_n 0, 1) := by decide +kernel
theorem dX7_init_71 : decode cX7_init 71 = .ok (.new 47, 3) := by decide +kernel
theorem dX7_init_74 : decode cX7_init 74 = .ok (.dup, 1) := by decide +kernel
theorem dX7_init_75 : decode cX7_init 75 = .ok (.invokespecial 49, 3) := by decide +kernel
theorem dX7_init_78 : decode cX7_init 78 = .ok (.putfield 50, 3) := by decide +kernel
theorem dX7_init_81 : decode cX7_init 81 = .ok (.aload_n 0, 1) := by decide +kernel
theorem dX7_init_82 : decode cX7_init 82 = .ok (.iconst 0, 1) := by decide +kernel
theorem dX7_init_83 : decode cX7_init 83 = .ok (.putfield 54, 3) := by decide +kernel
theorem dX7_init_86 : decode cX7_init 86 = .ok (.aload_n 0, 1) := by decide +kernel
theorem dX7_init_87 : decode cX7_init 87 = .ok (.lconst 0, 1) := by decide +kernel
theorem dX7_init_88 : decode cX7_init 88 = .ok (.putfield 58, 3) := by decide +kernel
theorem dX7_init_91 : decode cX7_init 91 = .ok (.aload_n 0, 1) := by decide +kernel
theorem dX7_init_92 : decode cX7_init 92 = .ok (.lconst 1, 1) := by decide +kernel
theorem dX7_init_93 : decode cX7_init 93 = .ok (.putfield 62, 3) := by decide +kernel
theorem dX7_init_96 : decode cX7_init 96 = .ok (.return_, 1) := by decide +kernel
theorem dX8_init_0 : decode cX8_init 0 = .ok (.aload_n 0, 1) := by decide +kernel
theorem dX8_init_1 : decode cX8_init 1 = .ok (.invokespecial 3, 3) := by decide +kernel
theorem dX8_init_4 : decode cX8_init 4 = .ok (.aload_n 0, 1) := by decide +kernel
theorem dX8_init_5 : decode cX8_init 5 = .ok (.bipush 8, 2) := by decide +kernel
theorem dX8_init_7 : decode cX8_init 7 = .ok (.newarray .boolean, 2) := by decide +kernel
theorem dX8_init_9 : decode cX8_init 9 = .ok (.putfield 9, 3) := by decide +kernel
theorem dX8_init_12 : decode cX8_init 12 = .ok (.aload_n 0, 1) := by decide +kernel
theorem dX8_init_13 : decode cX8_init 13 = .ok (.bipush 8, 2) := by decide +kernel
theorem dX8_init_15 : decode cX8_init 15 = .ok (.newarray .int, 2) := by decide +kernel
theorem dX8_init_17 : decode cX8_init 17 = .ok (.putfield 13, 3) := by decide +kernel
theorem dX8_init_20 : decode cX8_init 20 = .ok (.aload_n 0, 1) := by decide +kernel
theorem dX8_init_21 : decode cX8_init 21 = .ok (.sipush 1024, 3) := by decide +kernel
theorem dX8_init_24 : decode cX8_init 24 = .ok (.newarray .int, 2) := by decide +kernel
theorem dX8_init_26 : decode cX8_init 26 = .ok (.putfield 17, 3) := by decide +kernel
theorem dX8_init_29 : decode cX8_init 29 = .ok (.aload_n 0, 1) := by decide +kernel
theorem dX8_init_30 : decode cX8_init 30 = .ok (.lconst 1, 1) := by decide +kernel
theorem dX8_init_31 : decode cX8_init 31 = .ok (.putfield 20, 3) := by decide +kernel
theorem dX8_init_34 : decode cX8_init 34 = .ok (.aload_n 0, 1) := by decide +kernel
theorem dX8_init_35 : decode cX8_init 35 = .ok (.bipush 8, 2) := by decide +kernel
theorem dX8_init_37 : decode cX8_init 37 = .ok (.newarray .int, 2) := by decide +kernel
theorem dX8_init_39 : decode cX8_init 39 = .ok (.putfield 24, 3) := by decide +kernel
theorem dX8_init_42 : decode cX8_init 42 = .ok (.aload_n 0, 1) := by decide +kernel
theorem dX8_init_43 : decode cX8_init 43 = .ok (.bipush 9, 2) := by decide +kernel
theorem dX8_init_45 : decode cX8_init 45 = .ok (.newarray .int, 2) := by decide +kernel
theorem dX8_init_47 : decode cX8_init 47 = .ok (.putfield 27, 3) := by decide +kernel
theorem dX8_init_50 : decode cX8_init 50 = .ok (.aload_n 0, 1) := by decide +kernel
theorem dX8_init_51 : decode cX8_init 51 = .ok (.sipush 256, 3) := by decide +kernel
theorem dX8_init_54 : decode cX8_init 54 = .ok (.newarray .boolean, 2) := by decide +kernel
theorem dX8_init_56 : decode cX8_init 56 = .ok (.putfield 30, 3) := by decide +kernel
theorem dX8_init_59 : decode cX8_init 59 = .ok (.aload_n 0, 1) := by decide +kernel
theorem dX8_init_60 : decode cX8_init 60 = .ok (.sipush 200, 3) := by decide +kernel
theorem dX8_init_63 : decode cX8_init 63 = .ok (.newarray .long, 2) := by decide +kernel
theorem dX8_init_65 : decode cX8_init 65 = .ok (.putfield 33, 3) := by decide +kernel
theorem dX8_init_68 : decode cX8_init 68 = .ok (.aload_n 0, 1) := by decide +kernel
theorem dX8_init_69 : decode cX8_init 69 = .ok (.sipush 200, 3) := by decide +kernel
theorem dX8_init_72 : decode cX8_init 72 = .ok (.newarray .long, 2) := by decide +kernel
theorem dX8_init_74 : decode cX8_init 74 = .ok (.putfield 37, 3) := by decide +kernel
theorem dX8_init_77 : decode cX8_init 77 = .ok (.aload_n 0, 1) := by decide +kernel
theorem dX8_init_78 : decode cX8_init 78 = .ok (.sipush 200, 3) := by decide +kernel
theorem dX8_init_81 : decode cX8_init 81 = .ok (.newarray .long, 2) := by decide +kernel
theorem dX8_init_83 : decode cX8_init 83 = .ok (.putfield 40, 3) := by decide +kernel
theorem dX8_init_86 : decode cX8_init 86 = .ok (.aload_n 0, 1) := by decide +kernel
theorem dX8_init_87 : decode cX8_init 87 = .ok (.bipush 8, 2) := by decide +kernel
theorem dX8_init_89 : decode cX8_init 89 = .ok (.newarray .int, 2) := by decide +kernel
theorem dX8_init_91 : decode cX8_init 91 = .ok (.putfield 43, 3) := by decide +kernel
theorem dX8_init_94 : decode cX8_init 94 = .ok (.aload_n 0, 1) := by decide +kernel
theorem dX8_init_95 : decode cX8_init 95 = .ok (.bipush 9, 2) := by decide +kernel
theorem dX8_init_97 : decode cX8_init 97 = .ok (.newarray .int, 2) := by decide +kernel
theorem dX8_init_99 : decode cX8_init 99 = .ok (.putfield 46, 3) := by decide +kernel
theorem dX8_init_102 : decode cX8_init 102 = .ok (.aload_n 0, 1) := by decide +kernel
theorem dX8_init_103 : decode cX8_init 103 = .ok (.bipush 8, 2) := by decide +kernel
theorem dX8_init_105 : decode cX8_init 105 = .ok (.newarray .int, 2) := by decide +kernel
theorem dX8_init_107 : decode cX8_init 107 = .ok (.putfield 49, 3) := by decide +kernel
theorem dX8_init_110 : decode cX8_init 110 = .ok (.aload_n 0, 1) := by decide +kernel
theorem dX8_init_111 : decode cX8_init 111 = .ok (.bipush 64, 2) := by decide +kernel
theorem dX8_init_113 : decode cX8_init 113 = .ok (.newarray .boolean, 2) := by decide +kernel
theorem dX8_init_115 : decode cX8_init 115 = .ok (.putfield 52, 3) := by decide +kernel
theorem dX8_init_118 : decode cX8_init 118 = .ok (.aload_n 0, 1) := by decide +kernel
theorem dX8_init_119 : decode cX8_init 119 = .ok (.bipush 8, 2) := by decide +kernel
theorem dX8_init_121 : decode cX8_init 121 = .ok (.newarray .int, 2) := by decide +kernel
theorem dX8_init_123 : decode cX8_init 123 = .ok (.putfield 55, 3) := by decide +kernel
theorem dX8_init_126 : decode cX8_init 126 = .ok (.return_, 1) := by decide +kernel
