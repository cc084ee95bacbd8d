/-! printed rows of NAMES that the contracts use -/
theorem mz_mh {a : Cond} {l : List Cond} : a ∈ a :: l := List.Mem.head _
theorem mz_mt {a b : Cond} {l : List Cond} (h : a ∈ l) : a ∈ b :: l := List.Mem.tail _ h
theorem mz_ml {a : Cond} {l r : List Cond} (h : a ∈ l) : a ∈ l ++ r := List.mem_append.mpr (Or.inl h)
theorem mz_mr {a : Cond} {l r : List Cond} (h : a ∈ r) : a ∈ l ++ r := List.mem_append.mpr (Or.inr h)
theorem mz_fc {big : List Cond} {a : Cond} {l : List Cond} (h : a ∈ big) (t : ∀ w ∈ l, w ∈ big) : ∀ w ∈ a :: l, w ∈ big := fun w q => (List.mem_cons.mp q).elim (fun e => by rw [e]; exact h) (t w)
theorem mz_fa {big a b : List Cond} (h : ∀ w ∈ a, w ∈ big) (t : ∀ w ∈ b, w ∈ big) : ∀ w ∈ a ++ b, w ∈ big := fun w q => (List.mem_append.mp q).elim (h w) (t w)
theorem mz_fn {big : List Cond} : ∀ w ∈ ([] : List Cond), w ∈ big := fun _ h => absurd h List.not_mem_nil
theorem dX1_blank_0 : decode cX1_blank 0 = .ok (.iload_n 1, 1) := by decide +kernel
theorem dX1_blank_1 : decode cX1_blank 1 = .ok (.ifCond .lt 38, 3) := by decide +kernel
theorem dX1_blank_4 : decode cX1_blank 4 = .ok (.iload_n 1, 1) := by decide +kernel
theorem dX1_blank_5 : decode cX1_blank 5 = .ok (.bipush 8, 2) := by decide +kernel
theorem dX1_blank_7 : decode cX1_blank 7 = .ok (.if_icmp .ge 32, 3) := by decide +kernel
theorem dX1_blank_10 : decode cX1_blank 10 = .ok (.iconst 0, 1) := by decide +kernel
theorem dX1_blank_11 : decode cX1_blank 11 = .ok (.istore_n 2, 1) := by decide +kernel
theorem dX1_blank_12 : decode cX1_blank 12 = .ok (.iload_n 2, 1) := by decide +kernel
theorem dX1_blank_13 : decode cX1_blank 13 = .ok (.sipush 128, 3) := by decide +kernel
theorem dX1_blank_16 : decode cX1_blank 16 = .ok (.if_icmp .ge 23, 3) := by decide +kernel
theorem dX1_blank_19 : decode cX1_blank 19 = .ok (.aload_n 0, 1) := by decide +kernel
theorem dX1_blank_20 : decode cX1_blank 20 = .ok (.getfield 9, 3) := by decide +kernel
theorem dX1_blank_23 : decode cX1_blank 23 = .ok (.iload_n 1, 1) := by decide +kernel
theorem dX1_blank_24 : decode cX1_blank 24 = .ok (.sipush 128, 3) := by decide +kernel
theorem dX1_blank_27 : decode cX1_blank 27 = .ok (.imul, 1) := by decide +kernel
theorem dX1_blank_28 : decode cX1_blank 28 = .ok (.iload_n 2, 1) := by decide +kernel
theorem dX1_blank_29 : decode cX1_blank 29 = .ok (.iadd, 1) := by decide +kernel
theorem dX1_blank_30 : decode cX1_blank 30 = .ok (.bipush 50, 2) := by decide +kernel
theorem dX1_blank_32 : decode cX1_blank 32 = .ok (.iastore, 1) := by decide +kernel
theorem dX1_blank_33 : decode cX1_blank 33 = .ok (.iinc 2 1, 3) := by decide +kernel
theorem dX1_blank_36 : decode cX1_blank 36 = .ok (.goto (-24), 3) := by decide +kernel
theorem dX1_blank_39 : decode cX1_blank 39 = .ok (.return_, 1) := by decide +kernel
theorem mz_i_wsX1_write_5 : (.code yX1_isPlace cX1_isPlace 2 (some .boolean) : Cond) ∈ wsX1_write := mz_mt (mz_ml (mz_mt (mz_mt (mz_mt (mz_mt mz_mh)))))
set_option maxRecDepth 20000 in
theorem ggX1_write_X1_isPlace : GoodIn wsX1_write wsX1_isPlace := goodIn_sub (mz_fc mz_i_wsX1_write_5 (mz_fn)) (by decide +kernel)
theorem mz_i_wsX1_write_4 : (.initialized RX1 : Cond) ∈ wsX1_write := mz_mt (mz_ml (mz_mt (mz_mt (mz_mt mz_mh))))
theorem mz_i_wsX1_write_3 : (.static yX1_isPlace : Cond) ∈ wsX1_write := mz_mt (mz_ml (mz_mt (mz_mt mz_mh)))
theorem mz_i_wsX1_write_2 : (.methodLink RX1 15 yX1_isPlace : Cond) ∈ wsX1_write := mz_mt (mz_ml (mz_mt mz_mh))
set_option maxRecDepth 20000 in
theorem gX1_write_X1_isPlace : GoodIn wsX1_write (va_wsS RX1 15 yX1_isPlace wsX1_isPlace) := goodIn_app (goodIn_sub (mz_fc mz_i_wsX1_write_2 (mz_fc mz_i_wsX1_write_3 (mz_fc mz_i_wsX1_write_4 mz_fn))) (by decide +kernel)) ggX1_write_X1_isPlace
theorem dX1_write_0 : decode cX1_write 0 = .ok (.iload_n 1, 1) := by decide +kernel
theorem dX1_write_1 : decode cX1_write 1 = .ok (.iload_n 2, 1) := by decide +kernel
theorem dX1_write_2 : decode cX1_write 2 = .ok (.invokestatic 15, 3) := by decide +kernel
theorem dX1_write_5 : decode cX1_write 5 = .ok (.ifCond .eq 16, 3) := by decide +kernel
theorem dX1_write_8 : decode cX1_write 8 = .ok (.aload_n 0, 1) := by decide +kernel
theorem dX1_write_9 : decode cX1_write 9 = .ok (.getfield 9, 3) := by decide +kernel
theorem dX1_write_12 : decode cX1_write 12 = .ok (.iload_n 1, 1) := by decide +kernel
theorem dX1_write_13 : decode cX1_write 13 = .ok (.sipush 128, 3) := by decide +kernel
theorem dX1_write_16 : decode cX1_write 16 = .ok (.imul, 1) := by decide +kernel
theorem dX1_write_17 : decode cX1_write 17 = .ok (.iload_n 2, 1) := by decide +kernel
theorem dX1_write_18 : decode cX1_write 18 = .ok (.iadd, 1) := by decide +kernel
theorem dX1_write_19 : decode cX1_write 19 = .ok (.iload_n 3, 1) := by decide +kernel
theorem dX1_write_20 : decode cX1_write 20 = .ok (.iastore, 1) := by decide +kernel
theorem dX1_write_21 : decode cX1_write 21 = .ok (.return_, 1) := by decide +kernel
theorem mz_i_wsX1_read_5 : (.code yX1_isPlace cX1_isPlace 2 (some .boolean) : Cond) ∈ wsX1_read := mz_mt (mz_ml (mz_mt (mz_mt (mz_mt (mz_mt mz_mh)))))
set_option maxRecDepth 20000 in
theorem ggX1_read_X1_isPlace : GoodIn wsX1_read wsX1_isPlace := goodIn_sub (mz_fc mz_i_wsX1_read_5 (mz_fn)) (by decide +kernel)
theorem mz_i_wsX1_read_4 : (.initialized RX1 : Cond) ∈ wsX1_read := mz_mt (mz_ml (mz_mt (mz_mt (mz_mt mz_mh))))
theorem mz_i_wsX1_read_3 : (.static yX1_isPlace : Cond) ∈ wsX1_read := mz_mt (mz_ml (mz_mt (mz_mt mz_mh)))
theorem mz_i_wsX1_read_2 : (.methodLink RX1 15 yX1_isPlace : Cond) ∈ wsX1_read := mz_mt (mz_ml (mz_mt mz_mh))
set_option maxRecDepth 20000 in
theorem gX1_read_X1_isPlace : GoodIn wsX1_read (va_wsS RX1 15 yX1_isPlace wsX1_isPlace) := goodIn_app (goodIn_sub (mz_fc mz_i_wsX1_read_2 (mz_fc mz_i_wsX1_read_3 (mz_fc mz_i_wsX1_read_4 mz_fn))) (by decide +kernel)) ggX1_read_X1_isPlace
theorem dX1_read_0 : decode cX1_read 0 = .ok (.iload_n 1, 1) := by decide +kernel
theorem dX1_read_1 : decode cX1_read 1 = .ok (.iload_n 2, 1) := by decide +kernel
theorem dX1_read_2 : decode cX1_read 2 = .ok (.invokestatic 15, 3) := by decide +kernel
theorem dX1_read_5 : decode cX1_read 5 = .ok (.ifCond .eq 18, 3) := by decide +kernel
theorem dX1_read_8 : decode cX1_read 8 = .ok (.aload_n 0, 1) := by decide +kernel
theorem dX1_read_9 : decode cX1_read 9 = .ok (.getfield 9, 3) := by decide +kernel
theorem dX1_read_12 : decode cX1_read 12 = .ok (.iload_n 1, 1) := by decide +kernel
theorem dX1_read_13 : decode cX1_read 13 = .ok (.sipush 128, 3) := by decide +kernel
theorem dX1_read_16 : decode cX1_read 16 = .ok (.imul, 1) := by decide +kernel
theorem dX1_read_17 : decode cX1_read 17 = .ok (.iload_n 2, 1) := by decide +kernel
theorem dX1_read_18 : decode cX1_read 18 = .ok (.iadd, 1) := by decide +kernel
theorem dX1_read_19 : decode cX1_read 19 = .ok (.iaload, 1) := by decide +kernel
theorem dX1_read_20 : decode cX1_read 20 = .ok (.goto 4, 3) := by decide +kernel
theorem dX1_read_23 : decode cX1_read 23 = .ok (.iconst (-1), 1) := by decide +kernel
theorem dX1_read_24 : decode cX1_read 24 = .ok (.ireturn, 1) := by decide +kernel
theorem mz_i_wsX1_partsUnder_3 : (.code yX7_heapOf cX7_heapOf 1 (some .int) : Cond) ∈ wsX1_partsUnder := mz_mt (mz_ml (mz_ml (mz_ml (mz_mt (mz_mt mz_mh)))))
set_option maxRecDepth 20000 in
theorem ggX1_partsUnder_X7_heapOf : GoodIn wsX1_partsUnder wsX7_heapOf := goodIn_sub (mz_fc mz_i_wsX1_partsUnder_3 (mz_fn)) (by decide +kernel)
set_option maxRecDepth 20000 in
theorem gX1_partsUnder_X7_heapOf_n19 : GoodIn wsX1_partsUnder (wsX7_heapOf) := ggX1_partsUnder_X7_heapOf
theorem mz_i_wsX1_partsUnder_5 : (.code yX7_inHeap cX7_inHeap 2 (some .boolean) : Cond) ∈ wsX1_partsUnder := mz_mt (mz_ml (mz_ml (mz_ml (mz_mt (mz_mt (mz_mt (mz_mt mz_mh)))))))
set_option maxRecDepth 20000 in
theorem ggX1_partsUnder_X7_inHeap : GoodIn wsX1_partsUnder wsX7_inHeap := goodIn_sub (mz_fc mz_i_wsX1_partsUnder_5 (mz_fn)) (by decide +kernel)
set_option maxRecDepth 20000 in
theorem gX1_partsUnder_X7_inHeap_n23 : GoodIn wsX1_partsUnder (wsX7_inHeap) := ggX1_partsUnder_X7_inHeap
theorem mz_i_wsX1_partsUnder_7 : (.code yX7_onesOf cX7_onesOf 1 (some .int) : Cond) ∈ wsX1_partsUnder := mz_mt (mz_ml (mz_ml (mz_ml (mz_mt (mz_mt (mz_mt (mz_mt (mz_mt (mz_mt mz_mh)))))))))
set_option maxRecDepth 20000 in
theorem ggX1_partsUnder_X7_onesOf : GoodIn wsX1_partsUnder wsX7_onesOf := goodIn_sub (mz_fc mz_i_wsX1_partsUnder_7 (mz_fn)) (by decide +kernel)
set_option maxRecDepth 20000 in
theorem gX1_partsUnder_X7_onesOf_n26 : GoodIn wsX1_partsUnder (wsX7_onesOf) := ggX1_partsUnder_X7_onesOf
theorem mz_i_wsX1_partsUnder_12 : (.code yX2_parentsOf cX2_parentsOf 2 (some .int) : Cond) ∈ wsX1_partsUnder := mz_mt (mz_ml (mz_ml (mz_ml (mz_mt (mz_mt (mz_mt (mz_mt (mz_mt (mz_mt (mz_mt (mz_mt (mz_mt (mz_mt (mz_mt mz_mh))))))))))))))
theorem mz_i_wsX1_partsUnder_18 : (.fieldLink RX2 18 "MadeItSo$Drawing" "things" "I" : Cond) ∈ wsX1_partsUnder := mz_mt (mz_ml (mz_ml (mz_ml (mz_mt (mz_mt (mz_mt (mz_mt (mz_mt (mz_mt (mz_mt (mz_mt (mz_mt (mz_mt (mz_mt (mz_mt (mz_mt (mz_mt (mz_mt (mz_mt (mz_mt mz_mh))))))))))))))))))))
theorem mz_i_wsX1_partsUnder_17 : (.code yX2_has cX2_has 2 (some .boolean) : Cond) ∈ wsX1_partsUnder := mz_mt (mz_ml (mz_ml (mz_ml (mz_mt (mz_mt (mz_mt (mz_mt (mz_mt (mz_mt (mz_mt (mz_mt (mz_mt (mz_mt (mz_mt (mz_mt (mz_mt (mz_mt (mz_mt (mz_mt mz_mh)))))))))))))))))))
theorem mz_i_wsX1_partsUnder_11 : (.initialized RX2 : Cond) ∈ wsX1_partsUnder := mz_mt (mz_ml (mz_ml (mz_ml (mz_mt (mz_mt (mz_mt (mz_mt (mz_mt (mz_mt (mz_mt (mz_mt (mz_mt (mz_mt mz_mh)))))))))))))
theorem mz_i_wsX1_partsUnder_16 : (.selects RX2 yX2_has yX2_has : Cond) ∈ wsX1_partsUnder := mz_mt (mz_ml (mz_ml (mz_ml (mz_mt (mz_mt (mz_mt (mz_mt (mz_mt (mz_mt (mz_mt (mz_mt (mz_mt (mz_mt (mz_mt (mz_mt (mz_mt (mz_mt (mz_mt mz_mh))))))))))))))))))
theorem mz_i_wsX1_partsUnder_15 : (.instanceMethod yX2_has : Cond) ∈ wsX1_partsUnder := mz_mt (mz_ml (mz_ml (mz_ml (mz_mt (mz_mt (mz_mt (mz_mt (mz_mt (mz_mt (mz_mt (mz_mt (mz_mt (mz_mt (mz_mt (mz_mt (mz_mt (mz_mt mz_mh)))))))))))))))))
theorem mz_i_wsX1_partsUnder_14 : (.methodLink RX2 22 yX2_has : Cond) ∈ wsX1_partsUnder := mz_mt (mz_ml (mz_ml (mz_ml (mz_mt (mz_mt (mz_mt (mz_mt (mz_mt (mz_mt (mz_mt (mz_mt (mz_mt (mz_mt (mz_mt (mz_mt (mz_mt mz_mh))))))))))))))))
theorem mz_i_wsX1_partsUnder_13 : (.fieldLink RX2 9 "MadeItSo$Drawing" "parents" "[I" : Cond) ∈ wsX1_partsUnder := mz_mt (mz_ml (mz_ml (mz_ml (mz_mt (mz_mt (mz_mt (mz_mt (mz_mt (mz_mt (mz_mt (mz_mt (mz_mt (mz_mt (mz_mt (mz_mt mz_mh)))))))))))))))
theorem mz_f_wsX1_partsUnder_wsX20 : ∀ w ∈ wsX20, w ∈ wsX1_partsUnder := fun _ h => mz_mt (mz_ml (mz_mr h))
set_option maxRecDepth 20000 in
theorem ggX1_partsUnder_X2_parentsOf : GoodIn wsX1_partsUnder wsX2_parentsOf := goodIn_sub (mz_fc mz_i_wsX1_partsUnder_12 (mz_fa (mz_fc mz_i_wsX1_partsUnder_13 (mz_fc mz_i_wsX1_partsUnder_14 (mz_fc mz_i_wsX1_partsUnder_15 (mz_fc mz_i_wsX1_partsUnder_16 (mz_fc mz_i_wsX1_partsUnder_11 (mz_fc mz_i_wsX1_partsUnder_17 (mz_fc mz_i_wsX1_partsUnder_18 mz_fn))))))) (mz_f_wsX1_partsUnder_wsX20))) (by decide +kernel)
theorem mz_i_wsX1_partsUnder_10 : (.selects RX2 yX2_parentsOf yX2_parentsOf : Cond) ∈ wsX1_partsUnder := mz_mt (mz_ml (mz_ml (mz_ml (mz_mt (mz_mt (mz_mt (mz_mt (mz_mt (mz_mt (mz_mt (mz_mt (mz_mt mz_mh))))))))))))
theorem mz_i_wsX1_partsUnder_9 : (.instanceMethod yX2_parentsOf : Cond) ∈ wsX1_partsUnder := mz_mt (mz_ml (mz_ml (mz_ml (mz_mt (mz_mt (mz_mt (mz_mt (mz_mt (mz_mt (mz_mt (mz_mt mz_mh)))))))))))
theorem mz_i_wsX1_partsUnder_8 : (.methodLink RX1 29 yX2_parentsOf : Cond) ∈ wsX1_partsUnder := mz_mt (mz_ml (mz_ml (mz_ml (mz_mt (mz_mt (mz_mt (mz_mt (mz_mt (mz_mt (mz_mt mz_mh))))))))))
set_option maxRecDepth 20000 in
theorem gX1_partsUnder_X2_parentsOf : GoodIn wsX1_partsUnder (wsV RX1 29 RX2 yX2_parentsOf wsX2_parentsOf) := goodIn_app (goodIn_sub (mz_fc mz_i_wsX1_partsUnder_8 (mz_fc mz_i_wsX1_partsUnder_9 (mz_fc mz_i_wsX1_partsUnder_10 (mz_fc mz_i_wsX1_partsUnder_11 mz_fn)))) (by decide +kernel)) ggX1_partsUnder_X2_parentsOf
theorem mz_i_wsX1_partsUnder_22 : (.code yX1_rowOf cX1_rowOf 5 (some .int) : Cond) ∈ wsX1_partsUnder := mz_mt (mz_ml (mz_ml (mz_ml (mz_mt (mz_mt (mz_mt (mz_mt (mz_mt (mz_mt (mz_mt (mz_mt (mz_mt (mz_mt (mz_mt (mz_mt (mz_mt (mz_mt (mz_mt (mz_mt (mz_mt (mz_mt (mz_mt (mz_mt (mz_mt mz_mh))))))))))))))))))))))))
theorem mz_i_wsX1_partsUnder_2 : (.initialized RX7 : Cond) ∈ wsX1_partsUnder := mz_mt (mz_ml (mz_ml (mz_ml (mz_mt mz_mh))))
theorem mz_i_wsX1_partsUnder_4 : (.static yX7_inHeap : Cond) ∈ wsX1_partsUnder := mz_mt (mz_ml (mz_ml (mz_ml (mz_mt (mz_mt (mz_mt mz_mh))))))
set_option maxRecDepth 20000 in
theorem ggX1_partsUnder_X1_rowOf : GoodIn wsX1_partsUnder wsX1_rowOf := goodIn_sub (mz_fc mz_i_wsX1_partsUnder_22 (mz_fc mz_i_wsX1_partsUnder_4 (mz_fc mz_i_wsX1_partsUnder_2 (mz_fc mz_i_wsX1_partsUnder_5 mz_fn)))) (by decide +kernel)
theorem mz_i_wsX1_partsUnder_21 : (.initialized RX1 : Cond) ∈ wsX1_partsUnder := mz_mt (mz_ml (mz_ml (mz_ml (mz_mt (mz_mt (mz_mt (mz_mt (mz_mt (mz_mt (mz_mt (mz_mt (mz_mt (mz_mt (mz_mt (mz_mt (mz_mt (mz_mt (mz_mt (mz_mt (mz_mt (mz_mt (mz_mt (mz_mt mz_mh)))))))))))))))))))))))
theorem mz_i_wsX1_partsUnder_20 : (.static yX1_rowOf : Cond) ∈ wsX1_partsUnder := mz_mt (mz_ml (mz_ml (mz_ml (mz_mt (mz_mt (mz_mt (mz_mt (mz_mt (mz_mt (mz_mt (mz_mt (mz_mt (mz_mt (mz_mt (mz_mt (mz_mt (mz_mt (mz_mt (mz_mt (mz_mt (mz_mt (mz_mt mz_mh))))))))))))))))))))))
theorem mz_i_wsX1_partsUnder_19 : (.methodLink RX1 34 yX1_rowOf : Cond) ∈ wsX1_partsUnder := mz_mt (mz_ml (mz_ml (mz_ml (mz_mt (mz_mt (mz_mt (mz_mt (mz_mt (mz_mt (mz_mt (mz_mt (mz_mt (mz_mt (mz_mt (mz_mt (mz_mt (mz_mt (mz_mt (mz_mt (mz_mt (mz_mt mz_mh)))))))))))))))))))))
set_option maxRecDepth 20000 in
theorem gX1_partsUnder_X1_rowOf : GoodIn wsX1_partsUnder (va_wsS RX1 34 yX1_rowOf wsX1_rowOf) := goodIn_app (goodIn_sub (mz_fc mz_i_wsX1_partsUnder_19 (mz_fc mz_i_wsX1_partsUnder_20 (mz_fc mz_i_wsX1_partsUnder_21 mz_fn))) (by decide +kernel)) ggX1_partsUnder_X1_rowOf
theorem mz_i_wsX1_partsUnder_26 : (.code yX1_read cX1_read 3 (some .int) : Cond) ∈ wsX1_partsUnder := mz_mt (mz_ml (mz_ml (mz_mr (mz_mt mz_mh))))
theorem mz_i_wsX1_partsUnder_30 : (.code yX1_isPlace cX1_isPlace 2 (some .boolean) : Cond) ∈ wsX1_partsUnder := mz_mt (mz_ml (mz_ml (mz_mr (mz_mt (mz_mt (mz_mt (mz_mt (mz_mt mz_mh))))))))
theorem mz_i_wsX1_partsUnder_29 : (.static yX1_isPlace : Cond) ∈ wsX1_partsUnder := mz_mt (mz_ml (mz_ml (mz_mr (mz_mt (mz_mt (mz_mt (mz_mt mz_mh)))))))
theorem mz_i_wsX1_partsUnder_28 : (.methodLink RX1 15 yX1_isPlace : Cond) ∈ wsX1_partsUnder := mz_mt (mz_ml (mz_ml (mz_mr (mz_mt (mz_mt (mz_mt mz_mh))))))
theorem mz_i_wsX1_partsUnder_27 : (.fieldLink RX1 9 "MadeItSo$Books" "parts" "[I" : Cond) ∈ wsX1_partsUnder := mz_mt (mz_ml (mz_ml (mz_mr (mz_mt (mz_mt mz_mh)))))
theorem mz_f_wsX1_partsUnder_wsX10 : ∀ w ∈ wsX10, w ∈ wsX1_partsUnder := fun _ h => mz_mt (mz_mr h)
set_option maxRecDepth 20000 in
theorem ggX1_partsUnder_X1_read : GoodIn wsX1_partsUnder wsX1_read := goodIn_sub (mz_fc mz_i_wsX1_partsUnder_26 (mz_fa (mz_fc mz_i_wsX1_partsUnder_27 (mz_fc mz_i_wsX1_partsUnder_28 (mz_fc mz_i_wsX1_partsUnder_29 (mz_fc mz_i_wsX1_partsUnder_21 (mz_fc mz_i_wsX1_partsUnder_30 mz_fn))))) (mz_f_wsX1_partsUnder_wsX10))) (by decide +kernel)
theorem mz_i_wsX1_partsUnder_25 : (.selects RX1 yX1_read yX1_read : Cond) ∈ wsX1_partsUnder := mz_mt (mz_ml (mz_ml (mz_mr mz_mh)))
theorem mz_i_wsX1_partsUnder_24 : (.instanceMethod yX1_read : Cond) ∈ wsX1_partsUnder := mz_mt (mz_ml (mz_ml (mz_ml (mz_mt (mz_mt (mz_mt (mz_mt (mz_mt (mz_mt (mz_mt (mz_mt (mz_mt (mz_mt (mz_mt (mz_mt (mz_mt (mz_mt (mz_mt (mz_mt (mz_mt (mz_mt (mz_mt (mz_mt (mz_mt (mz_mt (mz_mt mz_mh))))))))))))))))))))))))))
theorem mz_i_wsX1_partsUnder_23 : (.methodLink RX1 38 yX1_read : Cond) ∈ wsX1_partsUnder := mz_mt (mz_ml (mz_ml (mz_ml (mz_mt (mz_mt (mz_mt (mz_mt (mz_mt (mz_mt (mz_mt (mz_mt (mz_mt (mz_mt (mz_mt (mz_mt (mz_mt (mz_mt (mz_mt (mz_mt (mz_mt (mz_mt (mz_mt (mz_mt (mz_mt (mz_mt mz_mh)))))))))))))))))))))))))
set_option maxRecDepth 20000 in
theorem gX1_partsUnder_X1_read : GoodIn wsX1_partsUnder (wsV RX1 38 RX1 yX1_read wsX1_read) := goodIn_app (goodIn_sub (mz_fc mz_i_wsX1_partsUnder_23 (mz_fc mz_i_wsX1_partsUnder_24 (mz_fc mz_i_wsX1_partsUnder_25 (mz_fc mz_i_wsX1_partsUnder_21 mz_fn)))) (by decide +kernel)) ggX1_partsUnder_X1_read
theorem dX1_partsUnder_0 : decode cX1_partsUnder 0 = .ok (.iload 4, 2) := by decide +kernel
theorem dX1_partsUnder_2 : decode cX1_partsUnder 2 = .ok (.invokestatic 19, 3) := by decide +kernel
theorem dX1_partsUnder_5 : decode cX1_partsUnder 5 = .ok (.iload_n 2, 1) := by decide +kernel
theorem dX1_partsUnder_6 : decode cX1_partsUnder 6 = .ok (.invokestatic 23, 3) := by decide +kernel
theorem dX1_partsUnder_9 : decode cX1_partsUnder 9 = .ok (.ifCond .eq 22, 3) := by decide +kernel
theorem dX1_partsUnder_12 : decode cX1_partsUnder 12 = .ok (.iload 4, 2) := by decide +kernel
theorem dX1_partsUnder_14 : decode cX1_partsUnder 14 = .ok (.invokestatic 26, 3) := by decide +kernel
theorem dX1_partsUnder_17 : decode cX1_partsUnder 17 = .ok (.iload_n 2, 1) := by decide +kernel
theorem dX1_partsUnder_18 : decode cX1_partsUnder 18 = .ok (.invokestatic 23, 3) := by decide +kernel
theorem dX1_partsUnder_21 : decode cX1_partsUnder 21 = .ok (.ifCond .eq 8, 3) := by decide +kernel
theorem dX1_partsUnder_24 : decode cX1_partsUnder 24 = .ok (.bipush 100, 2) := by decide +kernel
theorem dX1_partsUnder_26 : decode cX1_partsUnder 26 = .ok (.goto 4, 3) := by decide +kernel
theorem dX1_partsUnder_29 : decode cX1_partsUnder 29 = .ok (.iconst 0, 1) := by decide +kernel
theorem dX1_partsUnder_30 : decode cX1_partsUnder 30 = .ok (.ireturn, 1) := by decide +kernel
theorem dX1_partsUnder_31 : decode cX1_partsUnder 31 = .ok (.aload_n 0, 1) := by decide +kernel
theorem dX1_partsUnder_32 : decode cX1_partsUnder 32 = .ok (.iload_n 2, 1) := by decide +kernel
theorem dX1_partsUnder_33 : decode cX1_partsUnder 33 = .ok (.aload_n 1, 1) := by decide +kernel
theorem dX1_partsUnder_34 : decode cX1_partsUnder 34 = .ok (.iload_n 2, 1) := by decide +kernel
theorem dX1_partsUnder_35 : decode cX1_partsUnder 35 = .ok (.invokevirtual 29, 3) := by decide +kernel
theorem dX1_partsUnder_38 : decode cX1_partsUnder 38 = .ok (.iload_n 3, 1) := by decide +kernel
theorem dX1_partsUnder_39 : decode cX1_partsUnder 39 = .ok (.invokestatic 34, 3) := by decide +kernel
theorem dX1_partsUnder_42 : decode cX1_partsUnder 42 = .ok (.invokevirtual 38, 3) := by decide +kernel
theorem dX1_partsUnder_45 : decode cX1_partsUnder 45 = .ok (.ireturn, 1) := by decide +kernel
theorem dX1_isPlace_0 : decode cX1_isPlace 0 = .ok (.iload_n 0, 1) := by decide +kernel
theorem dX1_isPlace_1 : decode cX1_isPlace 1 = .ok (.ifCond .lt 24, 3) := by decide +kernel
theorem dX1_isPlace_4 : decode cX1_isPlace 4 = .ok (.iload_n 0, 1) := by decide +kernel
theorem dX1_isPlace_5 : decode cX1_isPlace 5 = .ok (.bipush 8, 2) := by decide +kernel
theorem dX1_isPlace_7 : decode cX1_isPlace 7 = .ok (.if_icmp .ge 18, 3) := by decide +kernel
theorem dX1_isPlace_10 : decode cX1_isPlace 10 = .ok (.iload_n 1, 1) := by decide +kernel
theorem dX1_isPlace_11 : decode cX1_isPlace 11 = .ok (.ifCond .lt 14, 3) := by decide +kernel
theorem dX1_isPlace_14 : decode cX1_isPlace 14 = .ok (.iload_n 1, 1) := by decide +kernel
theorem dX1_isPlace_15 : decode cX1_isPlace 15 = .ok (.sipush 128, 3) := by decide +kernel
theorem dX1_isPlace_18 : decode cX1_isPlace 18 = .ok (.if_icmp .ge 7, 3) := by decide +kernel
theorem dX1_isPlace_21 : decode cX1_isPlace 21 = .ok (.iconst 1, 1) := by decide +kernel
theorem dX1_isPlace_22 : decode cX1_isPlace 22 = .ok (.goto 4, 3) := by decide +kernel
theorem dX1_isPlace_25 : decode cX1_isPlace 25 = .ok (.iconst 0, 1) := by decide +kernel
theorem dX1_isPlace_26 : decode cX1_isPlace 26 = .ok (.ireturn, 1) := by decide +kernel
theorem mz_i_wsX1_rowOf_3 : (.code yX7_inHeap cX7_inHeap 2 (some .boolean) : Cond) ∈ wsX1_rowOf := mz_mt (mz_mt (mz_mt mz_mh))
set_option maxRecDepth 20000 in
theorem ggX1_rowOf_X7_inHeap : GoodIn wsX1_rowOf wsX7_inHeap := goodIn_sub (mz_fc mz_i_wsX1_rowOf_3 (mz_fn)) (by decide +kernel)
set_option maxRecDepth 20000 in
theorem gX1_rowOf_X7_inHeap_n23 : GoodIn wsX1_rowOf (wsX7_inHeap) := ggX1_rowOf_X7_inHeap
theorem dX1_rowOf_0 : decode cX1_rowOf 0 = .ok (.iconst 0, 1) := by decide +kernel
theorem dX1_rowOf_1 : decode cX1_rowOf 1 = .ok (.istore_n 2, 1) := by decide +kernel
theorem dX1_rowOf_2 : decode cX1_rowOf 2 = .ok (.iconst 0, 1) := by decide +kernel
theorem dX1_rowOf_3 : decode cX1_rowOf 3 = .ok (.istore_n 3, 1) := by decide +kernel
theorem dX1_rowOf_4 : decode cX1_rowOf 4 = .ok (.iconst 0, 1) := by decide +kernel
theorem dX1_rowOf_5 : decode cX1_rowOf 5 = .ok (.istore 4, 2) := by decide +kernel
theorem dX1_rowOf_7 : decode cX1_rowOf 7 = .ok (.iload 4, 2) := by decide +kernel
theorem dX1_rowOf_9 : decode cX1_rowOf 9 = .ok (.bipush 8, 2) := by decide +kernel
theorem dX1_rowOf_11 : decode cX1_rowOf 11 = .ok (.if_icmp .ge 32, 3) := by decide +kernel
theorem dX1_rowOf_14 : decode cX1_rowOf 14 = .ok (.iload_n 0, 1) := by decide +kernel
theorem dX1_rowOf_15 : decode cX1_rowOf 15 = .ok (.iload 4, 2) := by decide +kernel
theorem dX1_rowOf_17 : decode cX1_rowOf 17 = .ok (.invokestatic 23, 3) := by decide +kernel
theorem dX1_rowOf_20 : decode cX1_rowOf 20 = .ok (.ifCond .eq 17, 3) := by decide +kernel
theorem dX1_rowOf_23 : decode cX1_rowOf 23 = .ok (.iload_n 2, 1) := by decide +kernel
theorem dX1_rowOf_24 : decode cX1_rowOf 24 = .ok (.iload_n 1, 1) := by decide +kernel
theorem dX1_rowOf_25 : decode cX1_rowOf 25 = .ok (.iload 4, 2) := by decide +kernel
theorem dX1_rowOf_27 : decode cX1_rowOf 27 = .ok (.ishr, 1) := by decide +kernel
theorem dX1_rowOf_28 : decode cX1_rowOf 28 = .ok (.iconst 1, 1) := by decide +kernel
theorem dX1_rowOf_29 : decode cX1_rowOf 29 = .ok (.iand, 1) := by decide +kernel
theorem dX1_rowOf_30 : decode cX1_rowOf 30 = .ok (.iload_n 3, 1) := by decide +kernel
theorem dX1_rowOf_31 : decode cX1_rowOf 31 = .ok (.ishl, 1) := by decide +kernel
theorem dX1_rowOf_32 : decode cX1_rowOf 32 = .ok (.ior, 1) := by decide +kernel
theorem dX1_rowOf_33 : decode cX1_rowOf 33 = .ok (.istore_n 2, 1) := by decide +kernel
theorem dX1_rowOf_34 : decode cX1_rowOf 34 = .ok (.iinc 3 1, 3) := by decide +kernel
theorem dX1_rowOf_37 : decode cX1_rowOf 37 = .ok (.iinc 4 1, 3) := by decide +kernel
theorem dX1_rowOf_40 : decode cX1_rowOf 40 = .ok (.goto (-33), 3) := by decide +kernel
theorem dX1_rowOf_43 : decode cX1_rowOf 43 = .ok (.iload_n 2, 1) := by decide +kernel
theorem dX1_rowOf_44 : decode cX1_rowOf 44 = .ok (.ireturn, 1) := by decide +kernel
theorem dX2_size_0 : decode cX2_size 0 = .ok (.aload_n 0, 1) := by decide +kernel
theorem dX2_size_1 : decode cX2_size 1 = .ok (.getfield 18, 3) := by decide +kernel
theorem dX2_size_4 : decode cX2_size 4 = .ok (.ireturn, 1) := by decide +kernel
theorem dX2_has_0 : decode cX2_has 0 = .ok (.iload_n 1, 1) := by decide +kernel
theorem dX2_has_1 : decode cX2_has 1 = .ok (.ifCond .lt 15, 3) := by decide +kernel
theorem dX2_has_4 : decode cX2_has 4 = .ok (.iload_n 1, 1) := by decide +kernel
theorem dX2_has_5 : decode cX2_has 5 = .ok (.aload_n 0, 1) := by decide +kernel
theorem dX2_has_6 : decode cX2_has 6 = .ok (.getfield 18, 3) := by decide +kernel
theorem dX2_has_9 : decode cX2_has 9 = .ok (.if_icmp .ge 7, 3) := by decide +kernel
theorem dX2_has_12 : decode cX2_has 12 = .ok (.iconst 1, 1) := by decide +kernel
theorem dX2_has_13 : decode cX2_has 13 = .ok (.goto 4, 3) := by decide +kernel
theorem dX2_has_16 : decode cX2_has 16 = .ok (.iconst 0, 1) := by decide +kernel
theorem dX2_has_17 : decode cX2_has 17 = .ok (.ireturn, 1) := by decide +kernel
theorem dX2_everything_0 : decode cX2_everything 0 = .ok (.iconst 1, 1) := by decide +kernel
theorem dX2_everything_1 : decode cX2_everything 1 = .ok (.aload_n 0, 1) := by decide +kernel
theorem dX2_everything_2 : decode cX2_everything 2 = .ok (.getfield 18, 3) := by decide +kernel
theorem dX2_everything_5 : decode cX2_everything 5 = .ok (.ishl, 1) := by decide +kernel
theorem dX2_everything_6 : decode cX2_everything 6 = .ok (.iconst 1, 1) := by decide +kernel
theorem dX2_everything_7 : decode cX2_everything 7 = .ok (.isub, 1) := by decide +kernel
theorem dX2_everything_8 : decode cX2_everything 8 = .ok (.ireturn, 1) := by decide +kernel
theorem mz_i_wsX2_parentsOf_6 : (.code yX2_has cX2_has 2 (some .boolean) : Cond) ∈ wsX2_parentsOf := mz_mt (mz_ml (mz_mt (mz_mt (mz_mt (mz_mt (mz_mt mz_mh))))))
theorem mz_i_wsX2_parentsOf_7 : (.fieldLink RX2 18 "MadeItSo$Drawing" "things" "I" : Cond) ∈ wsX2_parentsOf := mz_mt (mz_ml (mz_mt (mz_mt (mz_mt (mz_mt (mz_mt (mz_mt mz_mh)))))))
theorem mz_f_wsX2_parentsOf_wsX20 : ∀ w ∈ wsX20, w ∈ wsX2_parentsOf := fun _ h => mz_mt (mz_mr h)
set_option maxRecDepth 20000 in
theorem ggX2_parentsOf_X2_has : GoodIn wsX2_parentsOf wsX2_has := goodIn_sub (mz_fc mz_i_wsX2_parentsOf_6 (mz_fa (mz_fc mz_i_wsX2_parentsOf_7 mz_fn) (mz_f_wsX2_parentsOf_wsX20))) (by decide +kernel)
theorem mz_i_wsX2_parentsOf_5 : (.initialized RX2 : Cond) ∈ wsX2_parentsOf := mz_mt (mz_ml (mz_mt (mz_mt (mz_mt (mz_mt mz_mh)))))
theorem mz_i_wsX2_parentsOf_4 : (.selects RX2 yX2_has yX2_has : Cond) ∈ wsX2_parentsOf := mz_mt (mz_ml (mz_mt (mz_mt (mz_mt mz_mh))))
theorem mz_i_wsX2_parentsOf_3 : (.instanceMethod yX2_has : Cond) ∈ wsX2_parentsOf := mz_mt (mz_ml (mz_mt (mz_mt mz_mh)))
theorem mz_i_wsX2_parentsOf_2 : (.methodLink RX2 22 yX2_has : Cond) ∈ wsX2_parentsOf := mz_mt (mz_ml (mz_mt mz_mh))
set_option maxRecDepth 20000 in
theorem gX2_parentsOf_X2_has : GoodIn wsX2_parentsOf (wsV RX2 22 RX2 yX2_has wsX2_has) := goodIn_app (goodIn_sub (mz_fc mz_i_wsX2_parentsOf_2 (mz_fc mz_i_wsX2_parentsOf_3 (mz_fc mz_i_wsX2_parentsOf_4 (mz_fc mz_i_wsX2_parentsOf_5 mz_fn)))) (by decide +kernel)) ggX2_parentsOf_X2_has
theorem dX2_parentsOf_0 : decode cX2_parentsOf 0 = .ok (.aload_n 0, 1) := by decide +kernel
theorem dX2_parentsOf_1 : decode cX2_parentsOf 1 = .ok (.iload_n 1, 1) := by decide +kernel
theorem dX2_parentsOf_2 : decode cX2_parentsOf 2 = .ok (.invokevirtual 22, 3) := by decide +kernel
theorem dX2_parentsOf_5 : decode cX2_parentsOf 5 = .ok (.ifCond .eq 12, 3) := by decide +kernel
theorem dX2_parentsOf_8 : decode cX2_parentsOf 8 = .ok (.aload_n 0, 1) := by decide +kernel
theorem dX2_parentsOf_9 : decode cX2_parentsOf 9 = .ok (.getfield 9, 3) := by decide +kernel
theorem dX2_parentsOf_12 : decode cX2_parentsOf 12 = .ok (.iload_n 1, 1) := by decide +kernel
theorem dX2_parentsOf_13 : decode cX2_parentsOf 13 = .ok (.iaload, 1) := by decide +kernel
theorem dX2_parentsOf_14 : decode cX2_parentsOf 14 = .ok (.goto 4, 3) := by decide +kernel
theorem dX2_parentsOf_17 : decode cX2_parentsOf 17 = .ok (.iconst 0, 1) := by decide +kernel
theorem dX2_parentsOf_18 : decode cX2_parentsOf 18 = .ok (.ireturn, 1) := by decide +kernel
theorem mz_i_wsX2_childrenOf_6 : (.code yX2_has cX2_has 2 (some .boolean) : Cond) ∈ wsX2_childrenOf := mz_mt (mz_ml (mz_mt (mz_mt (mz_mt (mz_mt (mz_mt mz_mh))))))
theorem mz_i_wsX2_childrenOf_7 : (.fieldLink RX2 18 "MadeItSo$Drawing" "things" "I" : Cond) ∈ wsX2_childrenOf := mz_mt (mz_ml (mz_mt (mz_mt (mz_mt (mz_mt (mz_mt (mz_mt mz_mh)))))))
theorem mz_f_wsX2_childrenOf_wsX20 : ∀ w ∈ wsX20, w ∈ wsX2_childrenOf := fun _ h => mz_mt (mz_mr h)
set_option maxRecDepth 20000 in
theorem ggX2_childrenOf_X2_has : GoodIn wsX2_childrenOf wsX2_has := goodIn_sub (mz_fc mz_i_wsX2_childrenOf_6 (mz_fa (mz_fc mz_i_wsX2_childrenOf_7 mz_fn) (mz_f_wsX2_childrenOf_wsX20))) (by decide +kernel)
theorem mz_i_wsX2_childrenOf_5 : (.initialized RX2 : Cond) ∈ wsX2_childrenOf := mz_mt (mz_ml (mz_mt (mz_mt (mz_mt (mz_mt mz_mh)))))
theorem mz_i_wsX2_childrenOf_4 : (.selects RX2 yX2_has yX2_has : Cond) ∈ wsX2_childrenOf := mz_mt (mz_ml (mz_mt (mz_mt (mz_mt mz_mh))))
theorem mz_i_wsX2_childrenOf_3 : (.instanceMethod yX2_has : Cond) ∈ wsX2_childrenOf := mz_mt (mz_ml (mz_mt (mz_mt mz_mh)))
theorem mz_i_wsX2_childrenOf_2 : (.methodLink RX2 22 yX2_has : Cond) ∈ wsX2_childrenOf := mz_mt (mz_ml (mz_mt mz_mh))
set_option maxRecDepth 20000 in
theorem gX2_childrenOf_X2_has : GoodIn wsX2_childrenOf (wsV RX2 22 RX2 yX2_has wsX2_has) := goodIn_app (goodIn_sub (mz_fc mz_i_wsX2_childrenOf_2 (mz_fc mz_i_wsX2_childrenOf_3 (mz_fc mz_i_wsX2_childrenOf_4 (mz_fc mz_i_wsX2_childrenOf_5 mz_fn)))) (by decide +kernel)) ggX2_childrenOf_X2_has
theorem dX2_childrenOf_0 : decode cX2_childrenOf 0 = .ok (.aload_n 0, 1) := by decide +kernel
theorem dX2_childrenOf_1 : decode cX2_childrenOf 1 = .ok (.iload_n 1, 1) := by decide +kernel
theorem dX2_childrenOf_2 : decode cX2_childrenOf 2 = .ok (.invokevirtual 22, 3) := by decide +kernel
theorem dX2_childrenOf_5 : decode cX2_childrenOf 5 = .ok (.ifCond .eq 12, 3) := by decide +kernel
theorem dX2_childrenOf_8 : decode cX2_childrenOf 8 = .ok (.aload_n 0, 1) := by decide +kernel
theorem dX2_childrenOf_9 : decode cX2_childrenOf 9 = .ok (.getfield 15, 3) := by decide +kernel
theorem dX2_childrenOf_12 : decode cX2_childrenOf 12 = .ok (.iload_n 1, 1) := by decide +kernel
theorem dX2_childrenOf_13 : decode cX2_childrenOf 13 = .ok (.iaload, 1) := by decide +kernel
theorem dX2_childrenOf_14 : decode cX2_childrenOf 14 = .ok (.goto 4, 3) := by decide +kernel
theorem dX2_childrenOf_17 : decode cX2_childrenOf 17 = .ok (.iconst 0, 1) := by decide +kernel
theorem dX2_childrenOf_18 : decode cX2_childrenOf 18 = .ok (.ireturn, 1) := by decide +kernel
theorem mz_i_wsX2_joinedTo_7 : (.code yX2_has cX2_has 2 (some .boolean) : Cond) ∈ wsX2_joinedTo := mz_mt (mz_ml (mz_mt (mz_mt (mz_mt (mz_mt (mz_mt (mz_mt mz_mh)))))))
theorem mz_i_wsX2_joinedTo_8 : (.fieldLink RX2 18 "MadeItSo$Drawing" "things" "I" : Cond) ∈ wsX2_joinedTo := mz_mt (mz_ml (mz_mt (mz_mt (mz_mt (mz_mt (mz_mt (mz_mt (mz_mt mz_mh))))))))
theorem mz_f_wsX2_joinedTo_wsX20 : ∀ w ∈ wsX20, w ∈ wsX2_joinedTo := fun _ h => mz_mt (mz_mr h)
set_option maxRecDepth 20000 in
theorem ggX2_joinedTo_X2_has : GoodIn wsX2_joinedTo wsX2_has := goodIn_sub (mz_fc mz_i_wsX2_joinedTo_7 (mz_fa (mz_fc mz_i_wsX2_joinedTo_8 mz_fn) (mz_f_wsX2_joinedTo_wsX20))) (by decide +kernel)
theorem mz_i_wsX2_joinedTo_6 : (.initialized RX2 : Cond) ∈ wsX2_joinedTo := mz_mt (mz_ml (mz_mt (mz_mt (mz_mt (mz_mt (mz_mt mz_mh))))))
theorem mz_i_wsX2_joinedTo_5 : (.selects RX2 yX2_has yX2_has : Cond) ∈ wsX2_joinedTo := mz_mt (mz_ml (mz_mt (mz_mt (mz_mt (mz_mt mz_mh)))))
theorem mz_i_wsX2_joinedTo_4 : (.instanceMethod yX2_has : Cond) ∈ wsX2_joinedTo := mz_mt (mz_ml (mz_mt (mz_mt (mz_mt mz_mh))))
theorem mz_i_wsX2_joinedTo_3 : (.methodLink RX2 22 yX2_has : Cond) ∈ wsX2_joinedTo := mz_mt (mz_ml (mz_mt (mz_mt mz_mh)))
set_option maxRecDepth 20000 in
theorem gX2_joinedTo_X2_has : GoodIn wsX2_joinedTo (wsV RX2 22 RX2 yX2_has wsX2_has) := goodIn_app (goodIn_sub (mz_fc mz_i_wsX2_joinedTo_3 (mz_fc mz_i_wsX2_joinedTo_4 (mz_fc mz_i_wsX2_joinedTo_5 (mz_fc mz_i_wsX2_joinedTo_6 mz_fn)))) (by decide +kernel)) ggX2_joinedTo_X2_has
theorem dX2_joinedTo_0 : decode cX2_joinedTo 0 = .ok (.aload_n 0, 1) := by decide +kernel
theorem dX2_joinedTo_1 : decode cX2_joinedTo 1 = .ok (.iload_n 1, 1) := by decide +kernel
theorem dX2_joinedTo_2 : decode cX2_joinedTo 2 = .ok (.invokevirtual 22, 3) := by decide +kernel
theorem dX2_joinedTo_5 : decode cX2_joinedTo 5 = .ok (.ifCond .eq 19, 3) := by decide +kernel
theorem dX2_joinedTo_8 : decode cX2_joinedTo 8 = .ok (.aload_n 0, 1) := by decide +kernel
theorem dX2_joinedTo_9 : decode cX2_joinedTo 9 = .ok (.getfield 9, 3) := by decide +kernel
theorem dX2_joinedTo_12 : decode cX2_joinedTo 12 = .ok (.iload_n 1, 1) := by decide +kernel
theorem dX2_joinedTo_13 : decode cX2_joinedTo 13 = .ok (.iaload, 1) := by decide +kernel
theorem dX2_joinedTo_14 : decode cX2_joinedTo 14 = .ok (.aload_n 0, 1) := by decide +kernel
theorem dX2_joinedTo_15 : decode cX2_joinedTo 15 = .ok (.getfield 15, 3) := by decide +kernel
theorem dX2_joinedTo_18 : decode cX2_joinedTo 18 = .ok (.iload_n 1, 1) := by decide +kernel
theorem dX2_joinedTo_19 : decode cX2_joinedTo 19 = .ok (.iaload, 1) := by decide +kernel
theorem dX2_joinedTo_20 : decode cX2_joinedTo 20 = .ok (.ior, 1) := by decide +kernel
theorem dX2_joinedTo_21 : decode cX2_joinedTo 21 = .ok (.goto 4, 3) := by decide +kernel
theorem dX2_joinedTo_24 : decode cX2_joinedTo 24 = .ok (.iconst 0, 1) := by decide +kernel
theorem dX2_joinedTo_25 : decode cX2_joinedTo 25 = .ok (.ireturn, 1) := by decide +kernel
theorem mz_i_wsX2_leads_6 : (.code yX2_has cX2_has 2 (some .boolean) : Cond) ∈ wsX2_leads := mz_mt (mz_ml (mz_mt (mz_mt (mz_mt (mz_mt (mz_mt mz_mh))))))
theorem mz_i_wsX2_leads_7 : (.fieldLink RX2 18 "MadeItSo$Drawing" "things" "I" : Cond) ∈ wsX2_leads := mz_mt (mz_ml (mz_mt (mz_mt (mz_mt (mz_mt (mz_mt (mz_mt mz_mh)))))))
theorem mz_f_wsX2_leads_wsX20 : ∀ w ∈ wsX20, w ∈ wsX2_leads := fun _ h => mz_mt (mz_mr h)
set_option maxRecDepth 20000 in
theorem ggX2_leads_X2_has : GoodIn wsX2_leads wsX2_has := goodIn_sub (mz_fc mz_i_wsX2_leads_6 (mz_fa (mz_fc mz_i_wsX2_leads_7 mz_fn) (mz_f_wsX2_leads_wsX20))) (by decide +kernel)
theorem mz_i_wsX2_leads_5 : (.initialized RX2 : Cond) ∈ wsX2_leads := mz_mt (mz_ml (mz_mt (mz_mt (mz_mt (mz_mt mz_mh)))))
theorem mz_i_wsX2_leads_4 : (.selects RX2 yX2_has yX2_has : Cond) ∈ wsX2_leads := mz_mt (mz_ml (mz_mt (mz_mt (mz_mt mz_mh))))
theorem mz_i_wsX2_leads_3 : (.instanceMethod yX2_has : Cond) ∈ wsX2_leads := mz_mt (mz_ml (mz_mt (mz_mt mz_mh)))
theorem mz_i_wsX2_leads_2 : (.methodLink RX2 22 yX2_has : Cond) ∈ wsX2_leads := mz_mt (mz_ml (mz_mt mz_mh))
set_option maxRecDepth 20000 in
theorem gX2_leads_X2_has : GoodIn wsX2_leads (wsV RX2 22 RX2 yX2_has wsX2_has) := goodIn_app (goodIn_sub (mz_fc mz_i_wsX2_leads_2 (mz_fc mz_i_wsX2_leads_3 (mz_fc mz_i_wsX2_leads_4 (mz_fc mz_i_wsX2_leads_5 mz_fn)))) (by decide +kernel)) ggX2_leads_X2_has
theorem mz_i_wsX2_leads_10 : (.code yX7_inHeap cX7_inHeap 2 (some .boolean) : Cond) ∈ wsX2_leads := mz_mt (mz_ml (mz_mt (mz_mt (mz_mt (mz_mt (mz_mt (mz_mt (mz_mt (mz_mt (mz_mt mz_mh))))))))))
set_option maxRecDepth 20000 in
theorem ggX2_leads_X7_inHeap : GoodIn wsX2_leads wsX7_inHeap := goodIn_sub (mz_fc mz_i_wsX2_leads_10 (mz_fn)) (by decide +kernel)
set_option maxRecDepth 20000 in
theorem gX2_leads_X7_inHeap_n26 : GoodIn wsX2_leads (wsX7_inHeap) := ggX2_leads_X7_inHeap
theorem dX2_leads_0 : decode cX2_leads 0 = .ok (.aload_n 0, 1) := by decide +kernel
theorem dX2_leads_1 : decode cX2_leads 1 = .ok (.iload_n 1, 1) := by decide +kernel
theorem dX2_leads_2 : decode cX2_leads 2 = .ok (.invokevirtual 22, 3) := by decide +kernel
theorem dX2_leads_5 : decode cX2_leads 5 = .ok (.ifCond .eq 28, 3) := by decide +kernel
theorem dX2_leads_8 : decode cX2_leads 8 = .ok (.aload_n 0, 1) := by decide +kernel
theorem dX2_leads_9 : decode cX2_leads 9 = .ok (.iload_n 2, 1) := by decide +kernel
theorem dX2_leads_10 : decode cX2_leads 10 = .ok (.invokevirtual 22, 3) := by decide +kernel
theorem dX2_leads_13 : decode cX2_leads 13 = .ok (.ifCond .eq 20, 3) := by decide +kernel
theorem dX2_leads_16 : decode cX2_leads 16 = .ok (.aload_n 0, 1) := by decide +kernel
theorem dX2_leads_17 : decode cX2_leads 17 = .ok (.getfield 15, 3) := by decide +kernel
theorem dX2_leads_20 : decode cX2_leads 20 = .ok (.iload_n 1, 1) := by decide +kernel
theorem dX2_leads_21 : decode cX2_leads 21 = .ok (.iaload, 1) := by decide +kernel
theorem dX2_leads_22 : decode cX2_leads 22 = .ok (.iload_n 2, 1) := by decide +kernel
theorem dX2_leads_23 : decode cX2_leads 23 = .ok (.invokestatic 26, 3) := by decide +kernel
theorem dX2_leads_26 : decode cX2_leads 26 = .ok (.ifCond .eq 7, 3) := by decide +kernel
theorem dX2_leads_29 : decode cX2_leads 29 = .ok (.iconst 1, 1) := by decide +kernel
theorem dX2_leads_30 : decode cX2_leads 30 = .ok (.goto 4, 3) := by decide +kernel
theorem dX2_leads_33 : decode cX2_leads 33 = .ok (.iconst 0, 1) := by decide +kernel
theorem dX2_leads_34 : decode cX2_leads 34 = .ok (.ireturn, 1) := by decide +kernel
theorem mz_i_wsX2_canJoin_5 : (.code yX2_joinedTo cX2_joinedTo 2 (some .int) : Cond) ∈ wsX2_canJoin := mz_mt (mz_ml (mz_ml (mz_mt (mz_mt (mz_mt (mz_mt mz_mh))))))
theorem mz_i_wsX2_canJoin_12 : (.fieldLink RX2 18 "MadeItSo$Drawing" "things" "I" : Cond) ∈ wsX2_canJoin := mz_mt (mz_ml (mz_ml (mz_mt (mz_mt (mz_mt (mz_mt (mz_mt (mz_mt (mz_mt (mz_mt (mz_mt (mz_mt (mz_mt mz_mh)))))))))))))
theorem mz_i_wsX2_canJoin_11 : (.code yX2_has cX2_has 2 (some .boolean) : Cond) ∈ wsX2_canJoin := mz_mt (mz_ml (mz_ml (mz_mt (mz_mt (mz_mt (mz_mt (mz_mt (mz_mt (mz_mt (mz_mt (mz_mt (mz_mt mz_mh))))))))))))
theorem mz_i_wsX2_canJoin_4 : (.initialized RX2 : Cond) ∈ wsX2_canJoin := mz_mt (mz_ml (mz_ml (mz_mt (mz_mt (mz_mt mz_mh)))))
theorem mz_i_wsX2_canJoin_10 : (.selects RX2 yX2_has yX2_has : Cond) ∈ wsX2_canJoin := mz_mt (mz_ml (mz_ml (mz_mt (mz_mt (mz_mt (mz_mt (mz_mt (mz_mt (mz_mt (mz_mt (mz_mt mz_mh)))))))))))
theorem mz_i_wsX2_canJoin_9 : (.instanceMethod yX2_has : Cond) ∈ wsX2_canJoin := mz_mt (mz_ml (mz_ml (mz_mt (mz_mt (mz_mt (mz_mt (mz_mt (mz_mt (mz_mt (mz_mt mz_mh))))))))))
theorem mz_i_wsX2_canJoin_8 : (.methodLink RX2 22 yX2_has : Cond) ∈ wsX2_canJoin := mz_mt (mz_ml (mz_ml (mz_mt (mz_mt (mz_mt (mz_mt (mz_mt (mz_mt (mz_mt mz_mh)))))))))
theorem mz_i_wsX2_canJoin_7 : (.fieldLink RX2 15 "MadeItSo$Drawing" "children" "[I" : Cond) ∈ wsX2_canJoin := mz_mt (mz_ml (mz_ml (mz_mt (mz_mt (mz_mt (mz_mt (mz_mt (mz_mt mz_mh))))))))
theorem mz_i_wsX2_canJoin_6 : (.fieldLink RX2 9 "MadeItSo$Drawing" "parents" "[I" : Cond) ∈ wsX2_canJoin := mz_mt (mz_ml (mz_ml (mz_mt (mz_mt (mz_mt (mz_mt (mz_mt mz_mh)))))))
theorem mz_f_wsX2_canJoin_wsX20 : ∀ w ∈ wsX20, w ∈ wsX2_canJoin := fun _ h => mz_mt (mz_mr h)
set_option maxRecDepth 20000 in
theorem ggX2_canJoin_X2_joinedTo : GoodIn wsX2_canJoin wsX2_joinedTo := goodIn_sub (mz_fc mz_i_wsX2_canJoin_5 (mz_fa (mz_fc mz_i_wsX2_canJoin_6 (mz_fc mz_i_wsX2_canJoin_7 (mz_fc mz_i_wsX2_canJoin_8 (mz_fc mz_i_wsX2_canJoin_9 (mz_fc mz_i_wsX2_canJoin_10 (mz_fc mz_i_wsX2_canJoin_4 (mz_fc mz_i_wsX2_canJoin_11 (mz_fc mz_i_wsX2_canJoin_12 mz_fn)))))))) (mz_f_wsX2_canJoin_wsX20))) (by decide +kernel)
theorem mz_i_wsX2_canJoin_3 : (.selects RX2 yX2_joinedTo yX2_joinedTo : Cond) ∈ wsX2_canJoin := mz_mt (mz_ml (mz_ml (mz_mt (mz_mt mz_mh))))
theorem mz_i_wsX2_canJoin_2 : (.instanceMethod yX2_joinedTo : Cond) ∈ wsX2_canJoin := mz_mt (mz_ml (mz_ml (mz_mt mz_mh)))
theorem mz_i_wsX2_canJoin_1 : (.methodLink RX2 30 yX2_joinedTo : Cond) ∈ wsX2_canJoin := mz_mt (mz_ml (mz_ml mz_mh))
set_option maxRecDepth 20000 in
theorem gX2_canJoin_X2_joinedTo : GoodIn wsX2_canJoin (wsV RX2 30 RX2 yX2_joinedTo wsX2_joinedTo) := goodIn_app (goodIn_sub (mz_fc mz_i_wsX2_canJoin_1 (mz_fc mz_i_wsX2_canJoin_2 (mz_fc mz_i_wsX2_canJoin_3 (mz_fc mz_i_wsX2_canJoin_4 mz_fn)))) (by decide +kernel)) ggX2_canJoin_X2_joinedTo
theorem mz_i_wsX2_canJoin_15 : (.code yX7_inHeap cX7_inHeap 2 (some .boolean) : Cond) ∈ wsX2_canJoin := mz_mt (mz_ml (mz_ml (mz_mt (mz_mt (mz_mt (mz_mt (mz_mt (mz_mt (mz_mt (mz_mt (mz_mt (mz_mt (mz_mt (mz_mt (mz_mt (mz_mt mz_mh))))))))))))))))
set_option maxRecDepth 20000 in
theorem ggX2_canJoin_X7_inHeap : GoodIn wsX2_canJoin wsX7_inHeap := goodIn_sub (mz_fc mz_i_wsX2_canJoin_15 (mz_fn)) (by decide +kernel)
set_option maxRecDepth 20000 in
theorem gX2_canJoin_X7_inHeap_n26 : GoodIn wsX2_canJoin (wsX7_inHeap) := ggX2_canJoin_X7_inHeap
theorem mz_i_wsX2_canJoin_19 : (.code yX2_allBelow cX2_allBelow 2 (some .int) : Cond) ∈ wsX2_canJoin := mz_mt (mz_ml (mz_ml (mz_mt (mz_mt (mz_mt (mz_mt (mz_mt (mz_mt (mz_mt (mz_mt (mz_mt (mz_mt (mz_mt (mz_mt (mz_mt (mz_mt (mz_mt (mz_mt (mz_mt (mz_mt mz_mh))))))))))))))))))))
theorem mz_i_wsX2_canJoin_14 : (.initialized RX7 : Cond) ∈ wsX2_canJoin := mz_mt (mz_ml (mz_ml (mz_mt (mz_mt (mz_mt (mz_mt (mz_mt (mz_mt (mz_mt (mz_mt (mz_mt (mz_mt (mz_mt (mz_mt (mz_mt mz_mh)))))))))))))))
theorem mz_i_wsX2_canJoin_13 : (.static yX7_inHeap : Cond) ∈ wsX2_canJoin := mz_mt (mz_ml (mz_ml (mz_mt (mz_mt (mz_mt (mz_mt (mz_mt (mz_mt (mz_mt (mz_mt (mz_mt (mz_mt (mz_mt (mz_mt mz_mh))))))))))))))
theorem mz_i_wsX2_canJoin_34 : (.code yX2_gather cX2_gather 4 (some .int) : Cond) ∈ wsX2_canJoin := mz_mt (mz_ml (mz_mr (mz_mt (mz_mt (mz_mt (mz_mt (mz_mt (mz_mt (mz_mt (mz_mt (mz_mt mz_mh)))))))))))
theorem mz_i_wsX2_canJoin_33 : (.static yX2_gather : Cond) ∈ wsX2_canJoin := mz_mt (mz_ml (mz_mr (mz_mt (mz_mt (mz_mt (mz_mt (mz_mt (mz_mt (mz_mt (mz_mt mz_mh))))))))))
theorem mz_i_wsX2_canJoin_32 : (.methodLink RX2 55 yX2_gather : Cond) ∈ wsX2_canJoin := mz_mt (mz_ml (mz_mr (mz_mt (mz_mt (mz_mt (mz_mt (mz_mt (mz_mt (mz_mt mz_mh)))))))))
theorem mz_i_wsX2_canJoin_31 : (.code yX2_spread cX2_spread 6 (some .int) : Cond) ∈ wsX2_canJoin := mz_mt (mz_ml (mz_mr (mz_mt (mz_mt (mz_mt (mz_mt (mz_mt (mz_mt mz_mh))))))))
theorem mz_i_wsX2_canJoin_30 : (.selects RX2 yX2_spread yX2_spread : Cond) ∈ wsX2_canJoin := mz_mt (mz_ml (mz_mr (mz_mt (mz_mt (mz_mt (mz_mt (mz_mt mz_mh)))))))
theorem mz_i_wsX2_canJoin_29 : (.instanceMethod yX2_spread : Cond) ∈ wsX2_canJoin := mz_mt (mz_ml (mz_mr (mz_mt (mz_mt (mz_mt (mz_mt mz_mh))))))
theorem mz_i_wsX2_canJoin_28 : (.methodLink RX2 51 yX2_spread : Cond) ∈ wsX2_canJoin := mz_mt (mz_ml (mz_mr (mz_mt (mz_mt (mz_mt mz_mh)))))
theorem mz_i_wsX2_canJoin_27 : (.code yX2_withAllBelow cX2_withAllBelow 2 (some .int) : Cond) ∈ wsX2_canJoin := mz_mt (mz_ml (mz_mr (mz_mt (mz_mt mz_mh))))
theorem mz_i_wsX2_canJoin_26 : (.selects RX2 yX2_withAllBelow yX2_withAllBelow : Cond) ∈ wsX2_canJoin := mz_mt (mz_ml (mz_mr (mz_mt mz_mh)))
theorem mz_i_wsX2_canJoin_25 : (.instanceMethod yX2_withAllBelow : Cond) ∈ wsX2_canJoin := mz_mt (mz_ml (mz_mr mz_mh))
theorem mz_i_wsX2_canJoin_24 : (.methodLink RX2 48 yX2_withAllBelow : Cond) ∈ wsX2_canJoin := mz_mt (mz_ml (mz_ml (mz_mt (mz_mt (mz_mt (mz_mt (mz_mt (mz_mt (mz_mt (mz_mt (mz_mt (mz_mt (mz_mt (mz_mt (mz_mt (mz_mt (mz_mt (mz_mt (mz_mt (mz_mt (mz_mt (mz_mt (mz_mt (mz_mt (mz_mt mz_mh)))))))))))))))))))))))))
theorem mz_i_wsX2_canJoin_23 : (.code yX2_childrenOf cX2_childrenOf 2 (some .int) : Cond) ∈ wsX2_canJoin := mz_mt (mz_ml (mz_ml (mz_mt (mz_mt (mz_mt (mz_mt (mz_mt (mz_mt (mz_mt (mz_mt (mz_mt (mz_mt (mz_mt (mz_mt (mz_mt (mz_mt (mz_mt (mz_mt (mz_mt (mz_mt (mz_mt (mz_mt (mz_mt (mz_mt mz_mh))))))))))))))))))))))))
theorem mz_i_wsX2_canJoin_22 : (.selects RX2 yX2_childrenOf yX2_childrenOf : Cond) ∈ wsX2_canJoin := mz_mt (mz_ml (mz_ml (mz_mt (mz_mt (mz_mt (mz_mt (mz_mt (mz_mt (mz_mt (mz_mt (mz_mt (mz_mt (mz_mt (mz_mt (mz_mt (mz_mt (mz_mt (mz_mt (mz_mt (mz_mt (mz_mt (mz_mt (mz_mt mz_mh)))))))))))))))))))))))
theorem mz_i_wsX2_canJoin_21 : (.instanceMethod yX2_childrenOf : Cond) ∈ wsX2_canJoin := mz_mt (mz_ml (mz_ml (mz_mt (mz_mt (mz_mt (mz_mt (mz_mt (mz_mt (mz_mt (mz_mt (mz_mt (mz_mt (mz_mt (mz_mt (mz_mt (mz_mt (mz_mt (mz_mt (mz_mt (mz_mt (mz_mt (mz_mt mz_mh))))))))))))))))))))))
theorem mz_i_wsX2_canJoin_20 : (.methodLink RX2 45 yX2_childrenOf : Cond) ∈ wsX2_canJoin := mz_mt (mz_ml (mz_ml (mz_mt (mz_mt (mz_mt (mz_mt (mz_mt (mz_mt (mz_mt (mz_mt (mz_mt (mz_mt (mz_mt (mz_mt (mz_mt (mz_mt (mz_mt (mz_mt (mz_mt (mz_mt (mz_mt mz_mh)))))))))))))))))))))
set_option maxRecDepth 20000 in
theorem ggX2_canJoin_X2_allBelow : GoodIn wsX2_canJoin wsX2_allBelow := goodIn_sub (mz_fc mz_i_wsX2_canJoin_19 (mz_fa (mz_fa (mz_fc mz_i_wsX2_canJoin_20 (mz_fc mz_i_wsX2_canJoin_21 (mz_fc mz_i_wsX2_canJoin_22 (mz_fc mz_i_wsX2_canJoin_4 (mz_fc mz_i_wsX2_canJoin_23 (mz_fc mz_i_wsX2_canJoin_7 (mz_fc mz_i_wsX2_canJoin_8 (mz_fc mz_i_wsX2_canJoin_9 (mz_fc mz_i_wsX2_canJoin_10 (mz_fc mz_i_wsX2_canJoin_11 (mz_fc mz_i_wsX2_canJoin_12 (mz_fc mz_i_wsX2_canJoin_24 (mz_fc mz_i_wsX2_canJoin_25 (mz_fc mz_i_wsX2_canJoin_26 (mz_fc mz_i_wsX2_canJoin_27 (mz_fc mz_i_wsX2_canJoin_28 (mz_fc mz_i_wsX2_canJoin_29 (mz_fc mz_i_wsX2_canJoin_30 (mz_fc mz_i_wsX2_canJoin_31 (mz_fc mz_i_wsX2_canJoin_32 (mz_fc mz_i_wsX2_canJoin_33 (mz_fc mz_i_wsX2_canJoin_34 (mz_fc mz_i_wsX2_canJoin_13 (mz_fc mz_i_wsX2_canJoin_14 mz_fn)))))))))))))))))))))))) (mz_fc mz_i_wsX2_canJoin_15 mz_fn)) (mz_f_wsX2_canJoin_wsX20))) (by decide +kernel)
theorem mz_i_wsX2_canJoin_18 : (.selects RX2 yX2_allBelow yX2_allBelow : Cond) ∈ wsX2_canJoin := mz_mt (mz_ml (mz_ml (mz_mt (mz_mt (mz_mt (mz_mt (mz_mt (mz_mt (mz_mt (mz_mt (mz_mt (mz_mt (mz_mt (mz_mt (mz_mt (mz_mt (mz_mt (mz_mt (mz_mt mz_mh)))))))))))))))))))
theorem mz_i_wsX2_canJoin_17 : (.instanceMethod yX2_allBelow : Cond) ∈ wsX2_canJoin := mz_mt (mz_ml (mz_ml (mz_mt (mz_mt (mz_mt (mz_mt (mz_mt (mz_mt (mz_mt (mz_mt (mz_mt (mz_mt (mz_mt (mz_mt (mz_mt (mz_mt (mz_mt (mz_mt mz_mh))))))))))))))))))
theorem mz_i_wsX2_canJoin_16 : (.methodLink RX2 34 yX2_allBelow : Cond) ∈ wsX2_canJoin := mz_mt (mz_ml (mz_ml (mz_mt (mz_mt (mz_mt (mz_mt (mz_mt (mz_mt (mz_mt (mz_mt (mz_mt (mz_mt (mz_mt (mz_mt (mz_mt (mz_mt (mz_mt mz_mh)))))))))))))))))
set_option maxRecDepth 20000 in
theorem gX2_canJoin_X2_allBelow : GoodIn wsX2_canJoin (wsV RX2 34 RX2 yX2_allBelow wsX2_allBelow) := goodIn_app (goodIn_sub (mz_fc mz_i_wsX2_canJoin_16 (mz_fc mz_i_wsX2_canJoin_17 (mz_fc mz_i_wsX2_canJoin_18 (mz_fc mz_i_wsX2_canJoin_4 mz_fn)))) (by decide +kernel)) ggX2_canJoin_X2_allBelow
theorem dX2_canJoin_0 : decode cX2_canJoin 0 = .ok (.iload_n 1, 1) := by decide +kernel
theorem dX2_canJoin_1 : decode cX2_canJoin 1 = .ok (.iload_n 2, 1) := by decide +kernel
theorem dX2_canJoin_2 : decode cX2_canJoin 2 = .ok (.if_icmp .eq 31, 3) := by decide +kernel
theorem dX2_canJoin_5 : decode cX2_canJoin 5 = .ok (.aload_n 0, 1) := by decide +kernel
theorem dX2_canJoin_6 : decode cX2_canJoin 6 = .ok (.iload_n 1, 1) := by decide +kernel
theorem dX2_canJoin_7 : decode cX2_canJoin 7 = .ok (.invokevirtual 30, 3) := by decide +kernel
theorem dX2_canJoin_10 : decode cX2_canJoin 10 = .ok (.iload_n 2, 1) := by decide +kernel
theorem dX2_canJoin_11 : decode cX2_canJoin 11 = .ok (.invokestatic 26, 3) := by decide +kernel
theorem dX2_canJoin_14 : decode cX2_canJoin 14 = .ok (.ifCond .ne 19, 3) := by decide +kernel
theorem dX2_canJoin_17 : decode cX2_canJoin 17 = .ok (.aload_n 0, 1) := by decide +kernel
theorem dX2_canJoin_18 : decode cX2_canJoin 18 = .ok (.iload_n 2, 1) := by decide +kernel
theorem dX2_canJoin_19 : decode cX2_canJoin 19 = .ok (.invokevirtual 34, 3) := by decide +kernel
theorem dX2_canJoin_22 : decode cX2_canJoin 22 = .ok (.iload_n 1, 1) := by decide +kernel
theorem dX2_canJoin_23 : decode cX2_canJoin 23 = .ok (.invokestatic 26, 3) := by decide +kernel
theorem dX2_canJoin_26 : decode cX2_canJoin 26 = .ok (.ifCond .ne 7, 3) := by decide +kernel
theorem dX2_canJoin_29 : decode cX2_canJoin 29 = .ok (.iconst 1, 1) := by decide +kernel
theorem dX2_canJoin_30 : decode cX2_canJoin 30 = .ok (.goto 4, 3) := by decide +kernel
theorem dX2_canJoin_33 : decode cX2_canJoin 33 = .ok (.iconst 0, 1) := by decide +kernel
theorem dX2_canJoin_34 : decode cX2_canJoin 34 = .ok (.ireturn, 1) := by decide +kernel
theorem mz_i_wsX2_join_7 : (.code yX2_has cX2_has 2 (some .boolean) : Cond) ∈ wsX2_join := mz_mt (mz_ml (mz_mt (mz_mt (mz_mt (mz_mt (mz_mt (mz_mt mz_mh)))))))
theorem mz_i_wsX2_join_8 : (.fieldLink RX2 18 "MadeItSo$Drawing" "things" "I" : Cond) ∈ wsX2_join := mz_mt (mz_ml (mz_mt (mz_mt (mz_mt (mz_mt (mz_mt (mz_mt (mz_mt mz_mh))))))))
theorem mz_f_wsX2_join_wsX20 : ∀ w ∈ wsX20, w ∈ wsX2_join := fun _ h => mz_mt (mz_mr h)
set_option maxRecDepth 20000 in
theorem ggX2_join_X2_has : GoodIn wsX2_join wsX2_has := goodIn_sub (mz_fc mz_i_wsX2_join_7 (mz_fa (mz_fc mz_i_wsX2_join_8 mz_fn) (mz_f_wsX2_join_wsX20))) (by decide +kernel)
theorem mz_i_wsX2_join_6 : (.initialized RX2 : Cond) ∈ wsX2_join := mz_mt (mz_ml (mz_mt (mz_mt (mz_mt (mz_mt (mz_mt mz_mh))))))
theorem mz_i_wsX2_join_5 : (.selects RX2 yX2_has yX2_has : Cond) ∈ wsX2_join := mz_mt (mz_ml (mz_mt (mz_mt (mz_mt (mz_mt mz_mh)))))
theorem mz_i_wsX2_join_4 : (.instanceMethod yX2_has : Cond) ∈ wsX2_join := mz_mt (mz_ml (mz_mt (mz_mt (mz_mt mz_mh))))
theorem mz_i_wsX2_join_3 : (.methodLink RX2 22 yX2_has : Cond) ∈ wsX2_join := mz_mt (mz_ml (mz_mt (mz_mt mz_mh)))
set_option maxRecDepth 20000 in
theorem gX2_join_X2_has : GoodIn wsX2_join (wsV RX2 22 RX2 yX2_has wsX2_has) := goodIn_app (goodIn_sub (mz_fc mz_i_wsX2_join_3 (mz_fc mz_i_wsX2_join_4 (mz_fc mz_i_wsX2_join_5 (mz_fc mz_i_wsX2_join_6 mz_fn)))) (by decide +kernel)) ggX2_join_X2_has
theorem mz_i_wsX2_join_11 : (.code yX7_bit cX7_bit 1 (some .int) : Cond) ∈ wsX2_join := mz_mt (mz_ml (mz_mt (mz_mt (mz_mt (mz_mt (mz_mt (mz_mt (mz_mt (mz_mt (mz_mt (mz_mt mz_mh)))))))))))
set_option maxRecDepth 20000 in
theorem ggX2_join_X7_bit : GoodIn wsX2_join wsX7_bit := goodIn_sub (mz_fc mz_i_wsX2_join_11 (mz_fn)) (by decide +kernel)
set_option maxRecDepth 20000 in
theorem gX2_join_X7_bit_n37 : GoodIn wsX2_join (wsX7_bit) := ggX2_join_X7_bit
theorem dX2_join_0 : decode cX2_join 0 = .ok (.aload_n 0, 1) := by decide +kernel
theorem dX2_join_1 : decode cX2_join 1 = .ok (.iload_n 1, 1) := by decide +kernel
theorem dX2_join_2 : decode cX2_join 2 = .ok (.invokevirtual 22, 3) := by decide +kernel
theorem dX2_join_5 : decode cX2_join 5 = .ok (.ifCond .eq 37, 3) := by decide +kernel
theorem dX2_join_8 : decode cX2_join 8 = .ok (.aload_n 0, 1) := by decide +kernel
theorem dX2_join_9 : decode cX2_join 9 = .ok (.iload_n 2, 1) := by decide +kernel
theorem dX2_join_10 : decode cX2_join 10 = .ok (.invokevirtual 22, 3) := by decide +kernel
theorem dX2_join_13 : decode cX2_join 13 = .ok (.ifCond .eq 29, 3) := by decide +kernel
theorem dX2_join_16 : decode cX2_join 16 = .ok (.aload_n 0, 1) := by decide +kernel
theorem dX2_join_17 : decode cX2_join 17 = .ok (.getfield 15, 3) := by decide +kernel
theorem dX2_join_20 : decode cX2_join 20 = .ok (.iload_n 1, 1) := by decide +kernel
theorem dX2_join_21 : decode cX2_join 21 = .ok (.dup2, 1) := by decide +kernel
theorem dX2_join_22 : decode cX2_join 22 = .ok (.iaload, 1) := by decide +kernel
theorem dX2_join_23 : decode cX2_join 23 = .ok (.iload_n 2, 1) := by decide +kernel
theorem dX2_join_24 : decode cX2_join 24 = .ok (.invokestatic 37, 3) := by decide +kernel
theorem dX2_join_27 : decode cX2_join 27 = .ok (.ior, 1) := by decide +kernel
theorem dX2_join_28 : decode cX2_join 28 = .ok (.iastore, 1) := by decide +kernel
theorem dX2_join_29 : decode cX2_join 29 = .ok (.aload_n 0, 1) := by decide +kernel
theorem dX2_join_30 : decode cX2_join 30 = .ok (.getfield 9, 3) := by decide +kernel
theorem dX2_join_33 : decode cX2_join 33 = .ok (.iload_n 2, 1) := by decide +kernel
theorem dX2_join_34 : decode cX2_join 34 = .ok (.dup2, 1) := by decide +kernel
theorem dX2_join_35 : decode cX2_join 35 = .ok (.iaload, 1) := by decide +kernel
theorem dX2_join_36 : decode cX2_join 36 = .ok (.iload_n 1, 1) := by decide +kernel
theorem dX2_join_37 : decode cX2_join 37 = .ok (.invokestatic 37, 3) := by decide +kernel
theorem dX2_join_40 : decode cX2_join 40 = .ok (.ior, 1) := by decide +kernel
theorem dX2_join_41 : decode cX2_join 41 = .ok (.iastore, 1) := by decide +kernel
theorem dX2_join_42 : decode cX2_join 42 = .ok (.return_, 1) := by decide +kernel
theorem mz_i_wsX2_part_7 : (.code yX2_has cX2_has 2 (some .boolean) : Cond) ∈ wsX2_part := mz_mt (mz_ml (mz_mt (mz_mt (mz_mt (mz_mt (mz_mt (mz_mt mz_mh)))))))
theorem mz_i_wsX2_part_8 : (.fieldLink RX2 18 "MadeItSo$Drawing" "things" "I" : Cond) ∈ wsX2_part := mz_mt (mz_ml (mz_mt (mz_mt (mz_mt (mz_mt (mz_mt (mz_mt (mz_mt mz_mh))))))))
theorem mz_f_wsX2_part_wsX20 : ∀ w ∈ wsX20, w ∈ wsX2_part := fun _ h => mz_mt (mz_mr h)
set_option maxRecDepth 20000 in
theorem ggX2_part_X2_has : GoodIn wsX2_part wsX2_has := goodIn_sub (mz_fc mz_i_wsX2_part_7 (mz_fa (mz_fc mz_i_wsX2_part_8 mz_fn) (mz_f_wsX2_part_wsX20))) (by decide +kernel)
theorem mz_i_wsX2_part_6 : (.initialized RX2 : Cond) ∈ wsX2_part := mz_mt (mz_ml (mz_mt (mz_mt (mz_mt (mz_mt (mz_mt mz_mh))))))
theorem mz_i_wsX2_part_5 : (.selects RX2 yX2_has yX2_has : Cond) ∈ wsX2_part := mz_mt (mz_ml (mz_mt (mz_mt (mz_mt (mz_mt mz_mh)))))
theorem mz_i_wsX2_part_4 : (.instanceMethod yX2_has : Cond) ∈ wsX2_part := mz_mt (mz_ml (mz_mt (mz_mt (mz_mt mz_mh))))
theorem mz_i_wsX2_part_3 : (.methodLink RX2 22 yX2_has : Cond) ∈ wsX2_part := mz_mt (mz_ml (mz_mt (mz_mt mz_mh)))
set_option maxRecDepth 20000 in
theorem gX2_part_X2_has : GoodIn wsX2_part (wsV RX2 22 RX2 yX2_has wsX2_has) := goodIn_app (goodIn_sub (mz_fc mz_i_wsX2_part_3 (mz_fc mz_i_wsX2_part_4 (mz_fc mz_i_wsX2_part_5 (mz_fc mz_i_wsX2_part_6 mz_fn)))) (by decide +kernel)) ggX2_part_X2_has
theorem mz_i_wsX2_part_11 : (.code yX7_bit cX7_bit 1 (some .int) : Cond) ∈ wsX2_part := mz_mt (mz_ml (mz_mt (mz_mt (mz_mt (mz_mt (mz_mt (mz_mt (mz_mt (mz_mt (mz_mt (mz_mt mz_mh)))))))))))
set_option maxRecDepth 20000 in
theorem ggX2_part_X7_bit : GoodIn wsX2_part wsX7_bit := goodIn_sub (mz_fc mz_i_wsX2_part_11 (mz_fn)) (by decide +kernel)
set_option maxRecDepth 20000 in
theorem gX2_part_X7_bit_n37 : GoodIn wsX2_part (wsX7_bit) := ggX2_part_X7_bit
theorem dX2_part_0 : decode cX2_part 0 = .ok (.aload_n 0, 1) := by decide +kernel
theorem dX2_part_1 : decode cX2_part 1 = .ok (.iload_n 1, 1) := by decide +kernel
theorem dX2_part_2 : decode cX2_part 2 = .ok (.invokevirtual 22, 3) := by decide +kernel
theorem dX2_part_5 : decode cX2_part 5 = .ok (.ifCond .eq 41, 3) := by decide +kernel
theorem dX2_part_8 : decode cX2_part 8 = .ok (.aload_n 0, 1) := by decide +kernel
theorem dX2_part_9 : decode cX2_part 9 = .ok (.iload_n 2, 1) := by decide +kernel
theorem dX2_part_10 : decode cX2_part 10 = .ok (.invokevirtual 22, 3) := by decide +kernel
theorem dX2_part_13 : decode cX2_part 13 = .ok (.ifCond .eq 33, 3) := by decide +kernel
theorem dX2_part_16 : decode cX2_part 16 = .ok (.aload_n 0, 1) := by decide +kernel
theorem dX2_part_17 : decode cX2_part 17 = .ok (.getfield 15, 3) := by decide +kernel
theorem dX2_part_20 : decode cX2_part 20 = .ok (.iload_n 1, 1) := by decide +kernel
theorem dX2_part_21 : decode cX2_part 21 = .ok (.dup2, 1) := by decide +kernel
theorem dX2_part_22 : decode cX2_part 22 = .ok (.iaload, 1) := by decide +kernel
theorem dX2_part_23 : decode cX2_part 23 = .ok (.iload_n 2, 1) := by decide +kernel
theorem dX2_part_24 : decode cX2_part 24 = .ok (.invokestatic 37, 3) := by decide +kernel
theorem dX2_part_27 : decode cX2_part 27 = .ok (.iconst (-1), 1) := by decide +kernel
theorem dX2_part_28 : decode cX2_part 28 = .ok (.ixor, 1) := by decide +kernel
theorem dX2_part_29 : decode cX2_part 29 = .ok (.iand, 1) := by decide +kernel
theorem dX2_part_30 : decode cX2_part 30 = .ok (.iastore, 1) := by decide +kernel
theorem dX2_part_31 : decode cX2_part 31 = .ok (.aload_n 0, 1) := by decide +kernel
theorem dX2_part_32 : decode cX2_part 32 = .ok (.getfield 9, 3) := by decide +kernel
theorem dX2_part_35 : decode cX2_part 35 = .ok (.iload_n 2, 1) := by decide +kernel
theorem dX2_part_36 : decode cX2_part 36 = .ok (.dup2, 1) := by decide +kernel
theorem dX2_part_37 : decode cX2_part 37 = .ok (.iaload, 1) := by decide +kernel
theorem dX2_part_38 : decode cX2_part 38 = .ok (.iload_n 1, 1) := by decide +kernel
theorem dX2_part_39 : decode cX2_part 39 = .ok (.invokestatic 37, 3) := by decide +kernel
theorem dX2_part_42 : decode cX2_part 42 = .ok (.iconst (-1), 1) := by decide +kernel
theorem dX2_part_43 : decode cX2_part 43 = .ok (.ixor, 1) := by decide +kernel
theorem dX2_part_44 : decode cX2_part 44 = .ok (.iand, 1) := by decide +kernel
theorem dX2_part_45 : decode cX2_part 45 = .ok (.iastore, 1) := by decide +kernel
theorem dX2_part_46 : decode cX2_part 46 = .ok (.return_, 1) := by decide +kernel
theorem mz_i_wsX2_arrows_6 : (.code yJ6_bitCount_0f7a4 cJ6_bitCount_0f7a4 1 (some .int) : Cond) ∈ wsX2_arrows := mz_mt (mz_ml (mz_mt (mz_mt (mz_mt (mz_mt (mz_mt mz_mh))))))
theorem mz_i_wsX2_arrows_9 : (.constant RJ6 267 (252645135) : Cond) ∈ wsX2_arrows := mz_mt (mz_ml (mz_mt (mz_mt (mz_mt (mz_mt (mz_mt (mz_mt (mz_mt (mz_mt mz_mh)))))))))
theorem mz_i_wsX2_arrows_8 : (.constant RJ6 266 (858993459) : Cond) ∈ wsX2_arrows := mz_mt (mz_ml (mz_mt (mz_mt (mz_mt (mz_mt (mz_mt (mz_mt (mz_mt mz_mh))))))))
theorem mz_i_wsX2_arrows_7 : (.constant RJ6 265 (1431655765) : Cond) ∈ wsX2_arrows := mz_mt (mz_ml (mz_mt (mz_mt (mz_mt (mz_mt (mz_mt (mz_mt mz_mh)))))))
set_option maxRecDepth 20000 in
theorem ggX2_arrows_J6_bitCount_0f7a4 : GoodIn wsX2_arrows wsJ6_bitCount_0f7a4 := goodIn_sub (mz_fc mz_i_wsX2_arrows_6 (mz_fc mz_i_wsX2_arrows_7 (mz_fc mz_i_wsX2_arrows_8 (mz_fc mz_i_wsX2_arrows_9 mz_fn)))) (by decide +kernel)
theorem mz_i_wsX2_arrows_5 : (.initialized RJ6 : Cond) ∈ wsX2_arrows := mz_mt (mz_ml (mz_mt (mz_mt (mz_mt (mz_mt mz_mh)))))
theorem mz_i_wsX2_arrows_4 : (.static yJ6_bitCount_0f7a4 : Cond) ∈ wsX2_arrows := mz_mt (mz_ml (mz_mt (mz_mt (mz_mt mz_mh))))
theorem mz_i_wsX2_arrows_3 : (.methodLink RX2 40 yJ6_bitCount_0f7a4 : Cond) ∈ wsX2_arrows := mz_mt (mz_ml (mz_mt (mz_mt mz_mh)))
set_option maxRecDepth 20000 in
theorem gX2_arrows_J6_bitCount_0f7a4 : GoodIn wsX2_arrows (va_wsS RX2 40 yJ6_bitCount_0f7a4 wsJ6_bitCount_0f7a4) := goodIn_app (goodIn_sub (mz_fc mz_i_wsX2_arrows_3 (mz_fc mz_i_wsX2_arrows_4 (mz_fc mz_i_wsX2_arrows_5 mz_fn))) (by decide +kernel)) ggX2_arrows_J6_bitCount_0f7a4
theorem dX2_arrows_0 : decode cX2_arrows 0 = .ok (.iconst 0, 1) := by decide +kernel
theorem dX2_arrows_1 : decode cX2_arrows 1 = .ok (.istore_n 1, 1) := by decide +kernel
theorem dX2_arrows_2 : decode cX2_arrows 2 = .ok (.iconst 0, 1) := by decide +kernel
theorem dX2_arrows_3 : decode cX2_arrows 3 = .ok (.istore_n 2, 1) := by decide +kernel
theorem dX2_arrows_4 : decode cX2_arrows 4 = .ok (.iload_n 2, 1) := by decide +kernel
theorem dX2_arrows_5 : decode cX2_arrows 5 = .ok (.aload_n 0, 1) := by decide +kernel
theorem dX2_arrows_6 : decode cX2_arrows 6 = .ok (.getfield 18, 3) := by decide +kernel
theorem dX2_arrows_9 : decode cX2_arrows 9 = .ok (.if_icmp .ge 21, 3) := by decide +kernel
theorem dX2_arrows_12 : decode cX2_arrows 12 = .ok (.iload_n 1, 1) := by decide +kernel
theorem dX2_arrows_13 : decode cX2_arrows 13 = .ok (.aload_n 0, 1) := by decide +kernel
theorem dX2_arrows_14 : decode cX2_arrows 14 = .ok (.getfield 9, 3) := by decide +kernel
theorem dX2_arrows_17 : decode cX2_arrows 17 = .ok (.iload_n 2, 1) := by decide +kernel
theorem dX2_arrows_18 : decode cX2_arrows 18 = .ok (.iaload, 1) := by decide +kernel
theorem dX2_arrows_19 : decode cX2_arrows 19 = .ok (.invokestatic 40, 3) := by decide +kernel
theorem dX2_arrows_22 : decode cX2_arrows 22 = .ok (.iadd, 1) := by decide +kernel
theorem dX2_arrows_23 : decode cX2_arrows 23 = .ok (.istore_n 1, 1) := by decide +kernel
theorem dX2_arrows_24 : decode cX2_arrows 24 = .ok (.iinc 2 1, 3) := by decide +kernel
theorem dX2_arrows_27 : decode cX2_arrows 27 = .ok (.goto (-23), 3) := by decide +kernel
theorem dX2_arrows_30 : decode cX2_arrows 30 = .ok (.iload_n 1, 1) := by decide +kernel
theorem dX2_arrows_31 : decode cX2_arrows 31 = .ok (.ireturn, 1) := by decide +kernel
theorem mz_i_wsX2_allBelow_5 : (.code yX2_childrenOf cX2_childrenOf 2 (some .int) : Cond) ∈ wsX2_allBelow := mz_mt (mz_ml (mz_ml (mz_mt (mz_mt (mz_mt (mz_mt mz_mh))))))
theorem mz_i_wsX2_allBelow_11 : (.fieldLink RX2 18 "MadeItSo$Drawing" "things" "I" : Cond) ∈ wsX2_allBelow := mz_mt (mz_ml (mz_ml (mz_mt (mz_mt (mz_mt (mz_mt (mz_mt (mz_mt (mz_mt (mz_mt (mz_mt (mz_mt mz_mh))))))))))))
theorem mz_i_wsX2_allBelow_10 : (.code yX2_has cX2_has 2 (some .boolean) : Cond) ∈ wsX2_allBelow := mz_mt (mz_ml (mz_ml (mz_mt (mz_mt (mz_mt (mz_mt (mz_mt (mz_mt (mz_mt (mz_mt (mz_mt mz_mh)))))))))))
theorem mz_i_wsX2_allBelow_4 : (.initialized RX2 : Cond) ∈ wsX2_allBelow := mz_mt (mz_ml (mz_ml (mz_mt (mz_mt (mz_mt mz_mh)))))
theorem mz_i_wsX2_allBelow_9 : (.selects RX2 yX2_has yX2_has : Cond) ∈ wsX2_allBelow := mz_mt (mz_ml (mz_ml (mz_mt (mz_mt (mz_mt (mz_mt (mz_mt (mz_mt (mz_mt (mz_mt mz_mh))))))))))
theorem mz_i_wsX2_allBelow_8 : (.instanceMethod yX2_has : Cond) ∈ wsX2_allBelow := mz_mt (mz_ml (mz_ml (mz_mt (mz_mt (mz_mt (mz_mt (mz_mt (mz_mt (mz_mt mz_mh)))))))))
theorem mz_i_wsX2_allBelow_7 : (.methodLink RX2 22 yX2_has : Cond) ∈ wsX2_allBelow := mz_mt (mz_ml (mz_ml (mz_mt (mz_mt (mz_mt (mz_mt (mz_mt (mz_mt mz_mh))))))))
theorem mz_i_wsX2_allBelow_6 : (.fieldLink RX2 15 "MadeItSo$Drawing" "children" "[I" : Cond) ∈ wsX2_allBelow := mz_mt (mz_ml (mz_ml (mz_mt (mz_mt (mz_mt (mz_mt (mz_mt mz_mh)))))))
theorem mz_f_wsX2_allBelow_wsX20 : ∀ w ∈ wsX20, w ∈ wsX2_allBelow := fun _ h => mz_mt (mz_mr h)
set_option maxRecDepth 20000 in
theorem ggX2_allBelow_X2_childrenOf : GoodIn wsX2_allBelow wsX2_childrenOf := goodIn_sub (mz_fc mz_i_wsX2_allBelow_5 (mz_fa (mz_fc mz_i_wsX2_allBelow_6 (mz_fc mz_i_wsX2_allBelow_7 (mz_fc mz_i_wsX2_allBelow_8 (mz_fc mz_i_wsX2_allBelow_9 (mz_fc mz_i_wsX2_allBelow_4 (mz_fc mz_i_wsX2_allBelow_10 (mz_fc mz_i_wsX2_allBelow_11 mz_fn))))))) (mz_f_wsX2_allBelow_wsX20))) (by decide +kernel)
theorem mz_i_wsX2_allBelow_3 : (.selects RX2 yX2_childrenOf yX2_childrenOf : Cond) ∈ wsX2_allBelow := mz_mt (mz_ml (mz_ml (mz_mt (mz_mt mz_mh))))
theorem mz_i_wsX2_allBelow_2 : (.instanceMethod yX2_childrenOf : Cond) ∈ wsX2_allBelow := mz_mt (mz_ml (mz_ml (mz_mt mz_mh)))
theorem mz_i_wsX2_allBelow_1 : (.methodLink RX2 45 yX2_childrenOf : Cond) ∈ wsX2_allBelow := mz_mt (mz_ml (mz_ml mz_mh))
set_option maxRecDepth 20000 in
theorem gX2_allBelow_X2_childrenOf : GoodIn wsX2_allBelow (wsV RX2 45 RX2 yX2_childrenOf wsX2_childrenOf) := goodIn_app (goodIn_sub (mz_fc mz_i_wsX2_allBelow_1 (mz_fc mz_i_wsX2_allBelow_2 (mz_fc mz_i_wsX2_allBelow_3 (mz_fc mz_i_wsX2_allBelow_4 mz_fn)))) (by decide +kernel)) ggX2_allBelow_X2_childrenOf
theorem mz_i_wsX2_allBelow_15 : (.code yX2_withAllBelow cX2_withAllBelow 2 (some .int) : Cond) ∈ wsX2_allBelow := mz_mt (mz_ml (mz_ml (mz_mt (mz_mt (mz_mt (mz_mt (mz_mt (mz_mt (mz_mt (mz_mt (mz_mt (mz_mt (mz_mt (mz_mt (mz_mt (mz_mt mz_mh))))))))))))))))
theorem mz_i_wsX2_allBelow_25 : (.code yX7_inHeap cX7_inHeap 2 (some .boolean) : Cond) ∈ wsX2_allBelow := mz_mt (mz_ml (mz_mr mz_mh))
theorem mz_i_wsX2_allBelow_24 : (.initialized RX7 : Cond) ∈ wsX2_allBelow := mz_mt (mz_ml (mz_ml (mz_mt (mz_mt (mz_mt (mz_mt (mz_mt (mz_mt (mz_mt (mz_mt (mz_mt (mz_mt (mz_mt (mz_mt (mz_mt (mz_mt (mz_mt (mz_mt (mz_mt (mz_mt (mz_mt (mz_mt (mz_mt (mz_mt (mz_mt mz_mh)))))))))))))))))))))))))
theorem mz_i_wsX2_allBelow_23 : (.static yX7_inHeap : Cond) ∈ wsX2_allBelow := mz_mt (mz_ml (mz_ml (mz_mt (mz_mt (mz_mt (mz_mt (mz_mt (mz_mt (mz_mt (mz_mt (mz_mt (mz_mt (mz_mt (mz_mt (mz_mt (mz_mt (mz_mt (mz_mt (mz_mt (mz_mt (mz_mt (mz_mt (mz_mt (mz_mt mz_mh))))))))))))))))))))))))
theorem mz_i_wsX2_allBelow_22 : (.code yX2_gather cX2_gather 4 (some .int) : Cond) ∈ wsX2_allBelow := mz_mt (mz_ml (mz_ml (mz_mt (mz_mt (mz_mt (mz_mt (mz_mt (mz_mt (mz_mt (mz_mt (mz_mt (mz_mt (mz_mt (mz_mt (mz_mt (mz_mt (mz_mt (mz_mt (mz_mt (mz_mt (mz_mt (mz_mt (mz_mt mz_mh)))))))))))))))))))))))
theorem mz_i_wsX2_allBelow_21 : (.static yX2_gather : Cond) ∈ wsX2_allBelow := mz_mt (mz_ml (mz_ml (mz_mt (mz_mt (mz_mt (mz_mt (mz_mt (mz_mt (mz_mt (mz_mt (mz_mt (mz_mt (mz_mt (mz_mt (mz_mt (mz_mt (mz_mt (mz_mt (mz_mt (mz_mt (mz_mt (mz_mt mz_mh))))))))))))))))))))))
theorem mz_i_wsX2_allBelow_20 : (.methodLink RX2 55 yX2_gather : Cond) ∈ wsX2_allBelow := mz_mt (mz_ml (mz_ml (mz_mt (mz_mt (mz_mt (mz_mt (mz_mt (mz_mt (mz_mt (mz_mt (mz_mt (mz_mt (mz_mt (mz_mt (mz_mt (mz_mt (mz_mt (mz_mt (mz_mt (mz_mt (mz_mt mz_mh)))))))))))))))))))))
theorem mz_i_wsX2_allBelow_19 : (.code yX2_spread cX2_spread 6 (some .int) : Cond) ∈ wsX2_allBelow := mz_mt (mz_ml (mz_ml (mz_mt (mz_mt (mz_mt (mz_mt (mz_mt (mz_mt (mz_mt (mz_mt (mz_mt (mz_mt (mz_mt (mz_mt (mz_mt (mz_mt (mz_mt (mz_mt (mz_mt (mz_mt mz_mh))))))))))))))))))))
theorem mz_i_wsX2_allBelow_18 : (.selects RX2 yX2_spread yX2_spread : Cond) ∈ wsX2_allBelow := mz_mt (mz_ml (mz_ml (mz_mt (mz_mt (mz_mt (mz_mt (mz_mt (mz_mt (mz_mt (mz_mt (mz_mt (mz_mt (mz_mt (mz_mt (mz_mt (mz_mt (mz_mt (mz_mt (mz_mt mz_mh)))))))))))))))))))
theorem mz_i_wsX2_allBelow_17 : (.instanceMethod yX2_spread : Cond) ∈ wsX2_allBelow := mz_mt (mz_ml (mz_ml (mz_mt (mz_mt (mz_mt (mz_mt (mz_mt (mz_mt (mz_mt (mz_mt (mz_mt (mz_mt (mz_mt (mz_mt (mz_mt (mz_mt (mz_mt (mz_mt mz_mh))))))))))))))))))
theorem mz_i_wsX2_allBelow_16 : (.methodLink RX2 51 yX2_spread : Cond) ∈ wsX2_allBelow := mz_mt (mz_ml (mz_ml (mz_mt (mz_mt (mz_mt (mz_mt (mz_mt (mz_mt (mz_mt (mz_mt (mz_mt (mz_mt (mz_mt (mz_mt (mz_mt (mz_mt (mz_mt mz_mh)))))))))))))))))
set_option maxRecDepth 20000 in
theorem ggX2_allBelow_X2_withAllBelow : GoodIn wsX2_allBelow wsX2_withAllBelow := goodIn_sub (mz_fc mz_i_wsX2_allBelow_15 (mz_fa (mz_fc mz_i_wsX2_allBelow_6 (mz_fc mz_i_wsX2_allBelow_16 (mz_fc mz_i_wsX2_allBelow_17 (mz_fc mz_i_wsX2_allBelow_18 (mz_fc mz_i_wsX2_allBelow_4 (mz_fc mz_i_wsX2_allBelow_19 (mz_fc mz_i_wsX2_allBelow_20 (mz_fc mz_i_wsX2_allBelow_21 (mz_fc mz_i_wsX2_allBelow_22 (mz_fc mz_i_wsX2_allBelow_23 (mz_fc mz_i_wsX2_allBelow_24 (mz_fc mz_i_wsX2_allBelow_25 mz_fn)))))))))))) (mz_f_wsX2_allBelow_wsX20))) (by decide +kernel)
theorem mz_i_wsX2_allBelow_14 : (.selects RX2 yX2_withAllBelow yX2_withAllBelow : Cond) ∈ wsX2_allBelow := mz_mt (mz_ml (mz_ml (mz_mt (mz_mt (mz_mt (mz_mt (mz_mt (mz_mt (mz_mt (mz_mt (mz_mt (mz_mt (mz_mt (mz_mt (mz_mt mz_mh)))))))))))))))
theorem mz_i_wsX2_allBelow_13 : (.instanceMethod yX2_withAllBelow : Cond) ∈ wsX2_allBelow := mz_mt (mz_ml (mz_ml (mz_mt (mz_mt (mz_mt (mz_mt (mz_mt (mz_mt (mz_mt (mz_mt (mz_mt (mz_mt (mz_mt (mz_mt mz_mh))))))))))))))
theorem mz_i_wsX2_allBelow_12 : (.methodLink RX2 48 yX2_withAllBelow : Cond) ∈ wsX2_allBelow := mz_mt (mz_ml (mz_ml (mz_mt (mz_mt (mz_mt (mz_mt (mz_mt (mz_mt (mz_mt (mz_mt (mz_mt (mz_mt (mz_mt mz_mh)))))))))))))
set_option maxRecDepth 20000 in
theorem gX2_allBelow_X2_withAllBelow : GoodIn wsX2_allBelow (wsV RX2 48 RX2 yX2_withAllBelow wsX2_withAllBelow) := goodIn_app (goodIn_sub (mz_fc mz_i_wsX2_allBelow_12 (mz_fc mz_i_wsX2_allBelow_13 (mz_fc mz_i_wsX2_allBelow_14 (mz_fc mz_i_wsX2_allBelow_4 mz_fn)))) (by decide +kernel)) ggX2_allBelow_X2_withAllBelow
theorem dX2_allBelow_0 : decode cX2_allBelow 0 = .ok (.aload_n 0, 1) := by decide +kernel
theorem dX2_allBelow_1 : decode cX2_allBelow 1 = .ok (.aload_n 0, 1) := by decide +kernel
theorem dX2_allBelow_2 : decode cX2_allBelow 2 = .ok (.iload_n 1, 1) := by decide +kernel
theorem dX2_allBelow_3 : decode cX2_allBelow 3 = .ok (.invokevirtual 45, 3) := by decide +kernel
theorem dX2_allBelow_6 : decode cX2_allBelow 6 = .ok (.invokevirtual 48, 3) := by decide +kernel
theorem dX2_allBelow_9 : decode cX2_allBelow 9 = .ok (.ireturn, 1) := by decide +kernel
theorem mz_i_wsX2_withAllBelow_6 : (.code yX2_spread cX2_spread 6 (some .int) : Cond) ∈ wsX2_withAllBelow := mz_mt (mz_ml (mz_mt (mz_mt (mz_mt (mz_mt (mz_mt mz_mh))))))
theorem mz_i_wsX2_withAllBelow_12 : (.code yX7_inHeap cX7_inHeap 2 (some .boolean) : Cond) ∈ wsX2_withAllBelow := mz_mt (mz_ml (mz_mt (mz_mt (mz_mt (mz_mt (mz_mt (mz_mt (mz_mt (mz_mt (mz_mt (mz_mt (mz_mt mz_mh))))))))))))
theorem mz_i_wsX2_withAllBelow_11 : (.initialized RX7 : Cond) ∈ wsX2_withAllBelow := mz_mt (mz_ml (mz_mt (mz_mt (mz_mt (mz_mt (mz_mt (mz_mt (mz_mt (mz_mt (mz_mt (mz_mt mz_mh)))))))))))
theorem mz_i_wsX2_withAllBelow_10 : (.static yX7_inHeap : Cond) ∈ wsX2_withAllBelow := mz_mt (mz_ml (mz_mt (mz_mt (mz_mt (mz_mt (mz_mt (mz_mt (mz_mt (mz_mt (mz_mt mz_mh))))))))))
theorem mz_i_wsX2_withAllBelow_9 : (.code yX2_gather cX2_gather 4 (some .int) : Cond) ∈ wsX2_withAllBelow := mz_mt (mz_ml (mz_mt (mz_mt (mz_mt (mz_mt (mz_mt (mz_mt (mz_mt (mz_mt mz_mh)))))))))
theorem mz_i_wsX2_withAllBelow_5 : (.initialized RX2 : Cond) ∈ wsX2_withAllBelow := mz_mt (mz_ml (mz_mt (mz_mt (mz_mt (mz_mt mz_mh)))))
theorem mz_i_wsX2_withAllBelow_8 : (.static yX2_gather : Cond) ∈ wsX2_withAllBelow := mz_mt (mz_ml (mz_mt (mz_mt (mz_mt (mz_mt (mz_mt (mz_mt (mz_mt mz_mh))))))))
theorem mz_i_wsX2_withAllBelow_7 : (.methodLink RX2 55 yX2_gather : Cond) ∈ wsX2_withAllBelow := mz_mt (mz_ml (mz_mt (mz_mt (mz_mt (mz_mt (mz_mt (mz_mt mz_mh)))))))
set_option maxRecDepth 20000 in
theorem ggX2_withAllBelow_X2_spread : GoodIn wsX2_withAllBelow wsX2_spread := goodIn_sub (mz_fc mz_i_wsX2_withAllBelow_6 (mz_fc mz_i_wsX2_withAllBelow_7 (mz_fc mz_i_wsX2_withAllBelow_8 (mz_fc mz_i_wsX2_withAllBelow_5 (mz_fc mz_i_wsX2_withAllBelow_9 (mz_fc mz_i_wsX2_withAllBelow_10 (mz_fc mz_i_wsX2_withAllBelow_11 (mz_fc mz_i_wsX2_withAllBelow_12 mz_fn)))))))) (by decide +kernel)
theorem mz_i_wsX2_withAllBelow_4 : (.selects RX2 yX2_spread yX2_spread : Cond) ∈ wsX2_withAllBelow := mz_mt (mz_ml (mz_mt (mz_mt (mz_mt mz_mh))))
theorem mz_i_wsX2_withAllBelow_3 : (.instanceMethod yX2_spread : Cond) ∈ wsX2_withAllBelow := mz_mt (mz_ml (mz_mt (mz_mt mz_mh)))
theorem mz_i_wsX2_withAllBelow_2 : (.methodLink RX2 51 yX2_spread : Cond) ∈ wsX2_withAllBelow := mz_mt (mz_ml (mz_mt mz_mh))
set_option maxRecDepth 20000 in
theorem gX2_withAllBelow_X2_spread : GoodIn wsX2_withAllBelow (wsV RX2 51 RX2 yX2_spread wsX2_spread) := goodIn_app (goodIn_sub (mz_fc mz_i_wsX2_withAllBelow_2 (mz_fc mz_i_wsX2_withAllBelow_3 (mz_fc mz_i_wsX2_withAllBelow_4 (mz_fc mz_i_wsX2_withAllBelow_5 mz_fn)))) (by decide +kernel)) ggX2_withAllBelow_X2_spread
theorem dX2_withAllBelow_0 : decode cX2_withAllBelow 0 = .ok (.aload_n 0, 1) := by decide +kernel
theorem dX2_withAllBelow_1 : decode cX2_withAllBelow 1 = .ok (.iload_n 1, 1) := by decide +kernel
theorem dX2_withAllBelow_2 : decode cX2_withAllBelow 2 = .ok (.aload_n 0, 1) := by decide +kernel
theorem dX2_withAllBelow_3 : decode cX2_withAllBelow 3 = .ok (.getfield 15, 3) := by decide +kernel
theorem dX2_withAllBelow_6 : decode cX2_withAllBelow 6 = .ok (.invokevirtual 51, 3) := by decide +kernel
theorem dX2_withAllBelow_9 : decode cX2_withAllBelow 9 = .ok (.ireturn, 1) := by decide +kernel
theorem mz_i_wsX2_road_6 : (.code yX2_allBelow cX2_allBelow 2 (some .int) : Cond) ∈ wsX2_road := mz_mt (mz_ml (mz_ml (mz_mt (mz_mt (mz_mt (mz_mt (mz_mt mz_mh)))))))
theorem mz_i_wsX2_road_29 : (.initialized RX7 : Cond) ∈ wsX2_road := mz_mt (mz_ml (mz_mr (mz_mt (mz_mt (mz_mt (mz_mt mz_mh))))))
theorem mz_i_wsX2_road_28 : (.static yX7_inHeap : Cond) ∈ wsX2_road := mz_mt (mz_ml (mz_mr (mz_mt (mz_mt (mz_mt mz_mh)))))
theorem mz_i_wsX2_road_27 : (.code yX2_gather cX2_gather 4 (some .int) : Cond) ∈ wsX2_road := mz_mt (mz_ml (mz_mr (mz_mt (mz_mt mz_mh))))
theorem mz_i_wsX2_road_26 : (.static yX2_gather : Cond) ∈ wsX2_road := mz_mt (mz_ml (mz_mr (mz_mt mz_mh)))
theorem mz_i_wsX2_road_25 : (.methodLink RX2 55 yX2_gather : Cond) ∈ wsX2_road := mz_mt (mz_ml (mz_mr mz_mh))
theorem mz_i_wsX2_road_24 : (.code yX2_spread cX2_spread 6 (some .int) : Cond) ∈ wsX2_road := mz_mt (mz_ml (mz_ml (mz_mt (mz_mt (mz_mt (mz_mt (mz_mt (mz_mt (mz_mt (mz_mt (mz_mt (mz_mt (mz_mt (mz_mt (mz_mt (mz_mt (mz_mt (mz_mt (mz_mt (mz_mt (mz_mt (mz_mt (mz_mt (mz_mt (mz_mt mz_mh)))))))))))))))))))))))))
theorem mz_i_wsX2_road_23 : (.selects RX2 yX2_spread yX2_spread : Cond) ∈ wsX2_road := mz_mt (mz_ml (mz_ml (mz_mt (mz_mt (mz_mt (mz_mt (mz_mt (mz_mt (mz_mt (mz_mt (mz_mt (mz_mt (mz_mt (mz_mt (mz_mt (mz_mt (mz_mt (mz_mt (mz_mt (mz_mt (mz_mt (mz_mt (mz_mt (mz_mt mz_mh))))))))))))))))))))))))
theorem mz_i_wsX2_road_22 : (.instanceMethod yX2_spread : Cond) ∈ wsX2_road := mz_mt (mz_ml (mz_ml (mz_mt (mz_mt (mz_mt (mz_mt (mz_mt (mz_mt (mz_mt (mz_mt (mz_mt (mz_mt (mz_mt (mz_mt (mz_mt (mz_mt (mz_mt (mz_mt (mz_mt (mz_mt (mz_mt (mz_mt (mz_mt mz_mh)))))))))))))))))))))))
theorem mz_i_wsX2_road_21 : (.methodLink RX2 51 yX2_spread : Cond) ∈ wsX2_road := mz_mt (mz_ml (mz_ml (mz_mt (mz_mt (mz_mt (mz_mt (mz_mt (mz_mt (mz_mt (mz_mt (mz_mt (mz_mt (mz_mt (mz_mt (mz_mt (mz_mt (mz_mt (mz_mt (mz_mt (mz_mt (mz_mt (mz_mt mz_mh))))))))))))))))))))))
theorem mz_i_wsX2_road_20 : (.code yX2_withAllBelow cX2_withAllBelow 2 (some .int) : Cond) ∈ wsX2_road := mz_mt (mz_ml (mz_ml (mz_mt (mz_mt (mz_mt (mz_mt (mz_mt (mz_mt (mz_mt (mz_mt (mz_mt (mz_mt (mz_mt (mz_mt (mz_mt (mz_mt (mz_mt (mz_mt (mz_mt (mz_mt (mz_mt mz_mh)))))))))))))))))))))
theorem mz_i_wsX2_road_19 : (.selects RX2 yX2_withAllBelow yX2_withAllBelow : Cond) ∈ wsX2_road := mz_mt (mz_ml (mz_ml (mz_mt (mz_mt (mz_mt (mz_mt (mz_mt (mz_mt (mz_mt (mz_mt (mz_mt (mz_mt (mz_mt (mz_mt (mz_mt (mz_mt (mz_mt (mz_mt (mz_mt (mz_mt mz_mh))))))))))))))))))))
theorem mz_i_wsX2_road_18 : (.instanceMethod yX2_withAllBelow : Cond) ∈ wsX2_road := mz_mt (mz_ml (mz_ml (mz_mt (mz_mt (mz_mt (mz_mt (mz_mt (mz_mt (mz_mt (mz_mt (mz_mt (mz_mt (mz_mt (mz_mt (mz_mt (mz_mt (mz_mt (mz_mt (mz_mt mz_mh)))))))))))))))))))
theorem mz_i_wsX2_road_17 : (.methodLink RX2 48 yX2_withAllBelow : Cond) ∈ wsX2_road := mz_mt (mz_ml (mz_ml (mz_mt (mz_mt (mz_mt (mz_mt (mz_mt (mz_mt (mz_mt (mz_mt (mz_mt (mz_mt (mz_mt (mz_mt (mz_mt (mz_mt (mz_mt (mz_mt mz_mh))))))))))))))))))
theorem mz_i_wsX2_road_16 : (.fieldLink RX2 18 "MadeItSo$Drawing" "things" "I" : Cond) ∈ wsX2_road := mz_mt (mz_ml (mz_ml (mz_mt (mz_mt (mz_mt (mz_mt (mz_mt (mz_mt (mz_mt (mz_mt (mz_mt (mz_mt (mz_mt (mz_mt (mz_mt (mz_mt (mz_mt mz_mh)))))))))))))))))
theorem mz_i_wsX2_road_15 : (.code yX2_has cX2_has 2 (some .boolean) : Cond) ∈ wsX2_road := mz_mt (mz_ml (mz_ml (mz_mt (mz_mt (mz_mt (mz_mt (mz_mt (mz_mt (mz_mt (mz_mt (mz_mt (mz_mt (mz_mt (mz_mt (mz_mt (mz_mt mz_mh))))))))))))))))
theorem mz_i_wsX2_road_14 : (.selects RX2 yX2_has yX2_has : Cond) ∈ wsX2_road := mz_mt (mz_ml (mz_ml (mz_mt (mz_mt (mz_mt (mz_mt (mz_mt (mz_mt (mz_mt (mz_mt (mz_mt (mz_mt (mz_mt (mz_mt (mz_mt mz_mh)))))))))))))))
theorem mz_i_wsX2_road_13 : (.instanceMethod yX2_has : Cond) ∈ wsX2_road := mz_mt (mz_ml (mz_ml (mz_mt (mz_mt (mz_mt (mz_mt (mz_mt (mz_mt (mz_mt (mz_mt (mz_mt (mz_mt (mz_mt (mz_mt mz_mh))))))))))))))
theorem mz_i_wsX2_road_12 : (.methodLink RX2 22 yX2_has : Cond) ∈ wsX2_road := mz_mt (mz_ml (mz_ml (mz_mt (mz_mt (mz_mt (mz_mt (mz_mt (mz_mt (mz_mt (mz_mt (mz_mt (mz_mt (mz_mt mz_mh)))))))))))))
theorem mz_i_wsX2_road_11 : (.fieldLink RX2 15 "MadeItSo$Drawing" "children" "[I" : Cond) ∈ wsX2_road := mz_mt (mz_ml (mz_ml (mz_mt (mz_mt (mz_mt (mz_mt (mz_mt (mz_mt (mz_mt (mz_mt (mz_mt (mz_mt mz_mh))))))))))))
theorem mz_i_wsX2_road_10 : (.code yX2_childrenOf cX2_childrenOf 2 (some .int) : Cond) ∈ wsX2_road := mz_mt (mz_ml (mz_ml (mz_mt (mz_mt (mz_mt (mz_mt (mz_mt (mz_mt (mz_mt (mz_mt (mz_mt mz_mh)))))))))))
theorem mz_i_wsX2_road_5 : (.initialized RX2 : Cond) ∈ wsX2_road := mz_mt (mz_ml (mz_ml (mz_mt (mz_mt (mz_mt (mz_mt mz_mh))))))
theorem mz_i_wsX2_road_9 : (.selects RX2 yX2_childrenOf yX2_childrenOf : Cond) ∈ wsX2_road := mz_mt (mz_ml (mz_ml (mz_mt (mz_mt (mz_mt (mz_mt (mz_mt (mz_mt (mz_mt (mz_mt mz_mh))))))))))
theorem mz_i_wsX2_road_8 : (.instanceMethod yX2_childrenOf : Cond) ∈ wsX2_road := mz_mt (mz_ml (mz_ml (mz_mt (mz_mt (mz_mt (mz_mt (mz_mt (mz_mt (mz_mt mz_mh)))))))))
theorem mz_i_wsX2_road_7 : (.methodLink RX2 45 yX2_childrenOf : Cond) ∈ wsX2_road := mz_mt (mz_ml (mz_ml (mz_mt (mz_mt (mz_mt (mz_mt (mz_mt (mz_mt mz_mh))))))))
theorem mz_i_wsX2_road_30 : (.code yX7_inHeap cX7_inHeap 2 (some .boolean) : Cond) ∈ wsX2_road := mz_mt (mz_ml (mz_mr (mz_mt (mz_mt (mz_mt (mz_mt (mz_mt mz_mh)))))))
theorem mz_f_wsX2_road_wsX20 : ∀ w ∈ wsX20, w ∈ wsX2_road := fun _ h => mz_mt (mz_mr h)
set_option maxRecDepth 20000 in
theorem ggX2_road_X2_allBelow : GoodIn wsX2_road wsX2_allBelow := goodIn_sub (mz_fc mz_i_wsX2_road_6 (mz_fa (mz_fa (mz_fc mz_i_wsX2_road_7 (mz_fc mz_i_wsX2_road_8 (mz_fc mz_i_wsX2_road_9 (mz_fc mz_i_wsX2_road_5 (mz_fc mz_i_wsX2_road_10 (mz_fc mz_i_wsX2_road_11 (mz_fc mz_i_wsX2_road_12 (mz_fc mz_i_wsX2_road_13 (mz_fc mz_i_wsX2_road_14 (mz_fc mz_i_wsX2_road_15 (mz_fc mz_i_wsX2_road_16 (mz_fc mz_i_wsX2_road_17 (mz_fc mz_i_wsX2_road_18 (mz_fc mz_i_wsX2_road_19 (mz_fc mz_i_wsX2_road_20 (mz_fc mz_i_wsX2_road_21 (mz_fc mz_i_wsX2_road_22 (mz_fc mz_i_wsX2_road_23 (mz_fc mz_i_wsX2_road_24 (mz_fc mz_i_wsX2_road_25 (mz_fc mz_i_wsX2_road_26 (mz_fc mz_i_wsX2_road_27 (mz_fc mz_i_wsX2_road_28 (mz_fc mz_i_wsX2_road_29 mz_fn)))))))))))))))))))))))) (mz_fc mz_i_wsX2_road_30 mz_fn)) (mz_f_wsX2_road_wsX20))) (by decide +kernel)
theorem mz_i_wsX2_road_4 : (.selects RX2 yX2_allBelow yX2_allBelow : Cond) ∈ wsX2_road := mz_mt (mz_ml (mz_ml (mz_mt (mz_mt (mz_mt mz_mh)))))
theorem mz_i_wsX2_road_3 : (.instanceMethod yX2_allBelow : Cond) ∈ wsX2_road := mz_mt (mz_ml (mz_ml (mz_mt (mz_mt mz_mh))))
theorem mz_i_wsX2_road_2 : (.methodLink RX2 34 yX2_allBelow : Cond) ∈ wsX2_road := mz_mt (mz_ml (mz_ml (mz_mt mz_mh)))
set_option maxRecDepth 20000 in
theorem gX2_road_X2_allBelow : GoodIn wsX2_road (wsV RX2 34 RX2 yX2_allBelow wsX2_allBelow) := goodIn_app (goodIn_sub (mz_fc mz_i_wsX2_road_2 (mz_fc mz_i_wsX2_road_3 (mz_fc mz_i_wsX2_road_4 (mz_fc mz_i_wsX2_road_5 mz_fn)))) (by decide +kernel)) ggX2_road_X2_allBelow
theorem mz_i_wsX2_road_32 : (.code yX7_bit cX7_bit 1 (some .int) : Cond) ∈ wsX2_road := mz_mt (mz_ml (mz_mr (mz_mt (mz_mt (mz_mt (mz_mt (mz_mt (mz_mt (mz_mt mz_mh)))))))))
set_option maxRecDepth 20000 in
theorem ggX2_road_X7_bit : GoodIn wsX2_road wsX7_bit := goodIn_sub (mz_fc mz_i_wsX2_road_32 (mz_fn)) (by decide +kernel)
set_option maxRecDepth 20000 in
theorem gX2_road_X7_bit_n37 : GoodIn wsX2_road (wsX7_bit) := ggX2_road_X7_bit
set_option maxRecDepth 20000 in
theorem ggX2_road_X2_spread : GoodIn wsX2_road wsX2_spread := goodIn_sub (mz_fc mz_i_wsX2_road_24 (mz_fc mz_i_wsX2_road_25 (mz_fc mz_i_wsX2_road_26 (mz_fc mz_i_wsX2_road_5 (mz_fc mz_i_wsX2_road_27 (mz_fc mz_i_wsX2_road_28 (mz_fc mz_i_wsX2_road_29 (mz_fc mz_i_wsX2_road_30 mz_fn)))))))) (by decide +kernel)
set_option maxRecDepth 20000 in
theorem gX2_road_X2_spread : GoodIn wsX2_road (wsV RX2 51 RX2 yX2_spread wsX2_spread) := goodIn_app (goodIn_sub (mz_fc mz_i_wsX2_road_21 (mz_fc mz_i_wsX2_road_22 (mz_fc mz_i_wsX2_road_23 (mz_fc mz_i_wsX2_road_5 mz_fn)))) (by decide +kernel)) ggX2_road_X2_spread
theorem dX2_road_0 : decode cX2_road 0 = .ok (.aload_n 0, 1) := by decide +kernel
theorem dX2_road_1 : decode cX2_road 1 = .ok (.iload_n 1, 1) := by decide +kernel
theorem dX2_road_2 : decode cX2_road 2 = .ok (.invokevirtual 34, 3) := by decide +kernel
theorem dX2_road_5 : decode cX2_road 5 = .ok (.aload_n 0, 1) := by decide +kernel
theorem dX2_road_6 : decode cX2_road 6 = .ok (.iload_n 2, 1) := by decide +kernel
theorem dX2_road_7 : decode cX2_road 7 = .ok (.invokestatic 37, 3) := by decide +kernel
theorem dX2_road_10 : decode cX2_road 10 = .ok (.aload_n 0, 1) := by decide +kernel
theorem dX2_road_11 : decode cX2_road 11 = .ok (.getfield 9, 3) := by decide +kernel
theorem dX2_road_14 : decode cX2_road 14 = .ok (.invokevirtual 51, 3) := by decide +kernel
theorem dX2_road_17 : decode cX2_road 17 = .ok (.iand, 1) := by decide +kernel
theorem dX2_road_18 : decode cX2_road 18 = .ok (.ireturn, 1) := by decide +kernel
theorem mz_i_wsX2_nextAfter_5 : (.code yX7_inHeap cX7_inHeap 2 (some .boolean) : Cond) ∈ wsX2_nextAfter := mz_mt (mz_ml (mz_mt (mz_mt (mz_mt (mz_mt mz_mh)))))
set_option maxRecDepth 20000 in
theorem ggX2_nextAfter_X7_inHeap : GoodIn wsX2_nextAfter wsX7_inHeap := goodIn_sub (mz_fc mz_i_wsX2_nextAfter_5 (mz_fn)) (by decide +kernel)
set_option maxRecDepth 20000 in
theorem gX2_nextAfter_X7_inHeap_n26 : GoodIn wsX2_nextAfter (wsX7_inHeap) := ggX2_nextAfter_X7_inHeap
theorem dX2_nextAfter_0 : decode cX2_nextAfter 0 = .ok (.iconst 0, 1) := by decide +kernel
theorem dX2_nextAfter_1 : decode cX2_nextAfter 1 = .ok (.istore_n 2, 1) := by decide +kernel
theorem dX2_nextAfter_2 : decode cX2_nextAfter 2 = .ok (.iload_n 2, 1) := by decide +kernel
theorem dX2_nextAfter_3 : decode cX2_nextAfter 3 = .ok (.aload_n 0, 1) := by decide +kernel
theorem dX2_nextAfter_4 : decode cX2_nextAfter 4 = .ok (.getfield 18, 3) := by decide +kernel
theorem dX2_nextAfter_7 : decode cX2_nextAfter 7 = .ok (.if_icmp .ge 32, 3) := by decide +kernel
theorem dX2_nextAfter_10 : decode cX2_nextAfter 10 = .ok (.iload_n 1, 1) := by decide +kernel
theorem dX2_nextAfter_11 : decode cX2_nextAfter 11 = .ok (.iload_n 2, 1) := by decide +kernel
theorem dX2_nextAfter_12 : decode cX2_nextAfter 12 = .ok (.invokestatic 26, 3) := by decide +kernel
theorem dX2_nextAfter_15 : decode cX2_nextAfter 15 = .ok (.ifCond .ne 18, 3) := by decide +kernel
theorem dX2_nextAfter_18 : decode cX2_nextAfter 18 = .ok (.aload_n 0, 1) := by decide +kernel
theorem dX2_nextAfter_19 : decode cX2_nextAfter 19 = .ok (.getfield 9, 3) := by decide +kernel
theorem dX2_nextAfter_22 : decode cX2_nextAfter 22 = .ok (.iload_n 2, 1) := by decide +kernel
theorem dX2_nextAfter_23 : decode cX2_nextAfter 23 = .ok (.iaload, 1) := by decide +kernel
theorem dX2_nextAfter_24 : decode cX2_nextAfter 24 = .ok (.iload_n 1, 1) := by decide +kernel
theorem dX2_nextAfter_25 : decode cX2_nextAfter 25 = .ok (.iconst (-1), 1) := by decide +kernel
theorem dX2_nextAfter_26 : decode cX2_nextAfter 26 = .ok (.ixor, 1) := by decide +kernel
theorem dX2_nextAfter_27 : decode cX2_nextAfter 27 = .ok (.iand, 1) := by decide +kernel
theorem dX2_nextAfter_28 : decode cX2_nextAfter 28 = .ok (.ifCond .ne 5, 3) := by decide +kernel
theorem dX2_nextAfter_31 : decode cX2_nextAfter 31 = .ok (.iload_n 2, 1) := by decide +kernel
theorem dX2_nextAfter_32 : decode cX2_nextAfter 32 = .ok (.ireturn, 1) := by decide +kernel
theorem dX2_nextAfter_33 : decode cX2_nextAfter 33 = .ok (.iinc 2 1, 3) := by decide +kernel
theorem dX2_nextAfter_36 : decode cX2_nextAfter 36 = .ok (.goto (-34), 3) := by decide +kernel
theorem dX2_nextAfter_39 : decode cX2_nextAfter 39 = .ok (.iconst (-1), 1) := by decide +kernel
theorem dX2_nextAfter_40 : decode cX2_nextAfter 40 = .ok (.ireturn, 1) := by decide +kernel
theorem mz_i_wsX2_barred_7 : (.code yX2_spread cX2_spread 6 (some .int) : Cond) ∈ wsX2_barred := mz_mt (mz_ml (mz_mt (mz_mt (mz_mt (mz_mt (mz_mt (mz_mt mz_mh)))))))
theorem mz_i_wsX2_barred_13 : (.code yX7_inHeap cX7_inHeap 2 (some .boolean) : Cond) ∈ wsX2_barred := mz_mt (mz_ml (mz_mt (mz_mt (mz_mt (mz_mt (mz_mt (mz_mt (mz_mt (mz_mt (mz_mt (mz_mt (mz_mt (mz_mt mz_mh)))))))))))))
theorem mz_i_wsX2_barred_12 : (.initialized RX7 : Cond) ∈ wsX2_barred := mz_mt (mz_ml (mz_mt (mz_mt (mz_mt (mz_mt (mz_mt (mz_mt (mz_mt (mz_mt (mz_mt (mz_mt (mz_mt mz_mh))))))))))))
theorem mz_i_wsX2_barred_11 : (.static yX7_inHeap : Cond) ∈ wsX2_barred := mz_mt (mz_ml (mz_mt (mz_mt (mz_mt (mz_mt (mz_mt (mz_mt (mz_mt (mz_mt (mz_mt (mz_mt mz_mh)))))))))))
theorem mz_i_wsX2_barred_10 : (.code yX2_gather cX2_gather 4 (some .int) : Cond) ∈ wsX2_barred := mz_mt (mz_ml (mz_mt (mz_mt (mz_mt (mz_mt (mz_mt (mz_mt (mz_mt (mz_mt (mz_mt mz_mh))))))))))
theorem mz_i_wsX2_barred_6 : (.initialized RX2 : Cond) ∈ wsX2_barred := mz_mt (mz_ml (mz_mt (mz_mt (mz_mt (mz_mt (mz_mt mz_mh))))))
theorem mz_i_wsX2_barred_9 : (.static yX2_gather : Cond) ∈ wsX2_barred := mz_mt (mz_ml (mz_mt (mz_mt (mz_mt (mz_mt (mz_mt (mz_mt (mz_mt (mz_mt mz_mh)))))))))
theorem mz_i_wsX2_barred_8 : (.methodLink RX2 55 yX2_gather : Cond) ∈ wsX2_barred := mz_mt (mz_ml (mz_mt (mz_mt (mz_mt (mz_mt (mz_mt (mz_mt (mz_mt mz_mh))))))))
set_option maxRecDepth 20000 in
theorem ggX2_barred_X2_spread : GoodIn wsX2_barred wsX2_spread := goodIn_sub (mz_fc mz_i_wsX2_barred_7 (mz_fc mz_i_wsX2_barred_8 (mz_fc mz_i_wsX2_barred_9 (mz_fc mz_i_wsX2_barred_6 (mz_fc mz_i_wsX2_barred_10 (mz_fc mz_i_wsX2_barred_11 (mz_fc mz_i_wsX2_barred_12 (mz_fc mz_i_wsX2_barred_13 mz_fn)))))))) (by decide +kernel)
theorem mz_i_wsX2_barred_5 : (.selects RX2 yX2_spread yX2_spread : Cond) ∈ wsX2_barred := mz_mt (mz_ml (mz_mt (mz_mt (mz_mt (mz_mt mz_mh)))))
theorem mz_i_wsX2_barred_4 : (.instanceMethod yX2_spread : Cond) ∈ wsX2_barred := mz_mt (mz_ml (mz_mt (mz_mt (mz_mt mz_mh))))
theorem mz_i_wsX2_barred_3 : (.methodLink RX2 51 yX2_spread : Cond) ∈ wsX2_barred := mz_mt (mz_ml (mz_mt (mz_mt mz_mh)))
set_option maxRecDepth 20000 in
theorem gX2_barred_X2_spread : GoodIn wsX2_barred (wsV RX2 51 RX2 yX2_spread wsX2_spread) := goodIn_app (goodIn_sub (mz_fc mz_i_wsX2_barred_3 (mz_fc mz_i_wsX2_barred_4 (mz_fc mz_i_wsX2_barred_5 (mz_fc mz_i_wsX2_barred_6 mz_fn)))) (by decide +kernel)) ggX2_barred_X2_spread
set_option maxRecDepth 20000 in
theorem ggX2_barred_X2_gather : GoodIn wsX2_barred wsX2_gather := goodIn_sub (mz_fc mz_i_wsX2_barred_10 (mz_fc mz_i_wsX2_barred_11 (mz_fc mz_i_wsX2_barred_12 (mz_fc mz_i_wsX2_barred_13 mz_fn)))) (by decide +kernel)
set_option maxRecDepth 20000 in
theorem gX2_barred_X2_gather : GoodIn wsX2_barred (va_wsS RX2 55 yX2_gather wsX2_gather) := goodIn_app (goodIn_sub (mz_fc mz_i_wsX2_barred_8 (mz_fc mz_i_wsX2_barred_9 (mz_fc mz_i_wsX2_barred_6 mz_fn))) (by decide +kernel)) ggX2_barred_X2_gather
theorem dX2_barred_0 : decode cX2_barred 0 = .ok (.aload_n 0, 1) := by decide +kernel
theorem dX2_barred_1 : decode cX2_barred 1 = .ok (.iload_n 3, 1) := by decide +kernel
theorem dX2_barred_2 : decode cX2_barred 2 = .ok (.aload_n 0, 1) := by decide +kernel
theorem dX2_barred_3 : decode cX2_barred 3 = .ok (.getfield 9, 3) := by decide +kernel
theorem dX2_barred_6 : decode cX2_barred 6 = .ok (.invokevirtual 51, 3) := by decide +kernel
theorem dX2_barred_9 : decode cX2_barred 9 = .ok (.istore 4, 2) := by decide +kernel
theorem dX2_barred_11 : decode cX2_barred 11 = .ok (.iload_n 1, 1) := by decide +kernel
theorem dX2_barred_12 : decode cX2_barred 12 = .ok (.istore 5, 2) := by decide +kernel
theorem dX2_barred_14 : decode cX2_barred 14 = .ok (.iconst 0, 1) := by decide +kernel
theorem dX2_barred_15 : decode cX2_barred 15 = .ok (.istore 6, 2) := by decide +kernel
theorem dX2_barred_17 : decode cX2_barred 17 = .ok (.iconst 0, 1) := by decide +kernel
theorem dX2_barred_18 : decode cX2_barred 18 = .ok (.istore 7, 2) := by decide +kernel
theorem dX2_barred_20 : decode cX2_barred 20 = .ok (.iload 7, 2) := by decide +kernel
theorem dX2_barred_22 : decode cX2_barred 22 = .ok (.bipush 16, 2) := by decide +kernel
theorem dX2_barred_24 : decode cX2_barred 24 = .ok (.if_icmp .ge 87, 3) := by decide +kernel
theorem dX2_barred_27 : decode cX2_barred 27 = .ok (.iload 5, 2) := by decide +kernel
theorem dX2_barred_29 : decode cX2_barred 29 = .ok (.iload_n 3, 1) := by decide +kernel
theorem dX2_barred_30 : decode cX2_barred 30 = .ok (.iconst (-1), 1) := by decide +kernel
theorem dX2_barred_31 : decode cX2_barred 31 = .ok (.ixor, 1) := by decide +kernel
theorem dX2_barred_32 : decode cX2_barred 32 = .ok (.iand, 1) := by decide +kernel
theorem dX2_barred_33 : decode cX2_barred 33 = .ok (.iload 6, 2) := by decide +kernel
theorem dX2_barred_35 : decode cX2_barred 35 = .ok (.iload 4, 2) := by decide +kernel
theorem dX2_barred_37 : decode cX2_barred 37 = .ok (.iand, 1) := by decide +kernel
theorem dX2_barred_38 : decode cX2_barred 38 = .ok (.ior, 1) := by decide +kernel
theorem dX2_barred_39 : decode cX2_barred 39 = .ok (.istore 8, 2) := by decide +kernel
theorem dX2_barred_41 : decode cX2_barred 41 = .ok (.iload 5, 2) := by decide +kernel
theorem dX2_barred_43 : decode cX2_barred 43 = .ok (.iload 6, 2) := by decide +kernel
theorem dX2_barred_45 : decode cX2_barred 45 = .ok (.ior, 1) := by decide +kernel
theorem dX2_barred_46 : decode cX2_barred 46 = .ok (.iload_n 3, 1) := by decide +kernel
theorem dX2_barred_47 : decode cX2_barred 47 = .ok (.iconst (-1), 1) := by decide +kernel
theorem dX2_barred_48 : decode cX2_barred 48 = .ok (.ixor, 1) := by decide +kernel
theorem dX2_barred_49 : decode cX2_barred 49 = .ok (.iand, 1) := by decide +kernel
theorem dX2_barred_50 : decode cX2_barred 50 = .ok (.istore 9, 2) := by decide +kernel
theorem dX2_barred_52 : decode cX2_barred 52 = .ok (.iload 5, 2) := by decide +kernel
theorem dX2_barred_54 : decode cX2_barred 54 = .ok (.iload 8, 2) := by decide +kernel
theorem dX2_barred_56 : decode cX2_barred 56 = .ok (.aload_n 0, 1) := by decide +kernel
theorem dX2_barred_57 : decode cX2_barred 57 = .ok (.getfield 9, 3) := by decide +kernel
theorem dX2_barred_60 : decode cX2_barred 60 = .ok (.invokestatic 55, 3) := by decide +kernel
theorem dX2_barred_63 : decode cX2_barred 63 = .ok (.ior, 1) := by decide +kernel
theorem dX2_barred_64 : decode cX2_barred 64 = .ok (.istore 10, 2) := by decide +kernel
theorem dX2_barred_66 : decode cX2_barred 66 = .ok (.iload 6, 2) := by decide +kernel
theorem dX2_barred_68 : decode cX2_barred 68 = .ok (.iload 9, 2) := by decide +kernel
theorem dX2_barred_70 : decode cX2_barred 70 = .ok (.aload_n 0, 1) := by decide +kernel
theorem dX2_barred_71 : decode cX2_barred 71 = .ok (.getfield 15, 3) := by decide +kernel
theorem dX2_barred_74 : decode cX2_barred 74 = .ok (.invokestatic 55, 3) := by decide +kernel
theorem dX2_barred_77 : decode cX2_barred 77 = .ok (.ior, 1) := by decide +kernel
theorem dX2_barred_78 : decode cX2_barred 78 = .ok (.istore 11, 2) := by decide +kernel
theorem dX2_barred_80 : decode cX2_barred 80 = .ok (.iload 10, 2) := by decide +kernel
theorem dX2_barred_82 : decode cX2_barred 82 = .ok (.iload 5, 2) := by decide +kernel
theorem dX2_barred_84 : decode cX2_barred 84 = .ok (.if_icmp .ne 13, 3) := by decide +kernel
theorem dX2_barred_87 : decode cX2_barred 87 = .ok (.iload 11, 2) := by decide +kernel
theorem dX2_barred_89 : decode cX2_barred 89 = .ok (.iload 6, 2) := by decide +kernel
theorem dX2_barred_91 : decode cX2_barred 91 = .ok (.if_icmp .ne 6, 3) := by decide +kernel
theorem dX2_barred_94 : decode cX2_barred 94 = .ok (.goto 17, 3) := by decide +kernel
theorem dX2_barred_97 : decode cX2_barred 97 = .ok (.iload 10, 2) := by decide +kernel
theorem dX2_barred_99 : decode cX2_barred 99 = .ok (.istore 5, 2) := by decide +kernel
theorem dX2_barred_101 : decode cX2_barred 101 = .ok (.iload 11, 2) := by decide +kernel
theorem dX2_barred_103 : decode cX2_barred 103 = .ok (.istore 6, 2) := by decide +kernel
theorem dX2_barred_105 : decode cX2_barred 105 = .ok (.iinc 7 1, 3) := by decide +kernel
theorem dX2_barred_108 : decode cX2_barred 108 = .ok (.goto (-88), 3) := by decide +kernel
theorem dX2_barred_111 : decode cX2_barred 111 = .ok (.iload 5, 2) := by decide +kernel
theorem dX2_barred_113 : decode cX2_barred 113 = .ok (.iload 6, 2) := by decide +kernel
theorem dX2_barred_115 : decode cX2_barred 115 = .ok (.ior, 1) := by decide +kernel
theorem dX2_barred_116 : decode cX2_barred 116 = .ok (.iload_n 2, 1) := by decide +kernel
theorem dX2_barred_117 : decode cX2_barred 117 = .ok (.iand, 1) := by decide +kernel
theorem dX2_barred_118 : decode cX2_barred 118 = .ok (.ifCond .ne 7, 3) := by decide +kernel
theorem dX2_barred_121 : decode cX2_barred 121 = .ok (.iconst 1, 1) := by decide +kernel
theorem dX2_barred_122 : decode cX2_barred 122 = .ok (.goto 4, 3) := by decide +kernel
theorem dX2_barred_125 : decode cX2_barred 125 = .ok (.iconst 0, 1) := by decide +kernel
theorem dX2_barred_126 : decode cX2_barred 126 = .ok (.ireturn, 1) := by decide +kernel
theorem mz_i_wsX2_apart_4 : (.code yX7_inHeap cX7_inHeap 2 (some .boolean) : Cond) ∈ wsX2_apart := mz_mt (mz_ml (mz_mt (mz_mt (mz_mt mz_mh))))
set_option maxRecDepth 20000 in
theorem ggX2_apart_X7_inHeap : GoodIn wsX2_apart wsX7_inHeap := goodIn_sub (mz_fc mz_i_wsX2_apart_4 (mz_fn)) (by decide +kernel)
set_option maxRecDepth 20000 in
theorem gX2_apart_X7_inHeap_n26 : GoodIn wsX2_apart (wsX7_inHeap) := ggX2_apart_X7_inHeap
theorem mz_i_wsX2_apart_9 : (.code yX2_joinedTo cX2_joinedTo 2 (some .int) : Cond) ∈ wsX2_apart := mz_mt (mz_ml (mz_mt (mz_mt (mz_mt (mz_mt (mz_mt (mz_mt (mz_mt (mz_mt mz_mh)))))))))
theorem mz_i_wsX2_apart_1 : (.fieldLink RX2 18 "MadeItSo$Drawing" "things" "I" : Cond) ∈ wsX2_apart := mz_mt (mz_ml mz_mh)
theorem mz_i_wsX2_apart_15 : (.code yX2_has cX2_has 2 (some .boolean) : Cond) ∈ wsX2_apart := mz_mt (mz_ml (mz_mt (mz_mt (mz_mt (mz_mt (mz_mt (mz_mt (mz_mt (mz_mt (mz_mt (mz_mt (mz_mt (mz_mt (mz_mt (mz_mt mz_mh)))))))))))))))
theorem mz_i_wsX2_apart_8 : (.initialized RX2 : Cond) ∈ wsX2_apart := mz_mt (mz_ml (mz_mt (mz_mt (mz_mt (mz_mt (mz_mt (mz_mt (mz_mt mz_mh))))))))
theorem mz_i_wsX2_apart_14 : (.selects RX2 yX2_has yX2_has : Cond) ∈ wsX2_apart := mz_mt (mz_ml (mz_mt (mz_mt (mz_mt (mz_mt (mz_mt (mz_mt (mz_mt (mz_mt (mz_mt (mz_mt (mz_mt (mz_mt (mz_mt mz_mh))))))))))))))
theorem mz_i_wsX2_apart_13 : (.instanceMethod yX2_has : Cond) ∈ wsX2_apart := mz_mt (mz_ml (mz_mt (mz_mt (mz_mt (mz_mt (mz_mt (mz_mt (mz_mt (mz_mt (mz_mt (mz_mt (mz_mt (mz_mt mz_mh)))))))))))))
theorem mz_i_wsX2_apart_12 : (.methodLink RX2 22 yX2_has : Cond) ∈ wsX2_apart := mz_mt (mz_ml (mz_mt (mz_mt (mz_mt (mz_mt (mz_mt (mz_mt (mz_mt (mz_mt (mz_mt (mz_mt (mz_mt mz_mh))))))))))))
theorem mz_i_wsX2_apart_11 : (.fieldLink RX2 15 "MadeItSo$Drawing" "children" "[I" : Cond) ∈ wsX2_apart := mz_mt (mz_ml (mz_mt (mz_mt (mz_mt (mz_mt (mz_mt (mz_mt (mz_mt (mz_mt (mz_mt (mz_mt mz_mh)))))))))))
theorem mz_i_wsX2_apart_10 : (.fieldLink RX2 9 "MadeItSo$Drawing" "parents" "[I" : Cond) ∈ wsX2_apart := mz_mt (mz_ml (mz_mt (mz_mt (mz_mt (mz_mt (mz_mt (mz_mt (mz_mt (mz_mt (mz_mt mz_mh))))))))))
theorem mz_f_wsX2_apart_wsX20 : ∀ w ∈ wsX20, w ∈ wsX2_apart := fun _ h => mz_mt (mz_mr h)
set_option maxRecDepth 20000 in
theorem ggX2_apart_X2_joinedTo : GoodIn wsX2_apart wsX2_joinedTo := goodIn_sub (mz_fc mz_i_wsX2_apart_9 (mz_fa (mz_fc mz_i_wsX2_apart_10 (mz_fc mz_i_wsX2_apart_11 (mz_fc mz_i_wsX2_apart_12 (mz_fc mz_i_wsX2_apart_13 (mz_fc mz_i_wsX2_apart_14 (mz_fc mz_i_wsX2_apart_8 (mz_fc mz_i_wsX2_apart_15 (mz_fc mz_i_wsX2_apart_1 mz_fn)))))))) (mz_f_wsX2_apart_wsX20))) (by decide +kernel)
theorem mz_i_wsX2_apart_7 : (.selects RX2 yX2_joinedTo yX2_joinedTo : Cond) ∈ wsX2_apart := mz_mt (mz_ml (mz_mt (mz_mt (mz_mt (mz_mt (mz_mt (mz_mt mz_mh)))))))
theorem mz_i_wsX2_apart_6 : (.instanceMethod yX2_joinedTo : Cond) ∈ wsX2_apart := mz_mt (mz_ml (mz_mt (mz_mt (mz_mt (mz_mt (mz_mt mz_mh))))))
theorem mz_i_wsX2_apart_5 : (.methodLink RX2 30 yX2_joinedTo : Cond) ∈ wsX2_apart := mz_mt (mz_ml (mz_mt (mz_mt (mz_mt (mz_mt mz_mh)))))
set_option maxRecDepth 20000 in
theorem gX2_apart_X2_joinedTo : GoodIn wsX2_apart (wsV RX2 30 RX2 yX2_joinedTo wsX2_joinedTo) := goodIn_app (goodIn_sub (mz_fc mz_i_wsX2_apart_5 (mz_fc mz_i_wsX2_apart_6 (mz_fc mz_i_wsX2_apart_7 (mz_fc mz_i_wsX2_apart_8 mz_fn)))) (by decide +kernel)) ggX2_apart_X2_joinedTo
theorem dX2_apart_0 : decode cX2_apart 0 = .ok (.iconst 0, 1) := by decide +kernel
theorem dX2_apart_1 : decode cX2_apart 1 = .ok (.istore_n 2, 1) := by decide +kernel
theorem dX2_apart_2 : decode cX2_apart 2 = .ok (.iload_n 2, 1) := by decide +kernel
theorem dX2_apart_3 : decode cX2_apart 3 = .ok (.aload_n 0, 1) := by decide +kernel
theorem dX2_apart_4 : decode cX2_apart 4 = .ok (.getfield 18, 3) := by decide +kernel
theorem dX2_apart_7 : decode cX2_apart 7 = .ok (.if_icmp .ge 29, 3) := by decide +kernel
theorem dX2_apart_10 : decode cX2_apart 10 = .ok (.iload_n 1, 1) := by decide +kernel
theorem dX2_apart_11 : decode cX2_apart 11 = .ok (.iload_n 2, 1) := by decide +kernel
theorem dX2_apart_12 : decode cX2_apart 12 = .ok (.invokestatic 26, 3) := by decide +kernel
theorem dX2_apart_15 : decode cX2_apart 15 = .ok (.ifCond .eq 15, 3) := by decide +kernel
theorem dX2_apart_18 : decode cX2_apart 18 = .ok (.aload_n 0, 1) := by decide +kernel
theorem dX2_apart_19 : decode cX2_apart 19 = .ok (.iload_n 2, 1) := by decide +kernel
theorem dX2_apart_20 : decode cX2_apart 20 = .ok (.invokevirtual 30, 3) := by decide +kernel
theorem dX2_apart_23 : decode cX2_apart 23 = .ok (.iload_n 1, 1) := by decide +kernel
theorem dX2_apart_24 : decode cX2_apart 24 = .ok (.iand, 1) := by decide +kernel
theorem dX2_apart_25 : decode cX2_apart 25 = .ok (.ifCond .eq 5, 3) := by decide +kernel
theorem dX2_apart_28 : decode cX2_apart 28 = .ok (.iconst 0, 1) := by decide +kernel
theorem dX2_apart_29 : decode cX2_apart 29 = .ok (.ireturn, 1) := by decide +kernel
theorem dX2_apart_30 : decode cX2_apart 30 = .ok (.iinc 2 1, 3) := by decide +kernel
theorem dX2_apart_33 : decode cX2_apart 33 = .ok (.goto (-31), 3) := by decide +kernel
theorem dX2_apart_36 : decode cX2_apart 36 = .ok (.iconst 1, 1) := by decide +kernel
theorem dX2_apart_37 : decode cX2_apart 37 = .ok (.ireturn, 1) := by decide +kernel
theorem mz_i_wsX2_sameThirds_6 : (.code yX2_parentsOf cX2_parentsOf 2 (some .int) : Cond) ∈ wsX2_sameThirds := mz_mt (mz_ml (mz_ml (mz_mt (mz_mt (mz_mt (mz_mt (mz_mt mz_mh)))))))
theorem mz_i_wsX2_sameThirds_1 : (.fieldLink RX2 18 "MadeItSo$Drawing" "things" "I" : Cond) ∈ wsX2_sameThirds := mz_mt (mz_ml (mz_ml mz_mh))
theorem mz_i_wsX2_sameThirds_11 : (.code yX2_has cX2_has 2 (some .boolean) : Cond) ∈ wsX2_sameThirds := mz_mt (mz_ml (mz_ml (mz_mt (mz_mt (mz_mt (mz_mt (mz_mt (mz_mt (mz_mt (mz_mt (mz_mt (mz_mt mz_mh))))))))))))
theorem mz_i_wsX2_sameThirds_5 : (.initialized RX2 : Cond) ∈ wsX2_sameThirds := mz_mt (mz_ml (mz_ml (mz_mt (mz_mt (mz_mt (mz_mt mz_mh))))))
theorem mz_i_wsX2_sameThirds_10 : (.selects RX2 yX2_has yX2_has : Cond) ∈ wsX2_sameThirds := mz_mt (mz_ml (mz_ml (mz_mt (mz_mt (mz_mt (mz_mt (mz_mt (mz_mt (mz_mt (mz_mt (mz_mt mz_mh)))))))))))
theorem mz_i_wsX2_sameThirds_9 : (.instanceMethod yX2_has : Cond) ∈ wsX2_sameThirds := mz_mt (mz_ml (mz_ml (mz_mt (mz_mt (mz_mt (mz_mt (mz_mt (mz_mt (mz_mt (mz_mt mz_mh))))))))))
theorem mz_i_wsX2_sameThirds_8 : (.methodLink RX2 22 yX2_has : Cond) ∈ wsX2_sameThirds := mz_mt (mz_ml (mz_ml (mz_mt (mz_mt (mz_mt (mz_mt (mz_mt (mz_mt (mz_mt mz_mh)))))))))
theorem mz_i_wsX2_sameThirds_7 : (.fieldLink RX2 9 "MadeItSo$Drawing" "parents" "[I" : Cond) ∈ wsX2_sameThirds := mz_mt (mz_ml (mz_ml (mz_mt (mz_mt (mz_mt (mz_mt (mz_mt (mz_mt mz_mh))))))))
theorem mz_f_wsX2_sameThirds_wsX20 : ∀ w ∈ wsX20, w ∈ wsX2_sameThirds := fun _ h => mz_mt (mz_mr h)
set_option maxRecDepth 20000 in
theorem ggX2_sameThirds_X2_parentsOf : GoodIn wsX2_sameThirds wsX2_parentsOf := goodIn_sub (mz_fc mz_i_wsX2_sameThirds_6 (mz_fa (mz_fc mz_i_wsX2_sameThirds_7 (mz_fc mz_i_wsX2_sameThirds_8 (mz_fc mz_i_wsX2_sameThirds_9 (mz_fc mz_i_wsX2_sameThirds_10 (mz_fc mz_i_wsX2_sameThirds_5 (mz_fc mz_i_wsX2_sameThirds_11 (mz_fc mz_i_wsX2_sameThirds_1 mz_fn))))))) (mz_f_wsX2_sameThirds_wsX20))) (by decide +kernel)
theorem mz_i_wsX2_sameThirds_4 : (.selects RX2 yX2_parentsOf yX2_parentsOf : Cond) ∈ wsX2_sameThirds := mz_mt (mz_ml (mz_ml (mz_mt (mz_mt (mz_mt mz_mh)))))
theorem mz_i_wsX2_sameThirds_3 : (.instanceMethod yX2_parentsOf : Cond) ∈ wsX2_sameThirds := mz_mt (mz_ml (mz_ml (mz_mt (mz_mt mz_mh))))
theorem mz_i_wsX2_sameThirds_2 : (.methodLink RX2 58 yX2_parentsOf : Cond) ∈ wsX2_sameThirds := mz_mt (mz_ml (mz_ml (mz_mt mz_mh)))
set_option maxRecDepth 20000 in
theorem gX2_sameThirds_X2_parentsOf : GoodIn wsX2_sameThirds (wsV RX2 58 RX2 yX2_parentsOf wsX2_parentsOf) := goodIn_app (goodIn_sub (mz_fc mz_i_wsX2_sameThirds_2 (mz_fc mz_i_wsX2_sameThirds_3 (mz_fc mz_i_wsX2_sameThirds_4 (mz_fc mz_i_wsX2_sameThirds_5 mz_fn)))) (by decide +kernel)) ggX2_sameThirds_X2_parentsOf
theorem mz_i_wsX2_sameThirds_14 : (.code yX7_inHeap cX7_inHeap 2 (some .boolean) : Cond) ∈ wsX2_sameThirds := mz_mt (mz_ml (mz_ml (mz_mt (mz_mt (mz_mt (mz_mt (mz_mt (mz_mt (mz_mt (mz_mt (mz_mt (mz_mt (mz_mt (mz_mt (mz_mt mz_mh)))))))))))))))
set_option maxRecDepth 20000 in
theorem ggX2_sameThirds_X7_inHeap : GoodIn wsX2_sameThirds wsX7_inHeap := goodIn_sub (mz_fc mz_i_wsX2_sameThirds_14 (mz_fn)) (by decide +kernel)
set_option maxRecDepth 20000 in
theorem gX2_sameThirds_X7_inHeap_n26 : GoodIn wsX2_sameThirds (wsX7_inHeap) := ggX2_sameThirds_X7_inHeap
theorem mz_i_wsX2_sameThirds_18 : (.code yX2_unjoinedWith cX2_unjoinedWith 3 (some .int) : Cond) ∈ wsX2_sameThirds := mz_mt (mz_ml (mz_ml (mz_mt (mz_mt (mz_mt (mz_mt (mz_mt (mz_mt (mz_mt (mz_mt (mz_mt (mz_mt (mz_mt (mz_mt (mz_mt (mz_mt (mz_mt (mz_mt (mz_mt mz_mh)))))))))))))))))))
theorem mz_i_wsX2_sameThirds_25 : (.code yX7_bit cX7_bit 1 (some .int) : Cond) ∈ wsX2_sameThirds := mz_mt (mz_ml (mz_mr mz_mh))
theorem mz_i_wsX2_sameThirds_24 : (.static yX7_bit : Cond) ∈ wsX2_sameThirds := mz_mt (mz_ml (mz_ml (mz_mt (mz_mt (mz_mt (mz_mt (mz_mt (mz_mt (mz_mt (mz_mt (mz_mt (mz_mt (mz_mt (mz_mt (mz_mt (mz_mt (mz_mt (mz_mt (mz_mt (mz_mt (mz_mt (mz_mt (mz_mt (mz_mt (mz_mt mz_mh)))))))))))))))))))))))))
theorem mz_i_wsX2_sameThirds_23 : (.fieldLink RX2 15 "MadeItSo$Drawing" "children" "[I" : Cond) ∈ wsX2_sameThirds := mz_mt (mz_ml (mz_ml (mz_mt (mz_mt (mz_mt (mz_mt (mz_mt (mz_mt (mz_mt (mz_mt (mz_mt (mz_mt (mz_mt (mz_mt (mz_mt (mz_mt (mz_mt (mz_mt (mz_mt (mz_mt (mz_mt (mz_mt (mz_mt (mz_mt mz_mh))))))))))))))))))))))))
theorem mz_i_wsX2_sameThirds_22 : (.code yX2_joinedTo cX2_joinedTo 2 (some .int) : Cond) ∈ wsX2_sameThirds := mz_mt (mz_ml (mz_ml (mz_mt (mz_mt (mz_mt (mz_mt (mz_mt (mz_mt (mz_mt (mz_mt (mz_mt (mz_mt (mz_mt (mz_mt (mz_mt (mz_mt (mz_mt (mz_mt (mz_mt (mz_mt (mz_mt (mz_mt (mz_mt mz_mh)))))))))))))))))))))))
theorem mz_i_wsX2_sameThirds_21 : (.selects RX2 yX2_joinedTo yX2_joinedTo : Cond) ∈ wsX2_sameThirds := mz_mt (mz_ml (mz_ml (mz_mt (mz_mt (mz_mt (mz_mt (mz_mt (mz_mt (mz_mt (mz_mt (mz_mt (mz_mt (mz_mt (mz_mt (mz_mt (mz_mt (mz_mt (mz_mt (mz_mt (mz_mt (mz_mt (mz_mt mz_mh))))))))))))))))))))))
theorem mz_i_wsX2_sameThirds_20 : (.instanceMethod yX2_joinedTo : Cond) ∈ wsX2_sameThirds := mz_mt (mz_ml (mz_ml (mz_mt (mz_mt (mz_mt (mz_mt (mz_mt (mz_mt (mz_mt (mz_mt (mz_mt (mz_mt (mz_mt (mz_mt (mz_mt (mz_mt (mz_mt (mz_mt (mz_mt (mz_mt (mz_mt mz_mh)))))))))))))))))))))
theorem mz_i_wsX2_sameThirds_19 : (.methodLink RX2 30 yX2_joinedTo : Cond) ∈ wsX2_sameThirds := mz_mt (mz_ml (mz_ml (mz_mt (mz_mt (mz_mt (mz_mt (mz_mt (mz_mt (mz_mt (mz_mt (mz_mt (mz_mt (mz_mt (mz_mt (mz_mt (mz_mt (mz_mt (mz_mt (mz_mt (mz_mt mz_mh))))))))))))))))))))
theorem mz_i_wsX2_sameThirds_13 : (.initialized RX7 : Cond) ∈ wsX2_sameThirds := mz_mt (mz_ml (mz_ml (mz_mt (mz_mt (mz_mt (mz_mt (mz_mt (mz_mt (mz_mt (mz_mt (mz_mt (mz_mt (mz_mt (mz_mt mz_mh))))))))))))))
theorem mz_i_wsX2_sameThirds_12 : (.static yX7_inHeap : Cond) ∈ wsX2_sameThirds := mz_mt (mz_ml (mz_ml (mz_mt (mz_mt (mz_mt (mz_mt (mz_mt (mz_mt (mz_mt (mz_mt (mz_mt (mz_mt (mz_mt mz_mh)))))))))))))
set_option maxRecDepth 20000 in
theorem ggX2_sameThirds_X2_unjoinedWith : GoodIn wsX2_sameThirds wsX2_unjoinedWith := goodIn_sub (mz_fc mz_i_wsX2_sameThirds_18 (mz_fa (mz_fc mz_i_wsX2_sameThirds_12 (mz_fc mz_i_wsX2_sameThirds_13 (mz_fc mz_i_wsX2_sameThirds_14 (mz_fc mz_i_wsX2_sameThirds_19 (mz_fc mz_i_wsX2_sameThirds_20 (mz_fc mz_i_wsX2_sameThirds_21 (mz_fc mz_i_wsX2_sameThirds_5 (mz_fc mz_i_wsX2_sameThirds_22 (mz_fc mz_i_wsX2_sameThirds_7 (mz_fc mz_i_wsX2_sameThirds_23 (mz_fc mz_i_wsX2_sameThirds_8 (mz_fc mz_i_wsX2_sameThirds_9 (mz_fc mz_i_wsX2_sameThirds_10 (mz_fc mz_i_wsX2_sameThirds_11 (mz_fc mz_i_wsX2_sameThirds_1 (mz_fc mz_i_wsX2_sameThirds_24 (mz_fc mz_i_wsX2_sameThirds_25 mz_fn))))))))))))))))) (mz_f_wsX2_sameThirds_wsX20))) (by decide +kernel)
theorem mz_i_wsX2_sameThirds_17 : (.selects RX2 yX2_unjoinedWith yX2_unjoinedWith : Cond) ∈ wsX2_sameThirds := mz_mt (mz_ml (mz_ml (mz_mt (mz_mt (mz_mt (mz_mt (mz_mt (mz_mt (mz_mt (mz_mt (mz_mt (mz_mt (mz_mt (mz_mt (mz_mt (mz_mt (mz_mt (mz_mt mz_mh))))))))))))))))))
theorem mz_i_wsX2_sameThirds_16 : (.instanceMethod yX2_unjoinedWith : Cond) ∈ wsX2_sameThirds := mz_mt (mz_ml (mz_ml (mz_mt (mz_mt (mz_mt (mz_mt (mz_mt (mz_mt (mz_mt (mz_mt (mz_mt (mz_mt (mz_mt (mz_mt (mz_mt (mz_mt (mz_mt mz_mh)))))))))))))))))
theorem mz_i_wsX2_sameThirds_15 : (.methodLink RX2 61 yX2_unjoinedWith : Cond) ∈ wsX2_sameThirds := mz_mt (mz_ml (mz_ml (mz_mt (mz_mt (mz_mt (mz_mt (mz_mt (mz_mt (mz_mt (mz_mt (mz_mt (mz_mt (mz_mt (mz_mt (mz_mt (mz_mt mz_mh))))))))))))))))
set_option maxRecDepth 20000 in
theorem gX2_sameThirds_X2_unjoinedWith : GoodIn wsX2_sameThirds (wsV RX2 61 RX2 yX2_unjoinedWith wsX2_unjoinedWith) := goodIn_app (goodIn_sub (mz_fc mz_i_wsX2_sameThirds_15 (mz_fc mz_i_wsX2_sameThirds_16 (mz_fc mz_i_wsX2_sameThirds_17 (mz_fc mz_i_wsX2_sameThirds_5 mz_fn)))) (by decide +kernel)) ggX2_sameThirds_X2_unjoinedWith
theorem dX2_sameThirds_0 : decode cX2_sameThirds 0 = .ok (.aload_n 0, 1) := by decide +kernel
theorem dX2_sameThirds_1 : decode cX2_sameThirds 1 = .ok (.iload_n 1, 1) := by decide +kernel
theorem dX2_sameThirds_2 : decode cX2_sameThirds 2 = .ok (.invokevirtual 58, 3) := by decide +kernel
theorem dX2_sameThirds_5 : decode cX2_sameThirds 5 = .ok (.istore_n 3, 1) := by decide +kernel
theorem dX2_sameThirds_6 : decode cX2_sameThirds 6 = .ok (.iconst 0, 1) := by decide +kernel
theorem dX2_sameThirds_7 : decode cX2_sameThirds 7 = .ok (.istore 4, 2) := by decide +kernel
theorem dX2_sameThirds_9 : decode cX2_sameThirds 9 = .ok (.iload 4, 2) := by decide +kernel
theorem dX2_sameThirds_11 : decode cX2_sameThirds 11 = .ok (.aload_n 0, 1) := by decide +kernel
theorem dX2_sameThirds_12 : decode cX2_sameThirds 12 = .ok (.getfield 18, 3) := by decide +kernel
theorem dX2_sameThirds_15 : decode cX2_sameThirds 15 = .ok (.if_icmp .ge 39, 3) := by decide +kernel
theorem dX2_sameThirds_18 : decode cX2_sameThirds 18 = .ok (.iload_n 3, 1) := by decide +kernel
theorem dX2_sameThirds_19 : decode cX2_sameThirds 19 = .ok (.iload_n 2, 1) := by decide +kernel
theorem dX2_sameThirds_20 : decode cX2_sameThirds 20 = .ok (.ior, 1) := by decide +kernel
theorem dX2_sameThirds_21 : decode cX2_sameThirds 21 = .ok (.iload 4, 2) := by decide +kernel
theorem dX2_sameThirds_23 : decode cX2_sameThirds 23 = .ok (.invokestatic 26, 3) := by decide +kernel
theorem dX2_sameThirds_26 : decode cX2_sameThirds 26 = .ok (.ifCond .eq 22, 3) := by decide +kernel
theorem dX2_sameThirds_29 : decode cX2_sameThirds 29 = .ok (.aload_n 0, 1) := by decide +kernel
theorem dX2_sameThirds_30 : decode cX2_sameThirds 30 = .ok (.iload 4, 2) := by decide +kernel
theorem dX2_sameThirds_32 : decode cX2_sameThirds 32 = .ok (.iload_n 2, 1) := by decide +kernel
theorem dX2_sameThirds_33 : decode cX2_sameThirds 33 = .ok (.invokevirtual 61, 3) := by decide +kernel
theorem dX2_sameThirds_36 : decode cX2_sameThirds 36 = .ok (.aload_n 0, 1) := by decide +kernel
theorem dX2_sameThirds_37 : decode cX2_sameThirds 37 = .ok (.iload 4, 2) := by decide +kernel
theorem dX2_sameThirds_39 : decode cX2_sameThirds 39 = .ok (.iload_n 3, 1) := by decide +kernel
theorem dX2_sameThirds_40 : decode cX2_sameThirds 40 = .ok (.invokevirtual 61, 3) := by decide +kernel
theorem dX2_sameThirds_43 : decode cX2_sameThirds 43 = .ok (.if_icmp .eq 5, 3) := by decide +kernel
theorem dX2_sameThirds_46 : decode cX2_sameThirds 46 = .ok (.iconst 0, 1) := by decide +kernel
theorem dX2_sameThirds_47 : decode cX2_sameThirds 47 = .ok (.ireturn, 1) := by decide +kernel
theorem dX2_sameThirds_48 : decode cX2_sameThirds 48 = .ok (.iinc 4 1, 3) := by decide +kernel
theorem dX2_sameThirds_51 : decode cX2_sameThirds 51 = .ok (.goto (-42), 3) := by decide +kernel
theorem dX2_sameThirds_54 : decode cX2_sameThirds 54 = .ok (.iconst 1, 1) := by decide +kernel
theorem dX2_sameThirds_55 : decode cX2_sameThirds 55 = .ok (.ireturn, 1) := by decide +kernel
theorem mz_i_wsX2_unjoinedWith_3 : (.code yX7_inHeap cX7_inHeap 2 (some .boolean) : Cond) ∈ wsX2_unjoinedWith := mz_mt (mz_ml (mz_mt (mz_mt mz_mh)))
set_option maxRecDepth 20000 in
theorem ggX2_unjoinedWith_X7_inHeap : GoodIn wsX2_unjoinedWith wsX7_inHeap := goodIn_sub (mz_fc mz_i_wsX2_unjoinedWith_3 (mz_fn)) (by decide +kernel)
set_option maxRecDepth 20000 in
theorem gX2_unjoinedWith_X7_inHeap_n26 : GoodIn wsX2_unjoinedWith (wsX7_inHeap) := ggX2_unjoinedWith_X7_inHeap
theorem mz_i_wsX2_unjoinedWith_8 : (.code yX2_joinedTo cX2_joinedTo 2 (some .int) : Cond) ∈ wsX2_unjoinedWith := mz_mt (mz_ml (mz_mt (mz_mt (mz_mt (mz_mt (mz_mt (mz_mt (mz_mt mz_mh))))))))
theorem mz_i_wsX2_unjoinedWith_15 : (.fieldLink RX2 18 "MadeItSo$Drawing" "things" "I" : Cond) ∈ wsX2_unjoinedWith := mz_mt (mz_ml (mz_mt (mz_mt (mz_mt (mz_mt (mz_mt (mz_mt (mz_mt (mz_mt (mz_mt (mz_mt (mz_mt (mz_mt (mz_mt (mz_mt mz_mh)))))))))))))))
theorem mz_i_wsX2_unjoinedWith_14 : (.code yX2_has cX2_has 2 (some .boolean) : Cond) ∈ wsX2_unjoinedWith := mz_mt (mz_ml (mz_mt (mz_mt (mz_mt (mz_mt (mz_mt (mz_mt (mz_mt (mz_mt (mz_mt (mz_mt (mz_mt (mz_mt (mz_mt mz_mh))))))))))))))
theorem mz_i_wsX2_unjoinedWith_7 : (.initialized RX2 : Cond) ∈ wsX2_unjoinedWith := mz_mt (mz_ml (mz_mt (mz_mt (mz_mt (mz_mt (mz_mt (mz_mt mz_mh)))))))
theorem mz_i_wsX2_unjoinedWith_13 : (.selects RX2 yX2_has yX2_has : Cond) ∈ wsX2_unjoinedWith := mz_mt (mz_ml (mz_mt (mz_mt (mz_mt (mz_mt (mz_mt (mz_mt (mz_mt (mz_mt (mz_mt (mz_mt (mz_mt (mz_mt mz_mh)))))))))))))
theorem mz_i_wsX2_unjoinedWith_12 : (.instanceMethod yX2_has : Cond) ∈ wsX2_unjoinedWith := mz_mt (mz_ml (mz_mt (mz_mt (mz_mt (mz_mt (mz_mt (mz_mt (mz_mt (mz_mt (mz_mt (mz_mt (mz_mt mz_mh))))))))))))
theorem mz_i_wsX2_unjoinedWith_11 : (.methodLink RX2 22 yX2_has : Cond) ∈ wsX2_unjoinedWith := mz_mt (mz_ml (mz_mt (mz_mt (mz_mt (mz_mt (mz_mt (mz_mt (mz_mt (mz_mt (mz_mt (mz_mt mz_mh)))))))))))
theorem mz_i_wsX2_unjoinedWith_10 : (.fieldLink RX2 15 "MadeItSo$Drawing" "children" "[I" : Cond) ∈ wsX2_unjoinedWith := mz_mt (mz_ml (mz_mt (mz_mt (mz_mt (mz_mt (mz_mt (mz_mt (mz_mt (mz_mt (mz_mt mz_mh))))))))))
theorem mz_i_wsX2_unjoinedWith_9 : (.fieldLink RX2 9 "MadeItSo$Drawing" "parents" "[I" : Cond) ∈ wsX2_unjoinedWith := mz_mt (mz_ml (mz_mt (mz_mt (mz_mt (mz_mt (mz_mt (mz_mt (mz_mt (mz_mt mz_mh)))))))))
theorem mz_f_wsX2_unjoinedWith_wsX20 : ∀ w ∈ wsX20, w ∈ wsX2_unjoinedWith := fun _ h => mz_mt (mz_mr h)
set_option maxRecDepth 20000 in
theorem ggX2_unjoinedWith_X2_joinedTo : GoodIn wsX2_unjoinedWith wsX2_joinedTo := goodIn_sub (mz_fc mz_i_wsX2_unjoinedWith_8 (mz_fa (mz_fc mz_i_wsX2_unjoinedWith_9 (mz_fc mz_i_wsX2_unjoinedWith_10 (mz_fc mz_i_wsX2_unjoinedWith_11 (mz_fc mz_i_wsX2_unjoinedWith_12 (mz_fc mz_i_wsX2_unjoinedWith_13 (mz_fc mz_i_wsX2_unjoinedWith_7 (mz_fc mz_i_wsX2_unjoinedWith_14 (mz_fc mz_i_wsX2_unjoinedWith_15 mz_fn)))))))) (mz_f_wsX2_unjoinedWith_wsX20))) (by decide +kernel)
theorem mz_i_wsX2_unjoinedWith_6 : (.selects RX2 yX2_joinedTo yX2_joinedTo : Cond) ∈ wsX2_unjoinedWith := mz_mt (mz_ml (mz_mt (mz_mt (mz_mt (mz_mt (mz_mt mz_mh))))))
theorem mz_i_wsX2_unjoinedWith_5 : (.instanceMethod yX2_joinedTo : Cond) ∈ wsX2_unjoinedWith := mz_mt (mz_ml (mz_mt (mz_mt (mz_mt (mz_mt mz_mh)))))
theorem mz_i_wsX2_unjoinedWith_4 : (.methodLink RX2 30 yX2_joinedTo : Cond) ∈ wsX2_unjoinedWith := mz_mt (mz_ml (mz_mt (mz_mt (mz_mt mz_mh))))
set_option maxRecDepth 20000 in
theorem gX2_unjoinedWith_X2_joinedTo : GoodIn wsX2_unjoinedWith (wsV RX2 30 RX2 yX2_joinedTo wsX2_joinedTo) := goodIn_app (goodIn_sub (mz_fc mz_i_wsX2_unjoinedWith_4 (mz_fc mz_i_wsX2_unjoinedWith_5 (mz_fc mz_i_wsX2_unjoinedWith_6 (mz_fc mz_i_wsX2_unjoinedWith_7 mz_fn)))) (by decide +kernel)) ggX2_unjoinedWith_X2_joinedTo
theorem mz_i_wsX2_unjoinedWith_17 : (.code yX7_bit cX7_bit 1 (some .int) : Cond) ∈ wsX2_unjoinedWith := mz_mt (mz_ml (mz_mt (mz_mt (mz_mt (mz_mt (mz_mt (mz_mt (mz_mt (mz_mt (mz_mt (mz_mt (mz_mt (mz_mt (mz_mt (mz_mt (mz_mt (mz_mt mz_mh)))))))))))))))))
set_option maxRecDepth 20000 in
theorem ggX2_unjoinedWith_X7_bit : GoodIn wsX2_unjoinedWith wsX7_bit := goodIn_sub (mz_fc mz_i_wsX2_unjoinedWith_17 (mz_fn)) (by decide +kernel)
set_option maxRecDepth 20000 in
theorem gX2_unjoinedWith_X7_bit_n37 : GoodIn wsX2_unjoinedWith (wsX7_bit) := ggX2_unjoinedWith_X7_bit
theorem dX2_unjoinedWith_0 : decode cX2_unjoinedWith 0 = .ok (.iload_n 2, 1) := by decide +kernel
theorem dX2_unjoinedWith_1 : decode cX2_unjoinedWith 1 = .ok (.iload_n 1, 1) := by decide +kernel
theorem dX2_unjoinedWith_2 : decode cX2_unjoinedWith 2 = .ok (.invokestatic 26, 3) := by decide +kernel
theorem dX2_unjoinedWith_5 : decode cX2_unjoinedWith 5 = .ok (.ifCond .eq 22, 3) := by decide +kernel
theorem dX2_unjoinedWith_8 : decode cX2_unjoinedWith 8 = .ok (.iload_n 2, 1) := by decide +kernel
theorem dX2_unjoinedWith_9 : decode cX2_unjoinedWith 9 = .ok (.aload_n 0, 1) := by decide +kernel
theorem dX2_unjoinedWith_10 : decode cX2_unjoinedWith 10 = .ok (.iload_n 1, 1) := by decide +kernel
theorem dX2_unjoinedWith_11 : decode cX2_unjoinedWith 11 = .ok (.invokevirtual 30, 3) := by decide +kernel
theorem dX2_unjoinedWith_14 : decode cX2_unjoinedWith 14 = .ok (.iconst (-1), 1) := by decide +kernel
theorem dX2_unjoinedWith_15 : decode cX2_unjoinedWith 15 = .ok (.ixor, 1) := by decide +kernel
theorem dX2_unjoinedWith_16 : decode cX2_unjoinedWith 16 = .ok (.iand, 1) := by decide +kernel
theorem dX2_unjoinedWith_17 : decode cX2_unjoinedWith 17 = .ok (.iload_n 1, 1) := by decide +kernel
theorem dX2_unjoinedWith_18 : decode cX2_unjoinedWith 18 = .ok (.invokestatic 37, 3) := by decide +kernel
theorem dX2_unjoinedWith_21 : decode cX2_unjoinedWith 21 = .ok (.iconst (-1), 1) := by decide +kernel
theorem dX2_unjoinedWith_22 : decode cX2_unjoinedWith 22 = .ok (.ixor, 1) := by decide +kernel
theorem dX2_unjoinedWith_23 : decode cX2_unjoinedWith 23 = .ok (.iand, 1) := by decide +kernel
theorem dX2_unjoinedWith_24 : decode cX2_unjoinedWith 24 = .ok (.goto 4, 3) := by decide +kernel
theorem dX2_unjoinedWith_27 : decode cX2_unjoinedWith 27 = .ok (.iconst 0, 1) := by decide +kernel
theorem dX2_unjoinedWith_28 : decode cX2_unjoinedWith 28 = .ok (.ireturn, 1) := by decide +kernel
theorem mz_i_wsX2_spread_4 : (.code yX2_gather cX2_gather 4 (some .int) : Cond) ∈ wsX2_spread := mz_mt (mz_mt (mz_mt (mz_mt mz_mh)))
theorem mz_i_wsX2_spread_7 : (.code yX7_inHeap cX7_inHeap 2 (some .boolean) : Cond) ∈ wsX2_spread := mz_mt (mz_mt (mz_mt (mz_mt (mz_mt (mz_mt (mz_mt mz_mh))))))
theorem mz_i_wsX2_spread_6 : (.initialized RX7 : Cond) ∈ wsX2_spread := mz_mt (mz_mt (mz_mt (mz_mt (mz_mt (mz_mt mz_mh)))))
theorem mz_i_wsX2_spread_5 : (.static yX7_inHeap : Cond) ∈ wsX2_spread := mz_mt (mz_mt (mz_mt (mz_mt (mz_mt mz_mh))))
set_option maxRecDepth 20000 in
theorem ggX2_spread_X2_gather : GoodIn wsX2_spread wsX2_gather := goodIn_sub (mz_fc mz_i_wsX2_spread_4 (mz_fc mz_i_wsX2_spread_5 (mz_fc mz_i_wsX2_spread_6 (mz_fc mz_i_wsX2_spread_7 mz_fn)))) (by decide +kernel)
theorem mz_i_wsX2_spread_3 : (.initialized RX2 : Cond) ∈ wsX2_spread := mz_mt (mz_mt (mz_mt mz_mh))
theorem mz_i_wsX2_spread_2 : (.static yX2_gather : Cond) ∈ wsX2_spread := mz_mt (mz_mt mz_mh)
theorem mz_i_wsX2_spread_1 : (.methodLink RX2 55 yX2_gather : Cond) ∈ wsX2_spread := mz_mt mz_mh
set_option maxRecDepth 20000 in
theorem gX2_spread_X2_gather : GoodIn wsX2_spread (va_wsS RX2 55 yX2_gather wsX2_gather) := goodIn_app (goodIn_sub (mz_fc mz_i_wsX2_spread_1 (mz_fc mz_i_wsX2_spread_2 (mz_fc mz_i_wsX2_spread_3 mz_fn))) (by decide +kernel)) ggX2_spread_X2_gather
theorem dX2_spread_0 : decode cX2_spread 0 = .ok (.iload_n 1, 1) := by decide +kernel
theorem dX2_spread_1 : decode cX2_spread 1 = .ok (.istore_n 3, 1) := by decide +kernel
theorem dX2_spread_2 : decode cX2_spread 2 = .ok (.iconst 0, 1) := by decide +kernel
theorem dX2_spread_3 : decode cX2_spread 3 = .ok (.istore 4, 2) := by decide +kernel
theorem dX2_spread_5 : decode cX2_spread 5 = .ok (.iload 4, 2) := by decide +kernel
theorem dX2_spread_7 : decode cX2_spread 7 = .ok (.bipush 8, 2) := by decide +kernel
theorem dX2_spread_9 : decode cX2_spread 9 = .ok (.if_icmp .ge 30, 3) := by decide +kernel
theorem dX2_spread_12 : decode cX2_spread 12 = .ok (.iload_n 3, 1) := by decide +kernel
theorem dX2_spread_13 : decode cX2_spread 13 = .ok (.iload_n 3, 1) := by decide +kernel
theorem dX2_spread_14 : decode cX2_spread 14 = .ok (.aload_n 2, 1) := by decide +kernel
theorem dX2_spread_15 : decode cX2_spread 15 = .ok (.invokestatic 55, 3) := by decide +kernel
theorem dX2_spread_18 : decode cX2_spread 18 = .ok (.ior, 1) := by decide +kernel
theorem dX2_spread_19 : decode cX2_spread 19 = .ok (.istore 5, 2) := by decide +kernel
theorem dX2_spread_21 : decode cX2_spread 21 = .ok (.iload 5, 2) := by decide +kernel
theorem dX2_spread_23 : decode cX2_spread 23 = .ok (.iload_n 3, 1) := by decide +kernel
theorem dX2_spread_24 : decode cX2_spread 24 = .ok (.if_icmp .ne 6, 3) := by decide +kernel
theorem dX2_spread_27 : decode cX2_spread 27 = .ok (.goto 12, 3) := by decide +kernel
theorem dX2_spread_30 : decode cX2_spread 30 = .ok (.iload 5, 2) := by decide +kernel
theorem dX2_spread_32 : decode cX2_spread 32 = .ok (.istore_n 3, 1) := by decide +kernel
theorem dX2_spread_33 : decode cX2_spread 33 = .ok (.iinc 4 1, 3) := by decide +kernel
theorem dX2_spread_36 : decode cX2_spread 36 = .ok (.goto (-31), 3) := by decide +kernel
theorem dX2_spread_39 : decode cX2_spread 39 = .ok (.iload_n 3, 1) := by decide +kernel
theorem dX2_spread_40 : decode cX2_spread 40 = .ok (.ireturn, 1) := by decide +kernel
theorem mz_i_wsX2_gather_3 : (.code yX7_inHeap cX7_inHeap 2 (some .boolean) : Cond) ∈ wsX2_gather := mz_mt (mz_mt (mz_mt mz_mh))
set_option maxRecDepth 20000 in
theorem ggX2_gather_X7_inHeap : GoodIn wsX2_gather wsX7_inHeap := goodIn_sub (mz_fc mz_i_wsX2_gather_3 (mz_fn)) (by decide +kernel)
set_option maxRecDepth 20000 in
theorem gX2_gather_X7_inHeap_n26 : GoodIn wsX2_gather (wsX7_inHeap) := ggX2_gather_X7_inHeap
theorem dX2_gather_0 : decode cX2_gather 0 = .ok (.iconst 0, 1) := by decide +kernel
theorem dX2_gather_1 : decode cX2_gather 1 = .ok (.istore_n 2, 1) := by decide +kernel
theorem dX2_gather_2 : decode cX2_gather 2 = .ok (.iconst 0, 1) := by decide +kernel
theorem dX2_gather_3 : decode cX2_gather 3 = .ok (.istore_n 3, 1) := by decide +kernel
theorem dX2_gather_4 : decode cX2_gather 4 = .ok (.iload_n 3, 1) := by decide +kernel
theorem dX2_gather_5 : decode cX2_gather 5 = .ok (.aload_n 1, 1) := by decide +kernel
theorem dX2_gather_6 : decode cX2_gather 6 = .ok (.arraylength, 1) := by decide +kernel
theorem dX2_gather_7 : decode cX2_gather 7 = .ok (.if_icmp .ge 23, 3) := by decide +kernel
theorem dX2_gather_10 : decode cX2_gather 10 = .ok (.iload_n 0, 1) := by decide +kernel
theorem dX2_gather_11 : decode cX2_gather 11 = .ok (.iload_n 3, 1) := by decide +kernel
theorem dX2_gather_12 : decode cX2_gather 12 = .ok (.invokestatic 26, 3) := by decide +kernel
theorem dX2_gather_15 : decode cX2_gather 15 = .ok (.ifCond .eq 9, 3) := by decide +kernel
theorem dX2_gather_18 : decode cX2_gather 18 = .ok (.iload_n 2, 1) := by decide +kernel
theorem dX2_gather_19 : decode cX2_gather 19 = .ok (.aload_n 1, 1) := by decide +kernel
theorem dX2_gather_20 : decode cX2_gather 20 = .ok (.iload_n 3, 1) := by decide +kernel
theorem dX2_gather_21 : decode cX2_gather 21 = .ok (.iaload, 1) := by decide +kernel
theorem dX2_gather_22 : decode cX2_gather 22 = .ok (.ior, 1) := by decide +kernel
theorem dX2_gather_23 : decode cX2_gather 23 = .ok (.istore_n 2, 1) := by decide +kernel
theorem dX2_gather_24 : decode cX2_gather 24 = .ok (.iinc 3 1, 3) := by decide +kernel
theorem dX2_gather_27 : decode cX2_gather 27 = .ok (.goto (-23), 3) := by decide +kernel
theorem dX2_gather_30 : decode cX2_gather 30 = .ok (.iload_n 2, 1) := by decide +kernel
theorem dX2_gather_31 : decode cX2_gather 31 = .ok (.ireturn, 1) := by decide +kernel
theorem mz_i_wsX3_seek_5 : (.code yX7_bit cX7_bit 1 (some .int) : Cond) ∈ wsX3_seek := mz_mt (mz_ml (mz_ml (mz_ml (mz_mt (mz_mt (mz_mt (mz_mt mz_mh)))))))
set_option maxRecDepth 20000 in
theorem ggX3_seek_X7_bit : GoodIn wsX3_seek wsX7_bit := goodIn_sub (mz_fc mz_i_wsX3_seek_5 (mz_fn)) (by decide +kernel)
set_option maxRecDepth 20000 in
theorem gX3_seek_X7_bit_n19 : GoodIn wsX3_seek (wsX7_bit) := ggX3_seek_X7_bit
theorem mz_i_wsX3_seek_7 : (.code yX7_partsOf cX7_partsOf 1 (some .int) : Cond) ∈ wsX3_seek := mz_mt (mz_ml (mz_ml (mz_ml (mz_mt (mz_mt (mz_mt (mz_mt (mz_mt (mz_mt mz_mh)))))))))
theorem mz_i_wsX3_seek_14 : (.constant RJ6 267 (252645135) : Cond) ∈ wsX3_seek := mz_mt (mz_ml (mz_ml (mz_ml (mz_mt (mz_mt (mz_mt (mz_mt (mz_mt (mz_mt (mz_mt (mz_mt (mz_mt (mz_mt (mz_mt (mz_mt (mz_mt mz_mh))))))))))))))))
theorem mz_i_wsX3_seek_13 : (.constant RJ6 266 (858993459) : Cond) ∈ wsX3_seek := mz_mt (mz_ml (mz_ml (mz_ml (mz_mt (mz_mt (mz_mt (mz_mt (mz_mt (mz_mt (mz_mt (mz_mt (mz_mt (mz_mt (mz_mt (mz_mt mz_mh)))))))))))))))
theorem mz_i_wsX3_seek_12 : (.constant RJ6 265 (1431655765) : Cond) ∈ wsX3_seek := mz_mt (mz_ml (mz_ml (mz_ml (mz_mt (mz_mt (mz_mt (mz_mt (mz_mt (mz_mt (mz_mt (mz_mt (mz_mt (mz_mt (mz_mt mz_mh))))))))))))))
theorem mz_i_wsX3_seek_11 : (.code yJ6_bitCount_0f7a4 cJ6_bitCount_0f7a4 1 (some .int) : Cond) ∈ wsX3_seek := mz_mt (mz_ml (mz_ml (mz_ml (mz_mt (mz_mt (mz_mt (mz_mt (mz_mt (mz_mt (mz_mt (mz_mt (mz_mt (mz_mt mz_mh)))))))))))))
theorem mz_i_wsX3_seek_10 : (.initialized RJ6 : Cond) ∈ wsX3_seek := mz_mt (mz_ml (mz_ml (mz_ml (mz_mt (mz_mt (mz_mt (mz_mt (mz_mt (mz_mt (mz_mt (mz_mt (mz_mt mz_mh))))))))))))
theorem mz_i_wsX3_seek_9 : (.static yJ6_bitCount_0f7a4 : Cond) ∈ wsX3_seek := mz_mt (mz_ml (mz_ml (mz_ml (mz_mt (mz_mt (mz_mt (mz_mt (mz_mt (mz_mt (mz_mt (mz_mt mz_mh)))))))))))
theorem mz_i_wsX3_seek_8 : (.methodLink RX7 239 yJ6_bitCount_0f7a4 : Cond) ∈ wsX3_seek := mz_mt (mz_ml (mz_ml (mz_ml (mz_mt (mz_mt (mz_mt (mz_mt (mz_mt (mz_mt (mz_mt mz_mh))))))))))
set_option maxRecDepth 20000 in
theorem ggX3_seek_X7_partsOf : GoodIn wsX3_seek wsX7_partsOf := goodIn_sub (mz_fc mz_i_wsX3_seek_7 (mz_fc mz_i_wsX3_seek_8 (mz_fc mz_i_wsX3_seek_9 (mz_fc mz_i_wsX3_seek_10 (mz_fc mz_i_wsX3_seek_11 (mz_fc mz_i_wsX3_seek_12 (mz_fc mz_i_wsX3_seek_13 (mz_fc mz_i_wsX3_seek_14 mz_fn)))))))) (by decide +kernel)
set_option maxRecDepth 20000 in
theorem gX3_seek_X7_partsOf_n23 : GoodIn wsX3_seek (wsX7_partsOf) := ggX3_seek_X7_partsOf
theorem mz_i_wsX3_seek_19 : (.code yX3_holdsOne cX3_holdsOne 3 (some .boolean) : Cond) ∈ wsX3_seek := mz_mt (mz_ml (mz_ml (mz_ml (mz_mt (mz_mt (mz_mt (mz_mt (mz_mt (mz_mt (mz_mt (mz_mt (mz_mt (mz_mt (mz_mt (mz_mt (mz_mt (mz_mt (mz_mt (mz_mt (mz_mt (mz_mt mz_mh)))))))))))))))))))))
theorem mz_i_wsX3_seek_2 : (.fieldLink RX3 9 "MadeItSo$LeastHeaps" "found" "[I" : Cond) ∈ wsX3_seek := mz_mt (mz_ml (mz_ml (mz_ml (mz_mt mz_mh))))
theorem mz_i_wsX3_seek_1 : (.fieldLink RX3 15 "MadeItSo$LeastHeaps" "many" "I" : Cond) ∈ wsX3_seek := mz_mt (mz_ml (mz_ml (mz_ml mz_mh)))
theorem mz_f_wsX3_seek_wsX30 : ∀ w ∈ wsX30, w ∈ wsX3_seek := fun _ h => mz_mt (mz_ml (mz_mr h))
set_option maxRecDepth 20000 in
theorem ggX3_seek_X3_holdsOne : GoodIn wsX3_seek wsX3_holdsOne := goodIn_sub (mz_fc mz_i_wsX3_seek_19 (mz_fa (mz_fc mz_i_wsX3_seek_1 (mz_fc mz_i_wsX3_seek_2 mz_fn)) (mz_f_wsX3_seek_wsX30))) (by decide +kernel)
theorem mz_i_wsX3_seek_18 : (.initialized RX3 : Cond) ∈ wsX3_seek := mz_mt (mz_ml (mz_ml (mz_ml (mz_mt (mz_mt (mz_mt (mz_mt (mz_mt (mz_mt (mz_mt (mz_mt (mz_mt (mz_mt (mz_mt (mz_mt (mz_mt (mz_mt (mz_mt (mz_mt (mz_mt mz_mh))))))))))))))))))))
theorem mz_i_wsX3_seek_17 : (.selects RX3 yX3_holdsOne yX3_holdsOne : Cond) ∈ wsX3_seek := mz_mt (mz_ml (mz_ml (mz_ml (mz_mt (mz_mt (mz_mt (mz_mt (mz_mt (mz_mt (mz_mt (mz_mt (mz_mt (mz_mt (mz_mt (mz_mt (mz_mt (mz_mt (mz_mt (mz_mt mz_mh)))))))))))))))))))
theorem mz_i_wsX3_seek_16 : (.instanceMethod yX3_holdsOne : Cond) ∈ wsX3_seek := mz_mt (mz_ml (mz_ml (mz_ml (mz_mt (mz_mt (mz_mt (mz_mt (mz_mt (mz_mt (mz_mt (mz_mt (mz_mt (mz_mt (mz_mt (mz_mt (mz_mt (mz_mt (mz_mt mz_mh))))))))))))))))))
theorem mz_i_wsX3_seek_15 : (.methodLink RX3 26 yX3_holdsOne : Cond) ∈ wsX3_seek := mz_mt (mz_ml (mz_ml (mz_ml (mz_mt (mz_mt (mz_mt (mz_mt (mz_mt (mz_mt (mz_mt (mz_mt (mz_mt (mz_mt (mz_mt (mz_mt (mz_mt (mz_mt mz_mh)))))))))))))))))
set_option maxRecDepth 20000 in
theorem gX3_seek_X3_holdsOne : GoodIn wsX3_seek (wsV RX3 26 RX3 yX3_holdsOne wsX3_holdsOne) := goodIn_app (goodIn_sub (mz_fc mz_i_wsX3_seek_15 (mz_fc mz_i_wsX3_seek_16 (mz_fc mz_i_wsX3_seek_17 (mz_fc mz_i_wsX3_seek_18 mz_fn)))) (by decide +kernel)) ggX3_seek_X3_holdsOne
theorem mz_i_wsX3_seek_24 : (.code yX2_barred cX2_barred 12 (some .boolean) : Cond) ∈ wsX3_seek := mz_mt (mz_ml (mz_ml (mz_ml (mz_mt (mz_mt (mz_mt (mz_mt (mz_mt (mz_mt (mz_mt (mz_mt (mz_mt (mz_mt (mz_mt (mz_mt (mz_mt (mz_mt (mz_mt (mz_mt (mz_mt (mz_mt (mz_mt (mz_mt (mz_mt (mz_mt (mz_mt mz_mh))))))))))))))))))))))))))
theorem mz_i_wsX3_seek_35 : (.code yX7_inHeap cX7_inHeap 2 (some .boolean) : Cond) ∈ wsX3_seek := mz_mt (mz_ml (mz_ml (mz_mr (mz_mt (mz_mt (mz_mt (mz_mt (mz_mt (mz_mt (mz_mt (mz_mt (mz_mt (mz_mt mz_mh)))))))))))))
theorem mz_i_wsX3_seek_4 : (.initialized RX7 : Cond) ∈ wsX3_seek := mz_mt (mz_ml (mz_ml (mz_ml (mz_mt (mz_mt (mz_mt mz_mh))))))
theorem mz_i_wsX3_seek_34 : (.static yX7_inHeap : Cond) ∈ wsX3_seek := mz_mt (mz_ml (mz_ml (mz_mr (mz_mt (mz_mt (mz_mt (mz_mt (mz_mt (mz_mt (mz_mt (mz_mt (mz_mt mz_mh))))))))))))
theorem mz_i_wsX3_seek_33 : (.code yX2_gather cX2_gather 4 (some .int) : Cond) ∈ wsX3_seek := mz_mt (mz_ml (mz_ml (mz_mr (mz_mt (mz_mt (mz_mt (mz_mt (mz_mt (mz_mt (mz_mt (mz_mt mz_mh)))))))))))
theorem mz_i_wsX3_seek_32 : (.static yX2_gather : Cond) ∈ wsX3_seek := mz_mt (mz_ml (mz_ml (mz_mr (mz_mt (mz_mt (mz_mt (mz_mt (mz_mt (mz_mt (mz_mt mz_mh))))))))))
theorem mz_i_wsX3_seek_31 : (.methodLink RX2 55 yX2_gather : Cond) ∈ wsX3_seek := mz_mt (mz_ml (mz_ml (mz_mr (mz_mt (mz_mt (mz_mt (mz_mt (mz_mt (mz_mt mz_mh)))))))))
theorem mz_i_wsX3_seek_30 : (.code yX2_spread cX2_spread 6 (some .int) : Cond) ∈ wsX3_seek := mz_mt (mz_ml (mz_ml (mz_mr (mz_mt (mz_mt (mz_mt (mz_mt (mz_mt mz_mh))))))))
theorem mz_i_wsX3_seek_23 : (.initialized RX2 : Cond) ∈ wsX3_seek := mz_mt (mz_ml (mz_ml (mz_ml (mz_mt (mz_mt (mz_mt (mz_mt (mz_mt (mz_mt (mz_mt (mz_mt (mz_mt (mz_mt (mz_mt (mz_mt (mz_mt (mz_mt (mz_mt (mz_mt (mz_mt (mz_mt (mz_mt (mz_mt (mz_mt (mz_mt mz_mh)))))))))))))))))))))))))
theorem mz_i_wsX3_seek_29 : (.selects RX2 yX2_spread yX2_spread : Cond) ∈ wsX3_seek := mz_mt (mz_ml (mz_ml (mz_mr (mz_mt (mz_mt (mz_mt (mz_mt mz_mh)))))))
theorem mz_i_wsX3_seek_28 : (.instanceMethod yX2_spread : Cond) ∈ wsX3_seek := mz_mt (mz_ml (mz_ml (mz_mr (mz_mt (mz_mt (mz_mt mz_mh))))))
theorem mz_i_wsX3_seek_27 : (.methodLink RX2 51 yX2_spread : Cond) ∈ wsX3_seek := mz_mt (mz_ml (mz_ml (mz_mr (mz_mt (mz_mt mz_mh)))))
theorem mz_i_wsX3_seek_26 : (.fieldLink RX2 15 "MadeItSo$Drawing" "children" "[I" : Cond) ∈ wsX3_seek := mz_mt (mz_ml (mz_ml (mz_mr (mz_mt mz_mh))))
theorem mz_i_wsX3_seek_25 : (.fieldLink RX2 9 "MadeItSo$Drawing" "parents" "[I" : Cond) ∈ wsX3_seek := mz_mt (mz_ml (mz_ml (mz_mr mz_mh)))
theorem mz_f_wsX3_seek_wsX20 : ∀ w ∈ wsX20, w ∈ wsX3_seek := fun _ h => mz_mt (mz_mr h)
set_option maxRecDepth 20000 in
theorem ggX3_seek_X2_barred : GoodIn wsX3_seek wsX2_barred := goodIn_sub (mz_fc mz_i_wsX3_seek_24 (mz_fa (mz_fc mz_i_wsX3_seek_25 (mz_fc mz_i_wsX3_seek_26 (mz_fc mz_i_wsX3_seek_27 (mz_fc mz_i_wsX3_seek_28 (mz_fc mz_i_wsX3_seek_29 (mz_fc mz_i_wsX3_seek_23 (mz_fc mz_i_wsX3_seek_30 (mz_fc mz_i_wsX3_seek_31 (mz_fc mz_i_wsX3_seek_32 (mz_fc mz_i_wsX3_seek_33 (mz_fc mz_i_wsX3_seek_34 (mz_fc mz_i_wsX3_seek_4 (mz_fc mz_i_wsX3_seek_35 mz_fn))))))))))))) (mz_f_wsX3_seek_wsX20))) (by decide +kernel)
theorem mz_i_wsX3_seek_22 : (.selects RX2 yX2_barred yX2_barred : Cond) ∈ wsX3_seek := mz_mt (mz_ml (mz_ml (mz_ml (mz_mt (mz_mt (mz_mt (mz_mt (mz_mt (mz_mt (mz_mt (mz_mt (mz_mt (mz_mt (mz_mt (mz_mt (mz_mt (mz_mt (mz_mt (mz_mt (mz_mt (mz_mt (mz_mt (mz_mt (mz_mt mz_mh))))))))))))))))))))))))
theorem mz_i_wsX3_seek_21 : (.instanceMethod yX2_barred : Cond) ∈ wsX3_seek := mz_mt (mz_ml (mz_ml (mz_ml (mz_mt (mz_mt (mz_mt (mz_mt (mz_mt (mz_mt (mz_mt (mz_mt (mz_mt (mz_mt (mz_mt (mz_mt (mz_mt (mz_mt (mz_mt (mz_mt (mz_mt (mz_mt (mz_mt (mz_mt mz_mh)))))))))))))))))))))))
theorem mz_i_wsX3_seek_20 : (.methodLink RX3 30 yX2_barred : Cond) ∈ wsX3_seek := mz_mt (mz_ml (mz_ml (mz_ml (mz_mt (mz_mt (mz_mt (mz_mt (mz_mt (mz_mt (mz_mt (mz_mt (mz_mt (mz_mt (mz_mt (mz_mt (mz_mt (mz_mt (mz_mt (mz_mt (mz_mt (mz_mt (mz_mt mz_mh))))))))))))))))))))))
set_option maxRecDepth 20000 in
theorem gX3_seek_X2_barred : GoodIn wsX3_seek (wsV RX3 30 RX2 yX2_barred wsX2_barred) := goodIn_app (goodIn_sub (mz_fc mz_i_wsX3_seek_20 (mz_fc mz_i_wsX3_seek_21 (mz_fc mz_i_wsX3_seek_22 (mz_fc mz_i_wsX3_seek_23 mz_fn)))) (by decide +kernel)) ggX3_seek_X2_barred
theorem mz_i_wsX3_seek_37 : (.code yX7_nextPart cX7_nextPart 2 (some .int) : Cond) ∈ wsX3_seek := mz_mt (mz_ml (mz_ml (mz_mr (mz_mt (mz_mt (mz_mt (mz_mt (mz_mt (mz_mt (mz_mt (mz_mt (mz_mt (mz_mt (mz_mt (mz_mt mz_mh)))))))))))))))
set_option maxRecDepth 20000 in
theorem ggX3_seek_X7_nextPart : GoodIn wsX3_seek wsX7_nextPart := goodIn_sub (mz_fc mz_i_wsX3_seek_37 (mz_fn)) (by decide +kernel)
set_option maxRecDepth 20000 in
theorem gX3_seek_X7_nextPart_n36 : GoodIn wsX3_seek (wsX7_nextPart) := ggX3_seek_X7_nextPart
theorem dX3_seek_0 : decode cX3_seek 0 = .ok (.iload 4, 2) := by decide +kernel
theorem dX3_seek_2 : decode cX3_seek 2 = .ok (.iload_n 2, 1) := by decide +kernel
theorem dX3_seek_3 : decode cX3_seek 3 = .ok (.invokestatic 19, 3) := by decide +kernel
theorem dX3_seek_6 : decode cX3_seek 6 = .ok (.iconst (-1), 1) := by decide +kernel
theorem dX3_seek_7 : decode cX3_seek 7 = .ok (.ixor, 1) := by decide +kernel
theorem dX3_seek_8 : decode cX3_seek 8 = .ok (.iand, 1) := by decide +kernel
theorem dX3_seek_9 : decode cX3_seek 9 = .ok (.iload_n 3, 1) := by decide +kernel
theorem dX3_seek_10 : decode cX3_seek 10 = .ok (.invokestatic 19, 3) := by decide +kernel
theorem dX3_seek_13 : decode cX3_seek 13 = .ok (.iconst (-1), 1) := by decide +kernel
theorem dX3_seek_14 : decode cX3_seek 14 = .ok (.ixor, 1) := by decide +kernel
theorem dX3_seek_15 : decode cX3_seek 15 = .ok (.iand, 1) := by decide +kernel
theorem dX3_seek_16 : decode cX3_seek 16 = .ok (.istore 5, 2) := by decide +kernel
theorem dX3_seek_18 : decode cX3_seek 18 = .ok (.iload 5, 2) := by decide +kernel
theorem dX3_seek_20 : decode cX3_seek 20 = .ok (.invokestatic 23, 3) := by decide +kernel
theorem dX3_seek_23 : decode cX3_seek 23 = .ok (.istore 6, 2) := by decide +kernel
theorem dX3_seek_25 : decode cX3_seek 25 = .ok (.aload_n 0, 1) := by decide +kernel
theorem dX3_seek_26 : decode cX3_seek 26 = .ok (.iconst 0, 1) := by decide +kernel
theorem dX3_seek_27 : decode cX3_seek 27 = .ok (.putfield 15, 3) := by decide +kernel
theorem dX3_seek_30 : decode cX3_seek 30 = .ok (.iconst 0, 1) := by decide +kernel
theorem dX3_seek_31 : decode cX3_seek 31 = .ok (.istore 7, 2) := by decide +kernel
theorem dX3_seek_33 : decode cX3_seek 33 = .ok (.iconst 0, 1) := by decide +kernel
theorem dX3_seek_34 : decode cX3_seek 34 = .ok (.istore 8, 2) := by decide +kernel
theorem dX3_seek_36 : decode cX3_seek 36 = .ok (.iload 7, 2) := by decide +kernel
theorem dX3_seek_38 : decode cX3_seek 38 = .ok (.iload 6, 2) := by decide +kernel
theorem dX3_seek_40 : decode cX3_seek 40 = .ok (.if_icmp .ge 77, 3) := by decide +kernel
theorem dX3_seek_43 : decode cX3_seek 43 = .ok (.aload_n 0, 1) := by decide +kernel
theorem dX3_seek_44 : decode cX3_seek 44 = .ok (.iload 8, 2) := by decide +kernel
theorem dX3_seek_46 : decode cX3_seek 46 = .ok (.invokevirtual 26, 3) := by decide +kernel
theorem dX3_seek_49 : decode cX3_seek 49 = .ok (.ifCond .ne 53, 3) := by decide +kernel
theorem dX3_seek_52 : decode cX3_seek 52 = .ok (.aload_n 0, 1) := by decide +kernel
theorem dX3_seek_53 : decode cX3_seek 53 = .ok (.getfield 15, 3) := by decide +kernel
theorem dX3_seek_56 : decode cX3_seek 56 = .ok (.aload_n 0, 1) := by decide +kernel
theorem dX3_seek_57 : decode cX3_seek 57 = .ok (.getfield 9, 3) := by decide +kernel
theorem dX3_seek_60 : decode cX3_seek 60 = .ok (.arraylength, 1) := by decide +kernel
theorem dX3_seek_61 : decode cX3_seek 61 = .ok (.if_icmp .ge 41, 3) := by decide +kernel
theorem dX3_seek_64 : decode cX3_seek 64 = .ok (.aload_n 1, 1) := by decide +kernel
theorem dX3_seek_65 : decode cX3_seek 65 = .ok (.iload_n 2, 1) := by decide +kernel
theorem dX3_seek_66 : decode cX3_seek 66 = .ok (.invokestatic 19, 3) := by decide +kernel
theorem dX3_seek_69 : decode cX3_seek 69 = .ok (.iload_n 3, 1) := by decide +kernel
theorem dX3_seek_70 : decode cX3_seek 70 = .ok (.invokestatic 19, 3) := by decide +kernel
theorem dX3_seek_73 : decode cX3_seek 73 = .ok (.iload 8, 2) := by decide +kernel
theorem dX3_seek_75 : decode cX3_seek 75 = .ok (.invokevirtual 30, 3) := by decide +kernel
theorem dX3_seek_78 : decode cX3_seek 78 = .ok (.ifCond .eq 24, 3) := by decide +kernel
theorem dX3_seek_81 : decode cX3_seek 81 = .ok (.aload_n 0, 1) := by decide +kernel
theorem dX3_seek_82 : decode cX3_seek 82 = .ok (.getfield 9, 3) := by decide +kernel
theorem dX3_seek_85 : decode cX3_seek 85 = .ok (.aload_n 0, 1) := by decide +kernel
theorem dX3_seek_86 : decode cX3_seek 86 = .ok (.getfield 15, 3) := by decide +kernel
theorem dX3_seek_89 : decode cX3_seek 89 = .ok (.iload 8, 2) := by decide +kernel
theorem dX3_seek_91 : decode cX3_seek 91 = .ok (.iastore, 1) := by decide +kernel
theorem dX3_seek_92 : decode cX3_seek 92 = .ok (.aload_n 0, 1) := by decide +kernel
theorem dX3_seek_93 : decode cX3_seek 93 = .ok (.dup, 1) := by decide +kernel
theorem dX3_seek_94 : decode cX3_seek 94 = .ok (.getfield 15, 3) := by decide +kernel
theorem dX3_seek_97 : decode cX3_seek 97 = .ok (.iconst 1, 1) := by decide +kernel
theorem dX3_seek_98 : decode cX3_seek 98 = .ok (.iadd, 1) := by decide +kernel
theorem dX3_seek_99 : decode cX3_seek 99 = .ok (.putfield 15, 3) := by decide +kernel
theorem dX3_seek_102 : decode cX3_seek 102 = .ok (.iinc 7 1, 3) := by decide +kernel
theorem dX3_seek_105 : decode cX3_seek 105 = .ok (.iload 8, 2) := by decide +kernel
theorem dX3_seek_107 : decode cX3_seek 107 = .ok (.iload 5, 2) := by decide +kernel
theorem dX3_seek_109 : decode cX3_seek 109 = .ok (.invokestatic 36, 3) := by decide +kernel
theorem dX3_seek_112 : decode cX3_seek 112 = .ok (.istore 8, 2) := by decide +kernel
theorem dX3_seek_114 : decode cX3_seek 114 = .ok (.goto (-78), 3) := by decide +kernel
theorem dX3_seek_117 : decode cX3_seek 117 = .ok (.return_, 1) := by decide +kernel
theorem dX3_size_0 : decode cX3_size 0 = .ok (.aload_n 0, 1) := by decide +kernel
theorem dX3_size_1 : decode cX3_size 1 = .ok (.getfield 15, 3) := by decide +kernel
theorem dX3_size_4 : decode cX3_size 4 = .ok (.ireturn, 1) := by decide +kernel
theorem dX3_at_0 : decode cX3_at 0 = .ok (.iload_n 1, 1) := by decide +kernel
theorem dX3_at_1 : decode cX3_at 1 = .ok (.ifCond .lt 29, 3) := by decide +kernel
theorem dX3_at_4 : decode cX3_at 4 = .ok (.iload_n 1, 1) := by decide +kernel
theorem dX3_at_5 : decode cX3_at 5 = .ok (.aload_n 0, 1) := by decide +kernel
theorem dX3_at_6 : decode cX3_at 6 = .ok (.getfield 15, 3) := by decide +kernel
theorem dX3_at_9 : decode cX3_at 9 = .ok (.if_icmp .ge 21, 3) := by decide +kernel
theorem dX3_at_12 : decode cX3_at 12 = .ok (.iload_n 1, 1) := by decide +kernel
theorem dX3_at_13 : decode cX3_at 13 = .ok (.aload_n 0, 1) := by decide +kernel
theorem dX3_at_14 : decode cX3_at 14 = .ok (.getfield 9, 3) := by decide +kernel
theorem dX3_at_17 : decode cX3_at 17 = .ok (.arraylength, 1) := by decide +kernel
theorem dX3_at_18 : decode cX3_at 18 = .ok (.if_icmp .ge 12, 3) := by decide +kernel
theorem dX3_at_21 : decode cX3_at 21 = .ok (.aload_n 0, 1) := by decide +kernel
theorem dX3_at_22 : decode cX3_at 22 = .ok (.getfield 9, 3) := by decide +kernel
theorem dX3_at_25 : decode cX3_at 25 = .ok (.iload_n 1, 1) := by decide +kernel
theorem dX3_at_26 : decode cX3_at 26 = .ok (.iaload, 1) := by decide +kernel
theorem dX3_at_27 : decode cX3_at 27 = .ok (.goto 4, 3) := by decide +kernel
theorem dX3_at_30 : decode cX3_at 30 = .ok (.iconst (-1), 1) := by decide +kernel
theorem dX3_at_31 : decode cX3_at 31 = .ok (.ireturn, 1) := by decide +kernel
theorem dX3_holdsOne_0 : decode cX3_holdsOne 0 = .ok (.iconst 0, 1) := by decide +kernel
theorem dX3_holdsOne_1 : decode cX3_holdsOne 1 = .ok (.istore_n 2, 1) := by decide +kernel
theorem dX3_holdsOne_2 : decode cX3_holdsOne 2 = .ok (.iload_n 2, 1) := by decide +kernel
theorem dX3_holdsOne_3 : decode cX3_holdsOne 3 = .ok (.aload_n 0, 1) := by decide +kernel
theorem dX3_holdsOne_4 : decode cX3_holdsOne 4 = .ok (.getfield 15, 3) := by decide +kernel
theorem dX3_holdsOne_7 : decode cX3_holdsOne 7 = .ok (.if_icmp .ge 33, 3) := by decide +kernel
theorem dX3_holdsOne_10 : decode cX3_holdsOne 10 = .ok (.iload_n 2, 1) := by decide +kernel
theorem dX3_holdsOne_11 : decode cX3_holdsOne 11 = .ok (.aload_n 0, 1) := by decide +kernel
theorem dX3_holdsOne_12 : decode cX3_holdsOne 12 = .ok (.getfield 9, 3) := by decide +kernel
theorem dX3_holdsOne_15 : decode cX3_holdsOne 15 = .ok (.arraylength, 1) := by decide +kernel
theorem dX3_holdsOne_16 : decode cX3_holdsOne 16 = .ok (.if_icmp .ge 24, 3) := by decide +kernel
theorem dX3_holdsOne_19 : decode cX3_holdsOne 19 = .ok (.aload_n 0, 1) := by decide +kernel
theorem dX3_holdsOne_20 : decode cX3_holdsOne 20 = .ok (.getfield 9, 3) := by decide +kernel
theorem dX3_holdsOne_23 : decode cX3_holdsOne 23 = .ok (.iload_n 2, 1) := by decide +kernel
theorem dX3_holdsOne_24 : decode cX3_holdsOne 24 = .ok (.iaload, 1) := by decide +kernel
theorem dX3_holdsOne_25 : decode cX3_holdsOne 25 = .ok (.iload_n 1, 1) := by decide +kernel
theorem dX3_holdsOne_26 : decode cX3_holdsOne 26 = .ok (.iconst (-1), 1) := by decide +kernel
theorem dX3_holdsOne_27 : decode cX3_holdsOne 27 = .ok (.ixor, 1) := by decide +kernel
theorem dX3_holdsOne_28 : decode cX3_holdsOne 28 = .ok (.iand, 1) := by decide +kernel
theorem dX3_holdsOne_29 : decode cX3_holdsOne 29 = .ok (.ifCond .ne 5, 3) := by decide +kernel
theorem dX3_holdsOne_32 : decode cX3_holdsOne 32 = .ok (.iconst 1, 1) := by decide +kernel
theorem dX3_holdsOne_33 : decode cX3_holdsOne 33 = .ok (.ireturn, 1) := by decide +kernel
theorem dX3_holdsOne_34 : decode cX3_holdsOne 34 = .ok (.iinc 2 1, 3) := by decide +kernel
theorem dX3_holdsOne_37 : decode cX3_holdsOne 37 = .ok (.goto (-35), 3) := by decide +kernel
theorem dX3_holdsOne_40 : decode cX3_holdsOne 40 = .ok (.iconst 0, 1) := by decide +kernel
theorem dX3_holdsOne_41 : decode cX3_holdsOne 41 = .ok (.ireturn, 1) := by decide +kernel
theorem mz_i_wsX4_reckon_6 : (.code yX2_everything cX2_everything 1 (some .int) : Cond) ∈ wsX4_reckon := mz_mt (mz_ml (mz_ml (mz_ml (mz_mt (mz_mt (mz_mt (mz_mt (mz_mt mz_mh))))))))
theorem mz_i_wsX4_reckon_7 : (.fieldLink RX2 18 "MadeItSo$Drawing" "things" "I" : Cond) ∈ wsX4_reckon := mz_mt (mz_ml (mz_ml (mz_ml (mz_mt (mz_mt (mz_mt (mz_mt (mz_mt (mz_mt mz_mh)))))))))
theorem mz_f_wsX4_reckon_wsX20 : ∀ w ∈ wsX20, w ∈ wsX4_reckon := fun _ h => mz_mt (mz_mr h)
set_option maxRecDepth 20000 in
theorem ggX4_reckon_X2_everything : GoodIn wsX4_reckon wsX2_everything := goodIn_sub (mz_fc mz_i_wsX4_reckon_6 (mz_fa (mz_fc mz_i_wsX4_reckon_7 mz_fn) (mz_f_wsX4_reckon_wsX20))) (by decide +kernel)
theorem mz_i_wsX4_reckon_5 : (.initialized RX2 : Cond) ∈ wsX4_reckon := mz_mt (mz_ml (mz_ml (mz_ml (mz_mt (mz_mt (mz_mt (mz_mt mz_mh)))))))
theorem mz_i_wsX4_reckon_4 : (.selects RX2 yX2_everything yX2_everything : Cond) ∈ wsX4_reckon := mz_mt (mz_ml (mz_ml (mz_ml (mz_mt (mz_mt (mz_mt mz_mh))))))
theorem mz_i_wsX4_reckon_3 : (.instanceMethod yX2_everything : Cond) ∈ wsX4_reckon := mz_mt (mz_ml (mz_ml (mz_ml (mz_mt (mz_mt mz_mh)))))
theorem mz_i_wsX4_reckon_2 : (.methodLink RX4 15 yX2_everything : Cond) ∈ wsX4_reckon := mz_mt (mz_ml (mz_ml (mz_ml (mz_mt mz_mh))))
set_option maxRecDepth 20000 in
theorem gX4_reckon_X2_everything : GoodIn wsX4_reckon (wsV RX4 15 RX2 yX2_everything wsX2_everything) := goodIn_app (goodIn_sub (mz_fc mz_i_wsX4_reckon_2 (mz_fc mz_i_wsX4_reckon_3 (mz_fc mz_i_wsX4_reckon_4 (mz_fc mz_i_wsX4_reckon_5 mz_fn)))) (by decide +kernel)) ggX4_reckon_X2_everything
theorem mz_i_wsX4_reckon_11 : (.code yX4_canBeLast cX4_canBeLast 4 (some .int) : Cond) ∈ wsX4_reckon := mz_mt (mz_ml (mz_ml (mz_ml (mz_mt (mz_mt (mz_mt (mz_mt (mz_mt (mz_mt (mz_mt (mz_mt (mz_mt (mz_mt mz_mh)))))))))))))
theorem mz_i_wsX4_reckon_33 : (.methodLink RX2 58 yX2_parentsOf : Cond) ∈ wsX4_reckon := mz_mt (mz_ml (mz_ml (mz_mr (mz_ml (mz_mt (mz_mt (mz_mt (mz_mt (mz_mt (mz_mt (mz_mt (mz_mt mz_mh))))))))))))
theorem mz_i_wsX4_reckon_32 : (.code yX2_sameThirds cX2_sameThirds 5 (some .boolean) : Cond) ∈ wsX4_reckon := mz_mt (mz_ml (mz_ml (mz_mr (mz_ml (mz_mt (mz_mt (mz_mt (mz_mt (mz_mt (mz_mt (mz_mt mz_mh)))))))))))
theorem mz_i_wsX4_reckon_31 : (.selects RX2 yX2_sameThirds yX2_sameThirds : Cond) ∈ wsX4_reckon := mz_mt (mz_ml (mz_ml (mz_mr (mz_ml (mz_mt (mz_mt (mz_mt (mz_mt (mz_mt (mz_mt mz_mh))))))))))
theorem mz_i_wsX4_reckon_30 : (.instanceMethod yX2_sameThirds : Cond) ∈ wsX4_reckon := mz_mt (mz_ml (mz_ml (mz_mr (mz_ml (mz_mt (mz_mt (mz_mt (mz_mt (mz_mt mz_mh)))))))))
theorem mz_i_wsX4_reckon_29 : (.methodLink RX4 59 yX2_sameThirds : Cond) ∈ wsX4_reckon := mz_mt (mz_ml (mz_ml (mz_mr (mz_ml (mz_mt (mz_mt (mz_mt (mz_mt mz_mh))))))))
theorem mz_i_wsX4_reckon_28 : (.code yX2_has cX2_has 2 (some .boolean) : Cond) ∈ wsX4_reckon := mz_mt (mz_ml (mz_ml (mz_mr (mz_ml (mz_mt (mz_mt (mz_mt mz_mh)))))))
theorem mz_i_wsX4_reckon_27 : (.selects RX2 yX2_has yX2_has : Cond) ∈ wsX4_reckon := mz_mt (mz_ml (mz_ml (mz_mr (mz_ml (mz_mt (mz_mt mz_mh))))))
theorem mz_i_wsX4_reckon_26 : (.instanceMethod yX2_has : Cond) ∈ wsX4_reckon := mz_mt (mz_ml (mz_ml (mz_mr (mz_ml (mz_mt mz_mh)))))
theorem mz_i_wsX4_reckon_25 : (.methodLink RX2 22 yX2_has : Cond) ∈ wsX4_reckon := mz_mt (mz_ml (mz_ml (mz_mr (mz_ml mz_mh))))
theorem mz_i_wsX4_reckon_24 : (.fieldLink RX2 15 "MadeItSo$Drawing" "children" "[I" : Cond) ∈ wsX4_reckon := mz_mt (mz_ml (mz_ml (mz_ml (mz_mt (mz_mt (mz_mt (mz_mt (mz_mt (mz_mt (mz_mt (mz_mt (mz_mt (mz_mt (mz_mt (mz_mt (mz_mt (mz_mt (mz_mt (mz_mt (mz_mt (mz_mt (mz_mt (mz_mt (mz_mt (mz_mt (mz_mt mz_mh))))))))))))))))))))))))))
theorem mz_i_wsX4_reckon_23 : (.fieldLink RX2 9 "MadeItSo$Drawing" "parents" "[I" : Cond) ∈ wsX4_reckon := mz_mt (mz_ml (mz_ml (mz_ml (mz_mt (mz_mt (mz_mt (mz_mt (mz_mt (mz_mt (mz_mt (mz_mt (mz_mt (mz_mt (mz_mt (mz_mt (mz_mt (mz_mt (mz_mt (mz_mt (mz_mt (mz_mt (mz_mt (mz_mt (mz_mt (mz_mt mz_mh)))))))))))))))))))))))))
theorem mz_i_wsX4_reckon_22 : (.code yX2_joinedTo cX2_joinedTo 2 (some .int) : Cond) ∈ wsX4_reckon := mz_mt (mz_ml (mz_ml (mz_ml (mz_mt (mz_mt (mz_mt (mz_mt (mz_mt (mz_mt (mz_mt (mz_mt (mz_mt (mz_mt (mz_mt (mz_mt (mz_mt (mz_mt (mz_mt (mz_mt (mz_mt (mz_mt (mz_mt (mz_mt (mz_mt mz_mh))))))))))))))))))))))))
theorem mz_i_wsX4_reckon_21 : (.selects RX2 yX2_joinedTo yX2_joinedTo : Cond) ∈ wsX4_reckon := mz_mt (mz_ml (mz_ml (mz_ml (mz_mt (mz_mt (mz_mt (mz_mt (mz_mt (mz_mt (mz_mt (mz_mt (mz_mt (mz_mt (mz_mt (mz_mt (mz_mt (mz_mt (mz_mt (mz_mt (mz_mt (mz_mt (mz_mt (mz_mt mz_mh)))))))))))))))))))))))
theorem mz_i_wsX4_reckon_20 : (.instanceMethod yX2_joinedTo : Cond) ∈ wsX4_reckon := mz_mt (mz_ml (mz_ml (mz_ml (mz_mt (mz_mt (mz_mt (mz_mt (mz_mt (mz_mt (mz_mt (mz_mt (mz_mt (mz_mt (mz_mt (mz_mt (mz_mt (mz_mt (mz_mt (mz_mt (mz_mt (mz_mt (mz_mt mz_mh))))))))))))))))))))))
theorem mz_i_wsX4_reckon_19 : (.methodLink RX4 56 yX2_joinedTo : Cond) ∈ wsX4_reckon := mz_mt (mz_ml (mz_ml (mz_ml (mz_mt (mz_mt (mz_mt (mz_mt (mz_mt (mz_mt (mz_mt (mz_mt (mz_mt (mz_mt (mz_mt (mz_mt (mz_mt (mz_mt (mz_mt (mz_mt (mz_mt (mz_mt mz_mh)))))))))))))))))))))
theorem mz_i_wsX4_reckon_18 : (.code yX7_inHeap cX7_inHeap 2 (some .boolean) : Cond) ∈ wsX4_reckon := mz_mt (mz_ml (mz_ml (mz_ml (mz_mt (mz_mt (mz_mt (mz_mt (mz_mt (mz_mt (mz_mt (mz_mt (mz_mt (mz_mt (mz_mt (mz_mt (mz_mt (mz_mt (mz_mt (mz_mt (mz_mt mz_mh))))))))))))))))))))
theorem mz_i_wsX4_reckon_17 : (.initialized RX7 : Cond) ∈ wsX4_reckon := mz_mt (mz_ml (mz_ml (mz_ml (mz_mt (mz_mt (mz_mt (mz_mt (mz_mt (mz_mt (mz_mt (mz_mt (mz_mt (mz_mt (mz_mt (mz_mt (mz_mt (mz_mt (mz_mt (mz_mt mz_mh)))))))))))))))))))
theorem mz_i_wsX4_reckon_16 : (.static yX7_inHeap : Cond) ∈ wsX4_reckon := mz_mt (mz_ml (mz_ml (mz_ml (mz_mt (mz_mt (mz_mt (mz_mt (mz_mt (mz_mt (mz_mt (mz_mt (mz_mt (mz_mt (mz_mt (mz_mt (mz_mt (mz_mt (mz_mt mz_mh))))))))))))))))))
theorem mz_i_wsX4_reckon_15 : (.code yX2_size cX2_size 1 (some .int) : Cond) ∈ wsX4_reckon := mz_mt (mz_ml (mz_ml (mz_ml (mz_mt (mz_mt (mz_mt (mz_mt (mz_mt (mz_mt (mz_mt (mz_mt (mz_mt (mz_mt (mz_mt (mz_mt (mz_mt (mz_mt mz_mh)))))))))))))))))
theorem mz_i_wsX4_reckon_14 : (.selects RX2 yX2_size yX2_size : Cond) ∈ wsX4_reckon := mz_mt (mz_ml (mz_ml (mz_ml (mz_mt (mz_mt (mz_mt (mz_mt (mz_mt (mz_mt (mz_mt (mz_mt (mz_mt (mz_mt (mz_mt (mz_mt (mz_mt mz_mh))))))))))))))))
theorem mz_i_wsX4_reckon_13 : (.instanceMethod yX2_size : Cond) ∈ wsX4_reckon := mz_mt (mz_ml (mz_ml (mz_ml (mz_mt (mz_mt (mz_mt (mz_mt (mz_mt (mz_mt (mz_mt (mz_mt (mz_mt (mz_mt (mz_mt (mz_mt mz_mh)))))))))))))))
theorem mz_i_wsX4_reckon_12 : (.methodLink RX4 53 yX2_size : Cond) ∈ wsX4_reckon := mz_mt (mz_ml (mz_ml (mz_ml (mz_mt (mz_mt (mz_mt (mz_mt (mz_mt (mz_mt (mz_mt (mz_mt (mz_mt (mz_mt (mz_mt mz_mh))))))))))))))
theorem mz_i_wsX4_reckon_43 : (.code yX7_bit cX7_bit 1 (some .int) : Cond) ∈ wsX4_reckon := mz_mt (mz_ml (mz_ml (mz_mr (mz_ml (mz_mt (mz_mt (mz_mt (mz_mt (mz_mt (mz_mt (mz_mt (mz_mt (mz_mt (mz_mt (mz_mt (mz_mt (mz_mt (mz_mt (mz_mt (mz_mt (mz_mt (mz_mt mz_mh))))))))))))))))))))))
theorem mz_i_wsX4_reckon_42 : (.static yX7_bit : Cond) ∈ wsX4_reckon := mz_mt (mz_ml (mz_ml (mz_mr (mz_ml (mz_mt (mz_mt (mz_mt (mz_mt (mz_mt (mz_mt (mz_mt (mz_mt (mz_mt (mz_mt (mz_mt (mz_mt (mz_mt (mz_mt (mz_mt (mz_mt (mz_mt mz_mh)))))))))))))))))))))
theorem mz_i_wsX4_reckon_41 : (.methodLink RX2 30 yX2_joinedTo : Cond) ∈ wsX4_reckon := mz_mt (mz_ml (mz_ml (mz_mr (mz_ml (mz_mt (mz_mt (mz_mt (mz_mt (mz_mt (mz_mt (mz_mt (mz_mt (mz_mt (mz_mt (mz_mt (mz_mt (mz_mt (mz_mt (mz_mt (mz_mt mz_mh))))))))))))))))))))
theorem mz_i_wsX4_reckon_40 : (.code yX2_unjoinedWith cX2_unjoinedWith 3 (some .int) : Cond) ∈ wsX4_reckon := mz_mt (mz_ml (mz_ml (mz_mr (mz_ml (mz_mt (mz_mt (mz_mt (mz_mt (mz_mt (mz_mt (mz_mt (mz_mt (mz_mt (mz_mt (mz_mt (mz_mt (mz_mt (mz_mt (mz_mt mz_mh)))))))))))))))))))
theorem mz_i_wsX4_reckon_39 : (.selects RX2 yX2_unjoinedWith yX2_unjoinedWith : Cond) ∈ wsX4_reckon := mz_mt (mz_ml (mz_ml (mz_mr (mz_ml (mz_mt (mz_mt (mz_mt (mz_mt (mz_mt (mz_mt (mz_mt (mz_mt (mz_mt (mz_mt (mz_mt (mz_mt (mz_mt (mz_mt mz_mh))))))))))))))))))
theorem mz_i_wsX4_reckon_38 : (.instanceMethod yX2_unjoinedWith : Cond) ∈ wsX4_reckon := mz_mt (mz_ml (mz_ml (mz_mr (mz_ml (mz_mt (mz_mt (mz_mt (mz_mt (mz_mt (mz_mt (mz_mt (mz_mt (mz_mt (mz_mt (mz_mt (mz_mt (mz_mt mz_mh)))))))))))))))))
theorem mz_i_wsX4_reckon_37 : (.methodLink RX2 61 yX2_unjoinedWith : Cond) ∈ wsX4_reckon := mz_mt (mz_ml (mz_ml (mz_mr (mz_ml (mz_mt (mz_mt (mz_mt (mz_mt (mz_mt (mz_mt (mz_mt (mz_mt (mz_mt (mz_mt (mz_mt (mz_mt mz_mh))))))))))))))))
theorem mz_i_wsX4_reckon_36 : (.code yX2_parentsOf cX2_parentsOf 2 (some .int) : Cond) ∈ wsX4_reckon := mz_mt (mz_ml (mz_ml (mz_mr (mz_ml (mz_mt (mz_mt (mz_mt (mz_mt (mz_mt (mz_mt (mz_mt (mz_mt (mz_mt (mz_mt (mz_mt mz_mh)))))))))))))))
theorem mz_i_wsX4_reckon_35 : (.selects RX2 yX2_parentsOf yX2_parentsOf : Cond) ∈ wsX4_reckon := mz_mt (mz_ml (mz_ml (mz_mr (mz_ml (mz_mt (mz_mt (mz_mt (mz_mt (mz_mt (mz_mt (mz_mt (mz_mt (mz_mt (mz_mt mz_mh))))))))))))))
theorem mz_i_wsX4_reckon_34 : (.instanceMethod yX2_parentsOf : Cond) ∈ wsX4_reckon := mz_mt (mz_ml (mz_ml (mz_mr (mz_ml (mz_mt (mz_mt (mz_mt (mz_mt (mz_mt (mz_mt (mz_mt (mz_mt (mz_mt mz_mh)))))))))))))
set_option maxRecDepth 20000 in
theorem ggX4_reckon_X4_canBeLast : GoodIn wsX4_reckon wsX4_canBeLast := goodIn_sub (mz_fc mz_i_wsX4_reckon_11 (mz_fa (mz_fa (mz_fc mz_i_wsX4_reckon_12 (mz_fc mz_i_wsX4_reckon_13 (mz_fc mz_i_wsX4_reckon_14 (mz_fc mz_i_wsX4_reckon_5 (mz_fc mz_i_wsX4_reckon_15 (mz_fc mz_i_wsX4_reckon_7 (mz_fc mz_i_wsX4_reckon_16 (mz_fc mz_i_wsX4_reckon_17 (mz_fc mz_i_wsX4_reckon_18 (mz_fc mz_i_wsX4_reckon_19 (mz_fc mz_i_wsX4_reckon_20 (mz_fc mz_i_wsX4_reckon_21 (mz_fc mz_i_wsX4_reckon_22 (mz_fc mz_i_wsX4_reckon_23 (mz_fc mz_i_wsX4_reckon_24 (mz_fc mz_i_wsX4_reckon_25 (mz_fc mz_i_wsX4_reckon_26 (mz_fc mz_i_wsX4_reckon_27 (mz_fc mz_i_wsX4_reckon_28 (mz_fc mz_i_wsX4_reckon_29 (mz_fc mz_i_wsX4_reckon_30 (mz_fc mz_i_wsX4_reckon_31 (mz_fc mz_i_wsX4_reckon_32 (mz_fc mz_i_wsX4_reckon_33 mz_fn)))))))))))))))))))))))) (mz_fc mz_i_wsX4_reckon_34 (mz_fc mz_i_wsX4_reckon_35 (mz_fc mz_i_wsX4_reckon_36 (mz_fc mz_i_wsX4_reckon_37 (mz_fc mz_i_wsX4_reckon_38 (mz_fc mz_i_wsX4_reckon_39 (mz_fc mz_i_wsX4_reckon_40 (mz_fc mz_i_wsX4_reckon_41 (mz_fc mz_i_wsX4_reckon_42 (mz_fc mz_i_wsX4_reckon_43 mz_fn))))))))))) (mz_f_wsX4_reckon_wsX20))) (by decide +kernel)
theorem mz_i_wsX4_reckon_10 : (.initialized RX4 : Cond) ∈ wsX4_reckon := mz_mt (mz_ml (mz_ml (mz_ml (mz_mt (mz_mt (mz_mt (mz_mt (mz_mt (mz_mt (mz_mt (mz_mt (mz_mt mz_mh))))))))))))
theorem mz_i_wsX4_reckon_9 : (.static yX4_canBeLast : Cond) ∈ wsX4_reckon := mz_mt (mz_ml (mz_ml (mz_ml (mz_mt (mz_mt (mz_mt (mz_mt (mz_mt (mz_mt (mz_mt (mz_mt mz_mh)))))))))))
theorem mz_i_wsX4_reckon_8 : (.methodLink RX4 21 yX4_canBeLast : Cond) ∈ wsX4_reckon := mz_mt (mz_ml (mz_ml (mz_ml (mz_mt (mz_mt (mz_mt (mz_mt (mz_mt (mz_mt (mz_mt mz_mh))))))))))
set_option maxRecDepth 20000 in
theorem gX4_reckon_X4_canBeLast : GoodIn wsX4_reckon (va_wsS RX4 21 yX4_canBeLast wsX4_canBeLast) := goodIn_app (goodIn_sub (mz_fc mz_i_wsX4_reckon_8 (mz_fc mz_i_wsX4_reckon_9 (mz_fc mz_i_wsX4_reckon_10 mz_fn))) (by decide +kernel)) ggX4_reckon_X4_canBeLast
set_option maxRecDepth 20000 in
theorem ggX4_reckon_X7_inHeap : GoodIn wsX4_reckon wsX7_inHeap := goodIn_sub (mz_fc mz_i_wsX4_reckon_18 (mz_fn)) (by decide +kernel)
set_option maxRecDepth 20000 in
theorem gX4_reckon_X7_inHeap_n25 : GoodIn wsX4_reckon (wsX7_inHeap) := ggX4_reckon_X7_inHeap
set_option maxRecDepth 20000 in
theorem ggX4_reckon_X7_bit : GoodIn wsX4_reckon wsX7_bit := goodIn_sub (mz_fc mz_i_wsX4_reckon_43 (mz_fn)) (by decide +kernel)
set_option maxRecDepth 20000 in
theorem gX4_reckon_X7_bit_n29 : GoodIn wsX4_reckon (wsX7_bit) := ggX4_reckon_X7_bit
theorem mz_i_wsX4_reckon_47 : (.code yX4_waysEndingIn cX4_waysEndingIn 9 (some .int) : Cond) ∈ wsX4_reckon := mz_mt (mz_ml (mz_ml (mz_mr (mz_ml (mz_mt (mz_mt (mz_mt (mz_mt (mz_mt (mz_mt (mz_mt (mz_mt (mz_mt (mz_mt (mz_mt (mz_mt (mz_mt (mz_mt (mz_mt (mz_mt (mz_mt (mz_mt (mz_mt (mz_mt (mz_mt (mz_mt mz_mh))))))))))))))))))))))))))
theorem mz_i_wsX4_reckon_62 : (.code yX2_apart cX2_apart 3 (some .boolean) : Cond) ∈ wsX4_reckon := mz_mt (mz_ml (mz_ml (mz_mr (mz_mr (mz_mt (mz_mt (mz_mt (mz_mt (mz_mt (mz_mt (mz_mt (mz_mt (mz_mt (mz_mt (mz_mt (mz_mt (mz_mt mz_mh)))))))))))))))))
theorem mz_i_wsX4_reckon_61 : (.selects RX2 yX2_apart yX2_apart : Cond) ∈ wsX4_reckon := mz_mt (mz_ml (mz_ml (mz_mr (mz_mr (mz_mt (mz_mt (mz_mt (mz_mt (mz_mt (mz_mt (mz_mt (mz_mt (mz_mt (mz_mt (mz_mt (mz_mt mz_mh))))))))))))))))
theorem mz_i_wsX4_reckon_60 : (.instanceMethod yX2_apart : Cond) ∈ wsX4_reckon := mz_mt (mz_ml (mz_ml (mz_mr (mz_mr (mz_mt (mz_mt (mz_mt (mz_mt (mz_mt (mz_mt (mz_mt (mz_mt (mz_mt (mz_mt (mz_mt mz_mh)))))))))))))))
theorem mz_i_wsX4_reckon_59 : (.methodLink RX4 44 yX2_apart : Cond) ∈ wsX4_reckon := mz_mt (mz_ml (mz_ml (mz_mr (mz_mr (mz_mt (mz_mt (mz_mt (mz_mt (mz_mt (mz_mt (mz_mt (mz_mt (mz_mt (mz_mt mz_mh))))))))))))))
theorem mz_i_wsX4_reckon_58 : (.code yX7_nextPart cX7_nextPart 2 (some .int) : Cond) ∈ wsX4_reckon := mz_mt (mz_ml (mz_ml (mz_mr (mz_mr (mz_mt (mz_mt (mz_mt (mz_mt (mz_mt (mz_mt (mz_mt (mz_mt (mz_mt mz_mh)))))))))))))
theorem mz_i_wsX4_reckon_57 : (.static yX7_nextPart : Cond) ∈ wsX4_reckon := mz_mt (mz_ml (mz_ml (mz_mr (mz_mr (mz_mt (mz_mt (mz_mt (mz_mt (mz_mt (mz_mt (mz_mt (mz_mt mz_mh))))))))))))
theorem mz_i_wsX4_reckon_56 : (.constant RJ6 267 (252645135) : Cond) ∈ wsX4_reckon := mz_mt (mz_ml (mz_ml (mz_mr (mz_mr (mz_mt (mz_mt (mz_mt (mz_mt (mz_mt (mz_mt (mz_mt mz_mh)))))))))))
theorem mz_i_wsX4_reckon_55 : (.constant RJ6 266 (858993459) : Cond) ∈ wsX4_reckon := mz_mt (mz_ml (mz_ml (mz_mr (mz_mr (mz_mt (mz_mt (mz_mt (mz_mt (mz_mt (mz_mt mz_mh))))))))))
theorem mz_i_wsX4_reckon_54 : (.constant RJ6 265 (1431655765) : Cond) ∈ wsX4_reckon := mz_mt (mz_ml (mz_ml (mz_mr (mz_mr (mz_mt (mz_mt (mz_mt (mz_mt (mz_mt mz_mh)))))))))
theorem mz_i_wsX4_reckon_53 : (.code yJ6_bitCount_0f7a4 cJ6_bitCount_0f7a4 1 (some .int) : Cond) ∈ wsX4_reckon := mz_mt (mz_ml (mz_ml (mz_mr (mz_mr (mz_mt (mz_mt (mz_mt (mz_mt mz_mh))))))))
theorem mz_i_wsX4_reckon_52 : (.initialized RJ6 : Cond) ∈ wsX4_reckon := mz_mt (mz_ml (mz_ml (mz_mr (mz_mr (mz_mt (mz_mt (mz_mt mz_mh)))))))
theorem mz_i_wsX4_reckon_51 : (.static yJ6_bitCount_0f7a4 : Cond) ∈ wsX4_reckon := mz_mt (mz_ml (mz_ml (mz_mr (mz_mr (mz_mt (mz_mt mz_mh))))))
theorem mz_i_wsX4_reckon_50 : (.methodLink RX7 239 yJ6_bitCount_0f7a4 : Cond) ∈ wsX4_reckon := mz_mt (mz_ml (mz_ml (mz_mr (mz_mr (mz_mt mz_mh)))))
theorem mz_i_wsX4_reckon_49 : (.code yX7_partsOf cX7_partsOf 1 (some .int) : Cond) ∈ wsX4_reckon := mz_mt (mz_ml (mz_ml (mz_mr (mz_mr mz_mh))))
theorem mz_i_wsX4_reckon_48 : (.static yX7_partsOf : Cond) ∈ wsX4_reckon := mz_mt (mz_ml (mz_ml (mz_mr (mz_ml (mz_mt (mz_mt (mz_mt (mz_mt (mz_mt (mz_mt (mz_mt (mz_mt (mz_mt (mz_mt (mz_mt (mz_mt (mz_mt (mz_mt (mz_mt (mz_mt (mz_mt (mz_mt (mz_mt (mz_mt (mz_mt (mz_mt (mz_mt mz_mh)))))))))))))))))))))))))))
theorem mz_i_wsX4_reckon_1 : (.fieldLink RX4 9 "MadeItSo$Lookalikes" "waysOf" "[I" : Cond) ∈ wsX4_reckon := mz_mt (mz_ml (mz_ml (mz_ml mz_mh)))
theorem mz_i_wsX4_reckon_63 : (.methodLink RX4 48 yJ6_bitCount_0f7a4 : Cond) ∈ wsX4_reckon := mz_mt (mz_ml (mz_ml (mz_mr (mz_mr (mz_mt (mz_mt (mz_mt (mz_mt (mz_mt (mz_mt (mz_mt (mz_mt (mz_mt (mz_mt (mz_mt (mz_mt (mz_mt (mz_mt mz_mh))))))))))))))))))
theorem mz_f_wsX4_reckon_wsX40 : ∀ w ∈ wsX40, w ∈ wsX4_reckon := fun _ h => mz_mt (mz_ml (mz_mr h))
set_option maxRecDepth 20000 in
theorem ggX4_reckon_X4_waysEndingIn : GoodIn wsX4_reckon wsX4_waysEndingIn := goodIn_sub (mz_fc mz_i_wsX4_reckon_47 (mz_fa (mz_fa (mz_fa (mz_fc mz_i_wsX4_reckon_1 (mz_fc mz_i_wsX4_reckon_48 (mz_fc mz_i_wsX4_reckon_17 (mz_fc mz_i_wsX4_reckon_49 (mz_fc mz_i_wsX4_reckon_50 (mz_fc mz_i_wsX4_reckon_51 (mz_fc mz_i_wsX4_reckon_52 (mz_fc mz_i_wsX4_reckon_53 (mz_fc mz_i_wsX4_reckon_54 (mz_fc mz_i_wsX4_reckon_55 (mz_fc mz_i_wsX4_reckon_56 (mz_fc mz_i_wsX4_reckon_57 (mz_fc mz_i_wsX4_reckon_58 (mz_fc mz_i_wsX4_reckon_59 (mz_fc mz_i_wsX4_reckon_60 (mz_fc mz_i_wsX4_reckon_61 (mz_fc mz_i_wsX4_reckon_5 (mz_fc mz_i_wsX4_reckon_62 (mz_fc mz_i_wsX4_reckon_7 (mz_fc mz_i_wsX4_reckon_16 (mz_fc mz_i_wsX4_reckon_18 (mz_fc mz_i_wsX4_reckon_41 (mz_fc mz_i_wsX4_reckon_20 (mz_fc mz_i_wsX4_reckon_21 mz_fn)))))))))))))))))))))))) (mz_fc mz_i_wsX4_reckon_22 (mz_fc mz_i_wsX4_reckon_23 (mz_fc mz_i_wsX4_reckon_24 (mz_fc mz_i_wsX4_reckon_25 (mz_fc mz_i_wsX4_reckon_26 (mz_fc mz_i_wsX4_reckon_27 (mz_fc mz_i_wsX4_reckon_28 (mz_fc mz_i_wsX4_reckon_63 mz_fn))))))))) (mz_f_wsX4_reckon_wsX40)) (mz_f_wsX4_reckon_wsX20))) (by decide +kernel)
theorem mz_i_wsX4_reckon_46 : (.selects RX4 yX4_waysEndingIn yX4_waysEndingIn : Cond) ∈ wsX4_reckon := mz_mt (mz_ml (mz_ml (mz_mr (mz_ml (mz_mt (mz_mt (mz_mt (mz_mt (mz_mt (mz_mt (mz_mt (mz_mt (mz_mt (mz_mt (mz_mt (mz_mt (mz_mt (mz_mt (mz_mt (mz_mt (mz_mt (mz_mt (mz_mt (mz_mt (mz_mt mz_mh)))))))))))))))))))))))))
theorem mz_i_wsX4_reckon_45 : (.instanceMethod yX4_waysEndingIn : Cond) ∈ wsX4_reckon := mz_mt (mz_ml (mz_ml (mz_mr (mz_ml (mz_mt (mz_mt (mz_mt (mz_mt (mz_mt (mz_mt (mz_mt (mz_mt (mz_mt (mz_mt (mz_mt (mz_mt (mz_mt (mz_mt (mz_mt (mz_mt (mz_mt (mz_mt (mz_mt (mz_mt mz_mh))))))))))))))))))))))))
theorem mz_i_wsX4_reckon_44 : (.methodLink RX4 33 yX4_waysEndingIn : Cond) ∈ wsX4_reckon := mz_mt (mz_ml (mz_ml (mz_mr (mz_ml (mz_mt (mz_mt (mz_mt (mz_mt (mz_mt (mz_mt (mz_mt (mz_mt (mz_mt (mz_mt (mz_mt (mz_mt (mz_mt (mz_mt (mz_mt (mz_mt (mz_mt (mz_mt (mz_mt mz_mh)))))))))))))))))))))))
set_option maxRecDepth 20000 in
theorem gX4_reckon_X4_waysEndingIn : GoodIn wsX4_reckon (wsV RX4 33 RX4 yX4_waysEndingIn wsX4_waysEndingIn) := goodIn_app (goodIn_sub (mz_fc mz_i_wsX4_reckon_44 (mz_fc mz_i_wsX4_reckon_45 (mz_fc mz_i_wsX4_reckon_46 (mz_fc mz_i_wsX4_reckon_10 mz_fn)))) (by decide +kernel)) ggX4_reckon_X4_waysEndingIn
theorem dX4_reckon_0 : decode cX4_reckon 0 = .ok (.aload_n 1, 1) := by decide +kernel
theorem dX4_reckon_1 : decode cX4_reckon 1 = .ok (.invokevirtual 15, 3) := by decide +kernel
theorem dX4_reckon_4 : decode cX4_reckon 4 = .ok (.sipush 255, 3) := by decide +kernel
theorem dX4_reckon_7 : decode cX4_reckon 7 = .ok (.iand, 1) := by decide +kernel
theorem dX4_reckon_8 : decode cX4_reckon 8 = .ok (.istore 4, 2) := by decide +kernel
theorem dX4_reckon_10 : decode cX4_reckon 10 = .ok (.aload_n 0, 1) := by decide +kernel
theorem dX4_reckon_11 : decode cX4_reckon 11 = .ok (.getfield 9, 3) := by decide +kernel
theorem dX4_reckon_14 : decode cX4_reckon 14 = .ok (.iconst 0, 1) := by decide +kernel
theorem dX4_reckon_15 : decode cX4_reckon 15 = .ok (.iconst 1, 1) := by decide +kernel
theorem dX4_reckon_16 : decode cX4_reckon 16 = .ok (.iastore, 1) := by decide +kernel
theorem dX4_reckon_17 : decode cX4_reckon 17 = .ok (.iconst 1, 1) := by decide +kernel
theorem dX4_reckon_18 : decode cX4_reckon 18 = .ok (.istore 5, 2) := by decide +kernel
theorem dX4_reckon_20 : decode cX4_reckon 20 = .ok (.iload 5, 2) := by decide +kernel
theorem dX4_reckon_22 : decode cX4_reckon 22 = .ok (.iload 4, 2) := by decide +kernel
theorem dX4_reckon_24 : decode cX4_reckon 24 = .ok (.if_icmp .gt 58, 3) := by decide +kernel
theorem dX4_reckon_27 : decode cX4_reckon 27 = .ok (.aload_n 1, 1) := by decide +kernel
theorem dX4_reckon_28 : decode cX4_reckon 28 = .ok (.iload 5, 2) := by decide +kernel
theorem dX4_reckon_30 : decode cX4_reckon 30 = .ok (.invokestatic 21, 3) := by decide +kernel
theorem dX4_reckon_33 : decode cX4_reckon 33 = .ok (.istore 6, 2) := by decide +kernel
theorem dX4_reckon_35 : decode cX4_reckon 35 = .ok (.iload_n 3, 1) := by decide +kernel
theorem dX4_reckon_36 : decode cX4_reckon 36 = .ok (.iconst (-1), 1) := by decide +kernel
theorem dX4_reckon_37 : decode cX4_reckon 37 = .ok (.if_icmp .eq 23, 3) := by decide +kernel
theorem dX4_reckon_40 : decode cX4_reckon 40 = .ok (.iload 5, 2) := by decide +kernel
theorem dX4_reckon_42 : decode cX4_reckon 42 = .ok (.iload_n 2, 1) := by decide +kernel
theorem dX4_reckon_43 : decode cX4_reckon 43 = .ok (.invokestatic 25, 3) := by decide +kernel
theorem dX4_reckon_46 : decode cX4_reckon 46 = .ok (.ifCond .ne 14, 3) := by decide +kernel
theorem dX4_reckon_49 : decode cX4_reckon 49 = .ok (.iload 6, 2) := by decide +kernel
theorem dX4_reckon_51 : decode cX4_reckon 51 = .ok (.iload_n 3, 1) := by decide +kernel
theorem dX4_reckon_52 : decode cX4_reckon 52 = .ok (.invokestatic 29, 3) := by decide +kernel
theorem dX4_reckon_55 : decode cX4_reckon 55 = .ok (.iconst (-1), 1) := by decide +kernel
theorem dX4_reckon_56 : decode cX4_reckon 56 = .ok (.ixor, 1) := by decide +kernel
theorem dX4_reckon_57 : decode cX4_reckon 57 = .ok (.iand, 1) := by decide +kernel
theorem dX4_reckon_58 : decode cX4_reckon 58 = .ok (.istore 6, 2) := by decide +kernel
theorem dX4_reckon_60 : decode cX4_reckon 60 = .ok (.aload_n 0, 1) := by decide +kernel
theorem dX4_reckon_61 : decode cX4_reckon 61 = .ok (.getfield 9, 3) := by decide +kernel
theorem dX4_reckon_64 : decode cX4_reckon 64 = .ok (.iload 5, 2) := by decide +kernel
theorem dX4_reckon_66 : decode cX4_reckon 66 = .ok (.aload_n 0, 1) := by decide +kernel
theorem dX4_reckon_67 : decode cX4_reckon 67 = .ok (.aload_n 1, 1) := by decide +kernel
theorem dX4_reckon_68 : decode cX4_reckon 68 = .ok (.iload 5, 2) := by decide +kernel
theorem dX4_reckon_70 : decode cX4_reckon 70 = .ok (.iload 6, 2) := by decide +kernel
theorem dX4_reckon_72 : decode cX4_reckon 72 = .ok (.invokevirtual 33, 3) := by decide +kernel
theorem dX4_reckon_75 : decode cX4_reckon 75 = .ok (.iastore, 1) := by decide +kernel
theorem dX4_reckon_76 : decode cX4_reckon 76 = .ok (.iinc 5 1, 3) := by decide +kernel
theorem dX4_reckon_79 : decode cX4_reckon 79 = .ok (.goto (-59), 3) := by decide +kernel
theorem dX4_reckon_82 : decode cX4_reckon 82 = .ok (.aload_n 0, 1) := by decide +kernel
theorem dX4_reckon_83 : decode cX4_reckon 83 = .ok (.getfield 9, 3) := by decide +kernel
theorem dX4_reckon_86 : decode cX4_reckon 86 = .ok (.iload 4, 2) := by decide +kernel
theorem dX4_reckon_88 : decode cX4_reckon 88 = .ok (.iaload, 1) := by decide +kernel
theorem dX4_reckon_89 : decode cX4_reckon 89 = .ok (.ireturn, 1) := by decide +kernel
theorem mz_i_wsX4_waysEndingIn_4 : (.code yX7_partsOf cX7_partsOf 1 (some .int) : Cond) ∈ wsX4_waysEndingIn := mz_mt (mz_ml (mz_ml (mz_ml (mz_mt (mz_mt (mz_mt mz_mh))))))
theorem mz_i_wsX4_waysEndingIn_11 : (.constant RJ6 267 (252645135) : Cond) ∈ wsX4_waysEndingIn := mz_mt (mz_ml (mz_ml (mz_ml (mz_mt (mz_mt (mz_mt (mz_mt (mz_mt (mz_mt (mz_mt (mz_mt (mz_mt (mz_mt mz_mh)))))))))))))
theorem mz_i_wsX4_waysEndingIn_10 : (.constant RJ6 266 (858993459) : Cond) ∈ wsX4_waysEndingIn := mz_mt (mz_ml (mz_ml (mz_ml (mz_mt (mz_mt (mz_mt (mz_mt (mz_mt (mz_mt (mz_mt (mz_mt (mz_mt mz_mh))))))))))))
theorem mz_i_wsX4_waysEndingIn_9 : (.constant RJ6 265 (1431655765) : Cond) ∈ wsX4_waysEndingIn := mz_mt (mz_ml (mz_ml (mz_ml (mz_mt (mz_mt (mz_mt (mz_mt (mz_mt (mz_mt (mz_mt (mz_mt mz_mh)))))))))))
theorem mz_i_wsX4_waysEndingIn_8 : (.code yJ6_bitCount_0f7a4 cJ6_bitCount_0f7a4 1 (some .int) : Cond) ∈ wsX4_waysEndingIn := mz_mt (mz_ml (mz_ml (mz_ml (mz_mt (mz_mt (mz_mt (mz_mt (mz_mt (mz_mt (mz_mt mz_mh))))))))))
theorem mz_i_wsX4_waysEndingIn_7 : (.initialized RJ6 : Cond) ∈ wsX4_waysEndingIn := mz_mt (mz_ml (mz_ml (mz_ml (mz_mt (mz_mt (mz_mt (mz_mt (mz_mt (mz_mt mz_mh)))))))))
theorem mz_i_wsX4_waysEndingIn_6 : (.static yJ6_bitCount_0f7a4 : Cond) ∈ wsX4_waysEndingIn := mz_mt (mz_ml (mz_ml (mz_ml (mz_mt (mz_mt (mz_mt (mz_mt (mz_mt mz_mh))))))))
theorem mz_i_wsX4_waysEndingIn_5 : (.methodLink RX7 239 yJ6_bitCount_0f7a4 : Cond) ∈ wsX4_waysEndingIn := mz_mt (mz_ml (mz_ml (mz_ml (mz_mt (mz_mt (mz_mt (mz_mt mz_mh)))))))
set_option maxRecDepth 20000 in
theorem ggX4_waysEndingIn_X7_partsOf : GoodIn wsX4_waysEndingIn wsX7_partsOf := goodIn_sub (mz_fc mz_i_wsX4_waysEndingIn_4 (mz_fc mz_i_wsX4_waysEndingIn_5 (mz_fc mz_i_wsX4_waysEndingIn_6 (mz_fc mz_i_wsX4_waysEndingIn_7 (mz_fc mz_i_wsX4_waysEndingIn_8 (mz_fc mz_i_wsX4_waysEndingIn_9 (mz_fc mz_i_wsX4_waysEndingIn_10 (mz_fc mz_i_wsX4_waysEndingIn_11 mz_fn)))))))) (by decide +kernel)
set_option maxRecDepth 20000 in
theorem gX4_waysEndingIn_X7_partsOf_n37 : GoodIn wsX4_waysEndingIn (wsX7_partsOf) := ggX4_waysEndingIn_X7_partsOf
theorem mz_i_wsX4_waysEndingIn_13 : (.code yX7_nextPart cX7_nextPart 2 (some .int) : Cond) ∈ wsX4_waysEndingIn := mz_mt (mz_ml (mz_ml (mz_ml (mz_mt (mz_mt (mz_mt (mz_mt (mz_mt (mz_mt (mz_mt (mz_mt (mz_mt (mz_mt (mz_mt (mz_mt mz_mh)))))))))))))))
set_option maxRecDepth 20000 in
theorem ggX4_waysEndingIn_X7_nextPart : GoodIn wsX4_waysEndingIn wsX7_nextPart := goodIn_sub (mz_fc mz_i_wsX4_waysEndingIn_13 (mz_fn)) (by decide +kernel)
set_option maxRecDepth 20000 in
theorem gX4_waysEndingIn_X7_nextPart_n40 : GoodIn wsX4_waysEndingIn (wsX7_nextPart) := ggX4_waysEndingIn_X7_nextPart
theorem mz_i_wsX4_waysEndingIn_18 : (.code yX2_apart cX2_apart 3 (some .boolean) : Cond) ∈ wsX4_waysEndingIn := mz_mt (mz_ml (mz_ml (mz_ml (mz_mt (mz_mt (mz_mt (mz_mt (mz_mt (mz_mt (mz_mt (mz_mt (mz_mt (mz_mt (mz_mt (mz_mt (mz_mt (mz_mt (mz_mt (mz_mt (mz_mt mz_mh))))))))))))))))))))
theorem mz_i_wsX4_waysEndingIn_31 : (.code yX2_has cX2_has 2 (some .boolean) : Cond) ∈ wsX4_waysEndingIn := mz_mt (mz_ml (mz_ml (mz_mr (mz_mt (mz_mt (mz_mt (mz_mt (mz_mt (mz_mt mz_mh)))))))))
theorem mz_i_wsX4_waysEndingIn_30 : (.selects RX2 yX2_has yX2_has : Cond) ∈ wsX4_waysEndingIn := mz_mt (mz_ml (mz_ml (mz_mr (mz_mt (mz_mt (mz_mt (mz_mt (mz_mt mz_mh))))))))
theorem mz_i_wsX4_waysEndingIn_29 : (.instanceMethod yX2_has : Cond) ∈ wsX4_waysEndingIn := mz_mt (mz_ml (mz_ml (mz_mr (mz_mt (mz_mt (mz_mt (mz_mt mz_mh)))))))
theorem mz_i_wsX4_waysEndingIn_28 : (.methodLink RX2 22 yX2_has : Cond) ∈ wsX4_waysEndingIn := mz_mt (mz_ml (mz_ml (mz_mr (mz_mt (mz_mt (mz_mt mz_mh))))))
theorem mz_i_wsX4_waysEndingIn_27 : (.fieldLink RX2 15 "MadeItSo$Drawing" "children" "[I" : Cond) ∈ wsX4_waysEndingIn := mz_mt (mz_ml (mz_ml (mz_mr (mz_mt (mz_mt mz_mh)))))
theorem mz_i_wsX4_waysEndingIn_26 : (.fieldLink RX2 9 "MadeItSo$Drawing" "parents" "[I" : Cond) ∈ wsX4_waysEndingIn := mz_mt (mz_ml (mz_ml (mz_mr (mz_mt mz_mh))))
theorem mz_i_wsX4_waysEndingIn_25 : (.code yX2_joinedTo cX2_joinedTo 2 (some .int) : Cond) ∈ wsX4_waysEndingIn := mz_mt (mz_ml (mz_ml (mz_mr mz_mh)))
theorem mz_i_wsX4_waysEndingIn_17 : (.initialized RX2 : Cond) ∈ wsX4_waysEndingIn := mz_mt (mz_ml (mz_ml (mz_ml (mz_mt (mz_mt (mz_mt (mz_mt (mz_mt (mz_mt (mz_mt (mz_mt (mz_mt (mz_mt (mz_mt (mz_mt (mz_mt (mz_mt (mz_mt (mz_mt mz_mh)))))))))))))))))))
theorem mz_i_wsX4_waysEndingIn_24 : (.selects RX2 yX2_joinedTo yX2_joinedTo : Cond) ∈ wsX4_waysEndingIn := mz_mt (mz_ml (mz_ml (mz_ml (mz_mt (mz_mt (mz_mt (mz_mt (mz_mt (mz_mt (mz_mt (mz_mt (mz_mt (mz_mt (mz_mt (mz_mt (mz_mt (mz_mt (mz_mt (mz_mt (mz_mt (mz_mt (mz_mt (mz_mt (mz_mt (mz_mt (mz_mt mz_mh))))))))))))))))))))))))))
theorem mz_i_wsX4_waysEndingIn_23 : (.instanceMethod yX2_joinedTo : Cond) ∈ wsX4_waysEndingIn := mz_mt (mz_ml (mz_ml (mz_ml (mz_mt (mz_mt (mz_mt (mz_mt (mz_mt (mz_mt (mz_mt (mz_mt (mz_mt (mz_mt (mz_mt (mz_mt (mz_mt (mz_mt (mz_mt (mz_mt (mz_mt (mz_mt (mz_mt (mz_mt (mz_mt (mz_mt mz_mh)))))))))))))))))))))))))
theorem mz_i_wsX4_waysEndingIn_22 : (.methodLink RX2 30 yX2_joinedTo : Cond) ∈ wsX4_waysEndingIn := mz_mt (mz_ml (mz_ml (mz_ml (mz_mt (mz_mt (mz_mt (mz_mt (mz_mt (mz_mt (mz_mt (mz_mt (mz_mt (mz_mt (mz_mt (mz_mt (mz_mt (mz_mt (mz_mt (mz_mt (mz_mt (mz_mt (mz_mt (mz_mt (mz_mt mz_mh))))))))))))))))))))))))
theorem mz_i_wsX4_waysEndingIn_21 : (.code yX7_inHeap cX7_inHeap 2 (some .boolean) : Cond) ∈ wsX4_waysEndingIn := mz_mt (mz_ml (mz_ml (mz_ml (mz_mt (mz_mt (mz_mt (mz_mt (mz_mt (mz_mt (mz_mt (mz_mt (mz_mt (mz_mt (mz_mt (mz_mt (mz_mt (mz_mt (mz_mt (mz_mt (mz_mt (mz_mt (mz_mt (mz_mt mz_mh)))))))))))))))))))))))
theorem mz_i_wsX4_waysEndingIn_3 : (.initialized RX7 : Cond) ∈ wsX4_waysEndingIn := mz_mt (mz_ml (mz_ml (mz_ml (mz_mt (mz_mt mz_mh)))))
theorem mz_i_wsX4_waysEndingIn_20 : (.static yX7_inHeap : Cond) ∈ wsX4_waysEndingIn := mz_mt (mz_ml (mz_ml (mz_ml (mz_mt (mz_mt (mz_mt (mz_mt (mz_mt (mz_mt (mz_mt (mz_mt (mz_mt (mz_mt (mz_mt (mz_mt (mz_mt (mz_mt (mz_mt (mz_mt (mz_mt (mz_mt (mz_mt mz_mh))))))))))))))))))))))
theorem mz_i_wsX4_waysEndingIn_19 : (.fieldLink RX2 18 "MadeItSo$Drawing" "things" "I" : Cond) ∈ wsX4_waysEndingIn := mz_mt (mz_ml (mz_ml (mz_ml (mz_mt (mz_mt (mz_mt (mz_mt (mz_mt (mz_mt (mz_mt (mz_mt (mz_mt (mz_mt (mz_mt (mz_mt (mz_mt (mz_mt (mz_mt (mz_mt (mz_mt (mz_mt mz_mh)))))))))))))))))))))
theorem mz_f_wsX4_waysEndingIn_wsX20 : ∀ w ∈ wsX20, w ∈ wsX4_waysEndingIn := fun _ h => mz_mt (mz_mr h)
set_option maxRecDepth 20000 in
theorem ggX4_waysEndingIn_X2_apart : GoodIn wsX4_waysEndingIn wsX2_apart := goodIn_sub (mz_fc mz_i_wsX4_waysEndingIn_18 (mz_fa (mz_fc mz_i_wsX4_waysEndingIn_19 (mz_fc mz_i_wsX4_waysEndingIn_20 (mz_fc mz_i_wsX4_waysEndingIn_3 (mz_fc mz_i_wsX4_waysEndingIn_21 (mz_fc mz_i_wsX4_waysEndingIn_22 (mz_fc mz_i_wsX4_waysEndingIn_23 (mz_fc mz_i_wsX4_waysEndingIn_24 (mz_fc mz_i_wsX4_waysEndingIn_17 (mz_fc mz_i_wsX4_waysEndingIn_25 (mz_fc mz_i_wsX4_waysEndingIn_26 (mz_fc mz_i_wsX4_waysEndingIn_27 (mz_fc mz_i_wsX4_waysEndingIn_28 (mz_fc mz_i_wsX4_waysEndingIn_29 (mz_fc mz_i_wsX4_waysEndingIn_30 (mz_fc mz_i_wsX4_waysEndingIn_31 mz_fn))))))))))))))) (mz_f_wsX4_waysEndingIn_wsX20))) (by decide +kernel)
theorem mz_i_wsX4_waysEndingIn_16 : (.selects RX2 yX2_apart yX2_apart : Cond) ∈ wsX4_waysEndingIn := mz_mt (mz_ml (mz_ml (mz_ml (mz_mt (mz_mt (mz_mt (mz_mt (mz_mt (mz_mt (mz_mt (mz_mt (mz_mt (mz_mt (mz_mt (mz_mt (mz_mt (mz_mt (mz_mt mz_mh))))))))))))))))))
theorem mz_i_wsX4_waysEndingIn_15 : (.instanceMethod yX2_apart : Cond) ∈ wsX4_waysEndingIn := mz_mt (mz_ml (mz_ml (mz_ml (mz_mt (mz_mt (mz_mt (mz_mt (mz_mt (mz_mt (mz_mt (mz_mt (mz_mt (mz_mt (mz_mt (mz_mt (mz_mt (mz_mt mz_mh)))))))))))))))))
theorem mz_i_wsX4_waysEndingIn_14 : (.methodLink RX4 44 yX2_apart : Cond) ∈ wsX4_waysEndingIn := mz_mt (mz_ml (mz_ml (mz_ml (mz_mt (mz_mt (mz_mt (mz_mt (mz_mt (mz_mt (mz_mt (mz_mt (mz_mt (mz_mt (mz_mt (mz_mt (mz_mt mz_mh))))))))))))))))
set_option maxRecDepth 20000 in
theorem gX4_waysEndingIn_X2_apart : GoodIn wsX4_waysEndingIn (wsV RX4 44 RX2 yX2_apart wsX2_apart) := goodIn_app (goodIn_sub (mz_fc mz_i_wsX4_waysEndingIn_14 (mz_fc mz_i_wsX4_waysEndingIn_15 (mz_fc mz_i_wsX4_waysEndingIn_16 (mz_fc mz_i_wsX4_waysEndingIn_17 mz_fn)))) (by decide +kernel)) ggX4_waysEndingIn_X2_apart
set_option maxRecDepth 20000 in
theorem ggX4_waysEndingIn_J6_bitCount_0f7a4 : GoodIn wsX4_waysEndingIn wsJ6_bitCount_0f7a4 := goodIn_sub (mz_fc mz_i_wsX4_waysEndingIn_8 (mz_fc mz_i_wsX4_waysEndingIn_9 (mz_fc mz_i_wsX4_waysEndingIn_10 (mz_fc mz_i_wsX4_waysEndingIn_11 mz_fn)))) (by decide +kernel)
theorem mz_i_wsX4_waysEndingIn_32 : (.methodLink RX4 48 yJ6_bitCount_0f7a4 : Cond) ∈ wsX4_waysEndingIn := mz_mt (mz_ml (mz_ml (mz_mr (mz_mt (mz_mt (mz_mt (mz_mt (mz_mt (mz_mt (mz_mt mz_mh))))))))))
set_option maxRecDepth 20000 in
theorem gX4_waysEndingIn_J6_bitCount_0f7a4 : GoodIn wsX4_waysEndingIn (va_wsS RX4 48 yJ6_bitCount_0f7a4 wsJ6_bitCount_0f7a4) := goodIn_app (goodIn_sub (mz_fc mz_i_wsX4_waysEndingIn_32 (mz_fc mz_i_wsX4_waysEndingIn_6 (mz_fc mz_i_wsX4_waysEndingIn_7 mz_fn))) (by decide +kernel)) ggX4_waysEndingIn_J6_bitCount_0f7a4
theorem dX4_waysEndingIn_0 : decode cX4_waysEndingIn 0 = .ok (.iconst 0, 1) := by decide +kernel
theorem dX4_waysEndingIn_1 : decode cX4_waysEndingIn 1 = .ok (.istore 4, 2) := by decide +kernel
theorem dX4_waysEndingIn_3 : decode cX4_waysEndingIn 3 = .ok (.iload_n 3, 1) := by decide +kernel
theorem dX4_waysEndingIn_4 : decode cX4_waysEndingIn 4 = .ok (.invokestatic 37, 3) := by decide +kernel
theorem dX4_waysEndingIn_7 : decode cX4_waysEndingIn 7 = .ok (.istore 5, 2) := by decide +kernel
theorem dX4_waysEndingIn_9 : decode cX4_waysEndingIn 9 = .ok (.iconst 1, 1) := by decide +kernel
theorem dX4_waysEndingIn_10 : decode cX4_waysEndingIn 10 = .ok (.istore 6, 2) := by decide +kernel
theorem dX4_waysEndingIn_12 : decode cX4_waysEndingIn 12 = .ok (.iconst 0, 1) := by decide +kernel
theorem dX4_waysEndingIn_13 : decode cX4_waysEndingIn 13 = .ok (.iload_n 3, 1) := by decide +kernel
theorem dX4_waysEndingIn_14 : decode cX4_waysEndingIn 14 = .ok (.invokestatic 40, 3) := by decide +kernel
theorem dX4_waysEndingIn_17 : decode cX4_waysEndingIn 17 = .ok (.istore 7, 2) := by decide +kernel
theorem dX4_waysEndingIn_19 : decode cX4_waysEndingIn 19 = .ok (.iload 6, 2) := by decide +kernel
theorem dX4_waysEndingIn_21 : decode cX4_waysEndingIn 21 = .ok (.iload 5, 2) := by decide +kernel
theorem dX4_waysEndingIn_23 : decode cX4_waysEndingIn 23 = .ok (.if_icmp .ge 67, 3) := by decide +kernel
theorem dX4_waysEndingIn_26 : decode cX4_waysEndingIn 26 = .ok (.aload_n 1, 1) := by decide +kernel
theorem dX4_waysEndingIn_27 : decode cX4_waysEndingIn 27 = .ok (.iload 7, 2) := by decide +kernel
theorem dX4_waysEndingIn_29 : decode cX4_waysEndingIn 29 = .ok (.invokevirtual 44, 3) := by decide +kernel
theorem dX4_waysEndingIn_32 : decode cX4_waysEndingIn 32 = .ok (.ifCond .eq 44, 3) := by decide +kernel
theorem dX4_waysEndingIn_35 : decode cX4_waysEndingIn 35 = .ok (.aload_n 0, 1) := by decide +kernel
theorem dX4_waysEndingIn_36 : decode cX4_waysEndingIn 36 = .ok (.getfield 9, 3) := by decide +kernel
theorem dX4_waysEndingIn_39 : decode cX4_waysEndingIn 39 = .ok (.iload_n 2, 1) := by decide +kernel
theorem dX4_waysEndingIn_40 : decode cX4_waysEndingIn 40 = .ok (.iload 7, 2) := by decide +kernel
theorem dX4_waysEndingIn_42 : decode cX4_waysEndingIn 42 = .ok (.iconst (-1), 1) := by decide +kernel
theorem dX4_waysEndingIn_43 : decode cX4_waysEndingIn 43 = .ok (.ixor, 1) := by decide +kernel
theorem dX4_waysEndingIn_44 : decode cX4_waysEndingIn 44 = .ok (.iand, 1) := by decide +kernel
theorem dX4_waysEndingIn_45 : decode cX4_waysEndingIn 45 = .ok (.sipush 255, 3) := by decide +kernel
theorem dX4_waysEndingIn_48 : decode cX4_waysEndingIn 48 = .ok (.iand, 1) := by decide +kernel
theorem dX4_waysEndingIn_49 : decode cX4_waysEndingIn 49 = .ok (.iaload, 1) := by decide +kernel
theorem dX4_waysEndingIn_50 : decode cX4_waysEndingIn 50 = .ok (.istore 8, 2) := by decide +kernel
theorem dX4_waysEndingIn_52 : decode cX4_waysEndingIn 52 = .ok (.iload 4, 2) := by decide +kernel
theorem dX4_waysEndingIn_54 : decode cX4_waysEndingIn 54 = .ok (.iload 7, 2) := by decide +kernel
theorem dX4_waysEndingIn_56 : decode cX4_waysEndingIn 56 = .ok (.invokestatic 48, 3) := by decide +kernel
theorem dX4_waysEndingIn_59 : decode cX4_waysEndingIn 59 = .ok (.iconst 1, 1) := by decide +kernel
theorem dX4_waysEndingIn_60 : decode cX4_waysEndingIn 60 = .ok (.iand, 1) := by decide +kernel
theorem dX4_waysEndingIn_61 : decode cX4_waysEndingIn 61 = .ok (.iconst 1, 1) := by decide +kernel
theorem dX4_waysEndingIn_62 : decode cX4_waysEndingIn 62 = .ok (.if_icmp .ne 8, 3) := by decide +kernel
theorem dX4_waysEndingIn_65 : decode cX4_waysEndingIn 65 = .ok (.iload 8, 2) := by decide +kernel
theorem dX4_waysEndingIn_67 : decode cX4_waysEndingIn 67 = .ok (.goto 6, 3) := by decide +kernel
theorem dX4_waysEndingIn_70 : decode cX4_waysEndingIn 70 = .ok (.iload 8, 2) := by decide +kernel
theorem dX4_waysEndingIn_72 : decode cX4_waysEndingIn 72 = .ok (.ineg, 1) := by decide +kernel
theorem dX4_waysEndingIn_73 : decode cX4_waysEndingIn 73 = .ok (.iadd, 1) := by decide +kernel
theorem dX4_waysEndingIn_74 : decode cX4_waysEndingIn 74 = .ok (.istore 4, 2) := by decide +kernel
theorem dX4_waysEndingIn_76 : decode cX4_waysEndingIn 76 = .ok (.iinc 6 1, 3) := by decide +kernel
theorem dX4_waysEndingIn_79 : decode cX4_waysEndingIn 79 = .ok (.iload 7, 2) := by decide +kernel
theorem dX4_waysEndingIn_81 : decode cX4_waysEndingIn 81 = .ok (.iload_n 3, 1) := by decide +kernel
theorem dX4_waysEndingIn_82 : decode cX4_waysEndingIn 82 = .ok (.invokestatic 40, 3) := by decide +kernel
theorem dX4_waysEndingIn_85 : decode cX4_waysEndingIn 85 = .ok (.istore 7, 2) := by decide +kernel
theorem dX4_waysEndingIn_87 : decode cX4_waysEndingIn 87 = .ok (.goto (-68), 3) := by decide +kernel
theorem dX4_waysEndingIn_90 : decode cX4_waysEndingIn 90 = .ok (.iload 4, 2) := by decide +kernel
theorem dX4_waysEndingIn_92 : decode cX4_waysEndingIn 92 = .ok (.ireturn, 1) := by decide +kernel
theorem mz_i_wsX4_canBeLast_5 : (.code yX2_size cX2_size 1 (some .int) : Cond) ∈ wsX4_canBeLast := mz_mt (mz_ml (mz_ml (mz_mt (mz_mt (mz_mt (mz_mt mz_mh))))))
theorem mz_i_wsX4_canBeLast_6 : (.fieldLink RX2 18 "MadeItSo$Drawing" "things" "I" : Cond) ∈ wsX4_canBeLast := mz_mt (mz_ml (mz_ml (mz_mt (mz_mt (mz_mt (mz_mt (mz_mt mz_mh)))))))
theorem mz_f_wsX4_canBeLast_wsX20 : ∀ w ∈ wsX20, w ∈ wsX4_canBeLast := fun _ h => mz_mt (mz_mr h)
set_option maxRecDepth 20000 in
theorem ggX4_canBeLast_X2_size : GoodIn wsX4_canBeLast wsX2_size := goodIn_sub (mz_fc mz_i_wsX4_canBeLast_5 (mz_fa (mz_fc mz_i_wsX4_canBeLast_6 mz_fn) (mz_f_wsX4_canBeLast_wsX20))) (by decide +kernel)
theorem mz_i_wsX4_canBeLast_4 : (.initialized RX2 : Cond) ∈ wsX4_canBeLast := mz_mt (mz_ml (mz_ml (mz_mt (mz_mt (mz_mt mz_mh)))))
theorem mz_i_wsX4_canBeLast_3 : (.selects RX2 yX2_size yX2_size : Cond) ∈ wsX4_canBeLast := mz_mt (mz_ml (mz_ml (mz_mt (mz_mt mz_mh))))
theorem mz_i_wsX4_canBeLast_2 : (.instanceMethod yX2_size : Cond) ∈ wsX4_canBeLast := mz_mt (mz_ml (mz_ml (mz_mt mz_mh)))
theorem mz_i_wsX4_canBeLast_1 : (.methodLink RX4 53 yX2_size : Cond) ∈ wsX4_canBeLast := mz_mt (mz_ml (mz_ml mz_mh))
set_option maxRecDepth 20000 in
theorem gX4_canBeLast_X2_size : GoodIn wsX4_canBeLast (wsV RX4 53 RX2 yX2_size wsX2_size) := goodIn_app (goodIn_sub (mz_fc mz_i_wsX4_canBeLast_1 (mz_fc mz_i_wsX4_canBeLast_2 (mz_fc mz_i_wsX4_canBeLast_3 (mz_fc mz_i_wsX4_canBeLast_4 mz_fn)))) (by decide +kernel)) ggX4_canBeLast_X2_size
theorem mz_i_wsX4_canBeLast_9 : (.code yX7_inHeap cX7_inHeap 2 (some .boolean) : Cond) ∈ wsX4_canBeLast := mz_mt (mz_ml (mz_ml (mz_mt (mz_mt (mz_mt (mz_mt (mz_mt (mz_mt (mz_mt (mz_mt mz_mh))))))))))
set_option maxRecDepth 20000 in
theorem ggX4_canBeLast_X7_inHeap : GoodIn wsX4_canBeLast wsX7_inHeap := goodIn_sub (mz_fc mz_i_wsX4_canBeLast_9 (mz_fn)) (by decide +kernel)
set_option maxRecDepth 20000 in
theorem gX4_canBeLast_X7_inHeap_n25 : GoodIn wsX4_canBeLast (wsX7_inHeap) := ggX4_canBeLast_X7_inHeap
theorem mz_i_wsX4_canBeLast_13 : (.code yX2_joinedTo cX2_joinedTo 2 (some .int) : Cond) ∈ wsX4_canBeLast := mz_mt (mz_ml (mz_ml (mz_mt (mz_mt (mz_mt (mz_mt (mz_mt (mz_mt (mz_mt (mz_mt (mz_mt (mz_mt (mz_mt (mz_mt mz_mh))))))))))))))
theorem mz_i_wsX4_canBeLast_19 : (.code yX2_has cX2_has 2 (some .boolean) : Cond) ∈ wsX4_canBeLast := mz_mt (mz_ml (mz_ml (mz_mt (mz_mt (mz_mt (mz_mt (mz_mt (mz_mt (mz_mt (mz_mt (mz_mt (mz_mt (mz_mt (mz_mt (mz_mt (mz_mt (mz_mt (mz_mt (mz_mt (mz_mt mz_mh))))))))))))))))))))
theorem mz_i_wsX4_canBeLast_18 : (.selects RX2 yX2_has yX2_has : Cond) ∈ wsX4_canBeLast := mz_mt (mz_ml (mz_ml (mz_mt (mz_mt (mz_mt (mz_mt (mz_mt (mz_mt (mz_mt (mz_mt (mz_mt (mz_mt (mz_mt (mz_mt (mz_mt (mz_mt (mz_mt (mz_mt (mz_mt mz_mh)))))))))))))))))))
theorem mz_i_wsX4_canBeLast_17 : (.instanceMethod yX2_has : Cond) ∈ wsX4_canBeLast := mz_mt (mz_ml (mz_ml (mz_mt (mz_mt (mz_mt (mz_mt (mz_mt (mz_mt (mz_mt (mz_mt (mz_mt (mz_mt (mz_mt (mz_mt (mz_mt (mz_mt (mz_mt (mz_mt mz_mh))))))))))))))))))
theorem mz_i_wsX4_canBeLast_16 : (.methodLink RX2 22 yX2_has : Cond) ∈ wsX4_canBeLast := mz_mt (mz_ml (mz_ml (mz_mt (mz_mt (mz_mt (mz_mt (mz_mt (mz_mt (mz_mt (mz_mt (mz_mt (mz_mt (mz_mt (mz_mt (mz_mt (mz_mt (mz_mt mz_mh)))))))))))))))))
theorem mz_i_wsX4_canBeLast_15 : (.fieldLink RX2 15 "MadeItSo$Drawing" "children" "[I" : Cond) ∈ wsX4_canBeLast := mz_mt (mz_ml (mz_ml (mz_mt (mz_mt (mz_mt (mz_mt (mz_mt (mz_mt (mz_mt (mz_mt (mz_mt (mz_mt (mz_mt (mz_mt (mz_mt (mz_mt mz_mh))))))))))))))))
theorem mz_i_wsX4_canBeLast_14 : (.fieldLink RX2 9 "MadeItSo$Drawing" "parents" "[I" : Cond) ∈ wsX4_canBeLast := mz_mt (mz_ml (mz_ml (mz_mt (mz_mt (mz_mt (mz_mt (mz_mt (mz_mt (mz_mt (mz_mt (mz_mt (mz_mt (mz_mt (mz_mt (mz_mt mz_mh)))))))))))))))
set_option maxRecDepth 20000 in
theorem ggX4_canBeLast_X2_joinedTo : GoodIn wsX4_canBeLast wsX2_joinedTo := goodIn_sub (mz_fc mz_i_wsX4_canBeLast_13 (mz_fa (mz_fc mz_i_wsX4_canBeLast_14 (mz_fc mz_i_wsX4_canBeLast_15 (mz_fc mz_i_wsX4_canBeLast_16 (mz_fc mz_i_wsX4_canBeLast_17 (mz_fc mz_i_wsX4_canBeLast_18 (mz_fc mz_i_wsX4_canBeLast_4 (mz_fc mz_i_wsX4_canBeLast_19 (mz_fc mz_i_wsX4_canBeLast_6 mz_fn)))))))) (mz_f_wsX4_canBeLast_wsX20))) (by decide +kernel)
theorem mz_i_wsX4_canBeLast_12 : (.selects RX2 yX2_joinedTo yX2_joinedTo : Cond) ∈ wsX4_canBeLast := mz_mt (mz_ml (mz_ml (mz_mt (mz_mt (mz_mt (mz_mt (mz_mt (mz_mt (mz_mt (mz_mt (mz_mt (mz_mt (mz_mt mz_mh)))))))))))))
theorem mz_i_wsX4_canBeLast_11 : (.instanceMethod yX2_joinedTo : Cond) ∈ wsX4_canBeLast := mz_mt (mz_ml (mz_ml (mz_mt (mz_mt (mz_mt (mz_mt (mz_mt (mz_mt (mz_mt (mz_mt (mz_mt (mz_mt mz_mh))))))))))))
theorem mz_i_wsX4_canBeLast_10 : (.methodLink RX4 56 yX2_joinedTo : Cond) ∈ wsX4_canBeLast := mz_mt (mz_ml (mz_ml (mz_mt (mz_mt (mz_mt (mz_mt (mz_mt (mz_mt (mz_mt (mz_mt (mz_mt mz_mh)))))))))))
set_option maxRecDepth 20000 in
theorem gX4_canBeLast_X2_joinedTo : GoodIn wsX4_canBeLast (wsV RX4 56 RX2 yX2_joinedTo wsX2_joinedTo) := goodIn_app (goodIn_sub (mz_fc mz_i_wsX4_canBeLast_10 (mz_fc mz_i_wsX4_canBeLast_11 (mz_fc mz_i_wsX4_canBeLast_12 (mz_fc mz_i_wsX4_canBeLast_4 mz_fn)))) (by decide +kernel)) ggX4_canBeLast_X2_joinedTo
theorem mz_i_wsX4_canBeLast_23 : (.code yX2_sameThirds cX2_sameThirds 5 (some .boolean) : Cond) ∈ wsX4_canBeLast := mz_mt (mz_ml (mz_ml (mz_mt (mz_mt (mz_mt (mz_mt (mz_mt (mz_mt (mz_mt (mz_mt (mz_mt (mz_mt (mz_mt (mz_mt (mz_mt (mz_mt (mz_mt (mz_mt (mz_mt (mz_mt (mz_mt (mz_mt (mz_mt (mz_mt mz_mh))))))))))))))))))))))))
theorem mz_i_wsX4_canBeLast_33 : (.static yX7_bit : Cond) ∈ wsX4_canBeLast := mz_mt (mz_ml (mz_mr (mz_mt (mz_mt (mz_mt (mz_mt (mz_mt (mz_mt (mz_mt (mz_mt mz_mh))))))))))
theorem mz_i_wsX4_canBeLast_32 : (.methodLink RX2 30 yX2_joinedTo : Cond) ∈ wsX4_canBeLast := mz_mt (mz_ml (mz_mr (mz_mt (mz_mt (mz_mt (mz_mt (mz_mt (mz_mt (mz_mt mz_mh)))))))))
theorem mz_i_wsX4_canBeLast_31 : (.code yX2_unjoinedWith cX2_unjoinedWith 3 (some .int) : Cond) ∈ wsX4_canBeLast := mz_mt (mz_ml (mz_mr (mz_mt (mz_mt (mz_mt (mz_mt (mz_mt (mz_mt mz_mh))))))))
theorem mz_i_wsX4_canBeLast_30 : (.selects RX2 yX2_unjoinedWith yX2_unjoinedWith : Cond) ∈ wsX4_canBeLast := mz_mt (mz_ml (mz_mr (mz_mt (mz_mt (mz_mt (mz_mt (mz_mt mz_mh)))))))
theorem mz_i_wsX4_canBeLast_29 : (.instanceMethod yX2_unjoinedWith : Cond) ∈ wsX4_canBeLast := mz_mt (mz_ml (mz_mr (mz_mt (mz_mt (mz_mt (mz_mt mz_mh))))))
theorem mz_i_wsX4_canBeLast_28 : (.methodLink RX2 61 yX2_unjoinedWith : Cond) ∈ wsX4_canBeLast := mz_mt (mz_ml (mz_mr (mz_mt (mz_mt (mz_mt mz_mh)))))
theorem mz_i_wsX4_canBeLast_8 : (.initialized RX7 : Cond) ∈ wsX4_canBeLast := mz_mt (mz_ml (mz_ml (mz_mt (mz_mt (mz_mt (mz_mt (mz_mt (mz_mt (mz_mt mz_mh)))))))))
theorem mz_i_wsX4_canBeLast_7 : (.static yX7_inHeap : Cond) ∈ wsX4_canBeLast := mz_mt (mz_ml (mz_ml (mz_mt (mz_mt (mz_mt (mz_mt (mz_mt (mz_mt mz_mh))))))))
theorem mz_i_wsX4_canBeLast_27 : (.code yX2_parentsOf cX2_parentsOf 2 (some .int) : Cond) ∈ wsX4_canBeLast := mz_mt (mz_ml (mz_mr (mz_mt (mz_mt mz_mh))))
theorem mz_i_wsX4_canBeLast_26 : (.selects RX2 yX2_parentsOf yX2_parentsOf : Cond) ∈ wsX4_canBeLast := mz_mt (mz_ml (mz_mr (mz_mt mz_mh)))
theorem mz_i_wsX4_canBeLast_25 : (.instanceMethod yX2_parentsOf : Cond) ∈ wsX4_canBeLast := mz_mt (mz_ml (mz_mr mz_mh))
theorem mz_i_wsX4_canBeLast_24 : (.methodLink RX2 58 yX2_parentsOf : Cond) ∈ wsX4_canBeLast := mz_mt (mz_ml (mz_ml (mz_mt (mz_mt (mz_mt (mz_mt (mz_mt (mz_mt (mz_mt (mz_mt (mz_mt (mz_mt (mz_mt (mz_mt (mz_mt (mz_mt (mz_mt (mz_mt (mz_mt (mz_mt (mz_mt (mz_mt (mz_mt (mz_mt (mz_mt mz_mh)))))))))))))))))))))))))
theorem mz_i_wsX4_canBeLast_34 : (.code yX7_bit cX7_bit 1 (some .int) : Cond) ∈ wsX4_canBeLast := mz_mt (mz_ml (mz_mr (mz_mt (mz_mt (mz_mt (mz_mt (mz_mt (mz_mt (mz_mt (mz_mt (mz_mt mz_mh)))))))))))
set_option maxRecDepth 20000 in
theorem ggX4_canBeLast_X2_sameThirds : GoodIn wsX4_canBeLast wsX2_sameThirds := goodIn_sub (mz_fc mz_i_wsX4_canBeLast_23 (mz_fa (mz_fa (mz_fc mz_i_wsX4_canBeLast_6 (mz_fc mz_i_wsX4_canBeLast_24 (mz_fc mz_i_wsX4_canBeLast_25 (mz_fc mz_i_wsX4_canBeLast_26 (mz_fc mz_i_wsX4_canBeLast_4 (mz_fc mz_i_wsX4_canBeLast_27 (mz_fc mz_i_wsX4_canBeLast_14 (mz_fc mz_i_wsX4_canBeLast_16 (mz_fc mz_i_wsX4_canBeLast_17 (mz_fc mz_i_wsX4_canBeLast_18 (mz_fc mz_i_wsX4_canBeLast_19 (mz_fc mz_i_wsX4_canBeLast_7 (mz_fc mz_i_wsX4_canBeLast_8 (mz_fc mz_i_wsX4_canBeLast_9 (mz_fc mz_i_wsX4_canBeLast_28 (mz_fc mz_i_wsX4_canBeLast_29 (mz_fc mz_i_wsX4_canBeLast_30 (mz_fc mz_i_wsX4_canBeLast_31 (mz_fc mz_i_wsX4_canBeLast_32 (mz_fc mz_i_wsX4_canBeLast_11 (mz_fc mz_i_wsX4_canBeLast_12 (mz_fc mz_i_wsX4_canBeLast_13 (mz_fc mz_i_wsX4_canBeLast_15 (mz_fc mz_i_wsX4_canBeLast_33 mz_fn)))))))))))))))))))))))) (mz_fc mz_i_wsX4_canBeLast_34 mz_fn)) (mz_f_wsX4_canBeLast_wsX20))) (by decide +kernel)
theorem mz_i_wsX4_canBeLast_22 : (.selects RX2 yX2_sameThirds yX2_sameThirds : Cond) ∈ wsX4_canBeLast := mz_mt (mz_ml (mz_ml (mz_mt (mz_mt (mz_mt (mz_mt (mz_mt (mz_mt (mz_mt (mz_mt (mz_mt (mz_mt (mz_mt (mz_mt (mz_mt (mz_mt (mz_mt (mz_mt (mz_mt (mz_mt (mz_mt (mz_mt (mz_mt mz_mh)))))))))))))))))))))))
theorem mz_i_wsX4_canBeLast_21 : (.instanceMethod yX2_sameThirds : Cond) ∈ wsX4_canBeLast := mz_mt (mz_ml (mz_ml (mz_mt (mz_mt (mz_mt (mz_mt (mz_mt (mz_mt (mz_mt (mz_mt (mz_mt (mz_mt (mz_mt (mz_mt (mz_mt (mz_mt (mz_mt (mz_mt (mz_mt (mz_mt (mz_mt (mz_mt mz_mh))))))))))))))))))))))
theorem mz_i_wsX4_canBeLast_20 : (.methodLink RX4 59 yX2_sameThirds : Cond) ∈ wsX4_canBeLast := mz_mt (mz_ml (mz_ml (mz_mt (mz_mt (mz_mt (mz_mt (mz_mt (mz_mt (mz_mt (mz_mt (mz_mt (mz_mt (mz_mt (mz_mt (mz_mt (mz_mt (mz_mt (mz_mt (mz_mt (mz_mt (mz_mt mz_mh)))))))))))))))))))))
set_option maxRecDepth 20000 in
theorem gX4_canBeLast_X2_sameThirds : GoodIn wsX4_canBeLast (wsV RX4 59 RX2 yX2_sameThirds wsX2_sameThirds) := goodIn_app (goodIn_sub (mz_fc mz_i_wsX4_canBeLast_20 (mz_fc mz_i_wsX4_canBeLast_21 (mz_fc mz_i_wsX4_canBeLast_22 (mz_fc mz_i_wsX4_canBeLast_4 mz_fn)))) (by decide +kernel)) ggX4_canBeLast_X2_sameThirds
set_option maxRecDepth 20000 in
theorem ggX4_canBeLast_X7_bit : GoodIn wsX4_canBeLast wsX7_bit := goodIn_sub (mz_fc mz_i_wsX4_canBeLast_34 (mz_fn)) (by decide +kernel)
set_option maxRecDepth 20000 in
theorem gX4_canBeLast_X7_bit_n29 : GoodIn wsX4_canBeLast (wsX7_bit) := ggX4_canBeLast_X7_bit
theorem dX4_canBeLast_0 : decode cX4_canBeLast 0 = .ok (.iconst 0, 1) := by decide +kernel
theorem dX4_canBeLast_1 : decode cX4_canBeLast 1 = .ok (.istore_n 2, 1) := by decide +kernel
theorem dX4_canBeLast_2 : decode cX4_canBeLast 2 = .ok (.iconst 0, 1) := by decide +kernel
theorem dX4_canBeLast_3 : decode cX4_canBeLast 3 = .ok (.istore_n 3, 1) := by decide +kernel
theorem dX4_canBeLast_4 : decode cX4_canBeLast 4 = .ok (.iload_n 3, 1) := by decide +kernel
theorem dX4_canBeLast_5 : decode cX4_canBeLast 5 = .ok (.aload_n 0, 1) := by decide +kernel
theorem dX4_canBeLast_6 : decode cX4_canBeLast 6 = .ok (.invokevirtual 53, 3) := by decide +kernel
theorem dX4_canBeLast_9 : decode cX4_canBeLast 9 = .ok (.if_icmp .ge 39, 3) := by decide +kernel
theorem dX4_canBeLast_12 : decode cX4_canBeLast 12 = .ok (.iload_n 1, 1) := by decide +kernel
theorem dX4_canBeLast_13 : decode cX4_canBeLast 13 = .ok (.iload_n 3, 1) := by decide +kernel
theorem dX4_canBeLast_14 : decode cX4_canBeLast 14 = .ok (.invokestatic 25, 3) := by decide +kernel
theorem dX4_canBeLast_17 : decode cX4_canBeLast 17 = .ok (.ifCond .eq 25, 3) := by decide +kernel
theorem dX4_canBeLast_20 : decode cX4_canBeLast 20 = .ok (.aload_n 0, 1) := by decide +kernel
theorem dX4_canBeLast_21 : decode cX4_canBeLast 21 = .ok (.iload_n 3, 1) := by decide +kernel
theorem dX4_canBeLast_22 : decode cX4_canBeLast 22 = .ok (.aload_n 0, 1) := by decide +kernel
theorem dX4_canBeLast_23 : decode cX4_canBeLast 23 = .ok (.iload_n 3, 1) := by decide +kernel
theorem dX4_canBeLast_24 : decode cX4_canBeLast 24 = .ok (.invokevirtual 56, 3) := by decide +kernel
theorem dX4_canBeLast_27 : decode cX4_canBeLast 27 = .ok (.iload_n 1, 1) := by decide +kernel
theorem dX4_canBeLast_28 : decode cX4_canBeLast 28 = .ok (.iand, 1) := by decide +kernel
theorem dX4_canBeLast_29 : decode cX4_canBeLast 29 = .ok (.invokevirtual 59, 3) := by decide +kernel
theorem dX4_canBeLast_32 : decode cX4_canBeLast 32 = .ok (.ifCond .eq 10, 3) := by decide +kernel
theorem dX4_canBeLast_35 : decode cX4_canBeLast 35 = .ok (.iload_n 2, 1) := by decide +kernel
theorem dX4_canBeLast_36 : decode cX4_canBeLast 36 = .ok (.iload_n 3, 1) := by decide +kernel
theorem dX4_canBeLast_37 : decode cX4_canBeLast 37 = .ok (.invokestatic 29, 3) := by decide +kernel
theorem dX4_canBeLast_40 : decode cX4_canBeLast 40 = .ok (.ior, 1) := by decide +kernel
theorem dX4_canBeLast_41 : decode cX4_canBeLast 41 = .ok (.istore_n 2, 1) := by decide +kernel
theorem dX4_canBeLast_42 : decode cX4_canBeLast 42 = .ok (.iinc 3 1, 3) := by decide +kernel
theorem dX4_canBeLast_45 : decode cX4_canBeLast 45 = .ok (.goto (-41), 3) := by decide +kernel
theorem dX4_canBeLast_48 : decode cX4_canBeLast 48 = .ok (.iload_n 2, 1) := by decide +kernel
theorem dX4_canBeLast_49 : decode cX4_canBeLast 49 = .ok (.ireturn, 1) := by decide +kernel
theorem mz_i_wsX6_weigh_7 : (.code yX2_everything cX2_everything 1 (some .int) : Cond) ∈ wsX6_weigh := mz_mt (mz_ml (mz_ml (mz_ml (mz_ml (mz_mt (mz_mt (mz_mt (mz_mt (mz_mt (mz_mt mz_mh))))))))))
theorem mz_i_wsX6_weigh_8 : (.fieldLink RX2 18 "MadeItSo$Drawing" "things" "I" : Cond) ∈ wsX6_weigh := mz_mt (mz_ml (mz_ml (mz_ml (mz_ml (mz_mt (mz_mt (mz_mt (mz_mt (mz_mt (mz_mt (mz_mt mz_mh)))))))))))
theorem mz_f_wsX6_weigh_wsX20 : ∀ w ∈ wsX20, w ∈ wsX6_weigh := fun _ h => mz_mt (mz_ml (mz_mr h))
set_option maxRecDepth 20000 in
theorem ggX6_weigh_X2_everything : GoodIn wsX6_weigh wsX2_everything := goodIn_sub (mz_fc mz_i_wsX6_weigh_7 (mz_fa (mz_fc mz_i_wsX6_weigh_8 mz_fn) (mz_f_wsX6_weigh_wsX20))) (by decide +kernel)
theorem mz_i_wsX6_weigh_6 : (.initialized RX2 : Cond) ∈ wsX6_weigh := mz_mt (mz_ml (mz_ml (mz_ml (mz_ml (mz_mt (mz_mt (mz_mt (mz_mt (mz_mt mz_mh)))))))))
theorem mz_i_wsX6_weigh_5 : (.selects RX2 yX2_everything yX2_everything : Cond) ∈ wsX6_weigh := mz_mt (mz_ml (mz_ml (mz_ml (mz_ml (mz_mt (mz_mt (mz_mt (mz_mt mz_mh))))))))
theorem mz_i_wsX6_weigh_4 : (.instanceMethod yX2_everything : Cond) ∈ wsX6_weigh := mz_mt (mz_ml (mz_ml (mz_ml (mz_ml (mz_mt (mz_mt (mz_mt mz_mh)))))))
theorem mz_i_wsX6_weigh_3 : (.methodLink RX6 19 yX2_everything : Cond) ∈ wsX6_weigh := mz_mt (mz_ml (mz_ml (mz_ml (mz_ml (mz_mt (mz_mt mz_mh))))))
set_option maxRecDepth 20000 in
theorem gX6_weigh_X2_everything : GoodIn wsX6_weigh (wsV RX6 19 RX2 yX2_everything wsX2_everything) := goodIn_app (goodIn_sub (mz_fc mz_i_wsX6_weigh_3 (mz_fc mz_i_wsX6_weigh_4 (mz_fc mz_i_wsX6_weigh_5 (mz_fc mz_i_wsX6_weigh_6 mz_fn)))) (by decide +kernel)) ggX6_weigh_X2_everything
theorem mz_i_wsX6_weigh_12 : (.code yX2_size cX2_size 1 (some .int) : Cond) ∈ wsX6_weigh := mz_mt (mz_ml (mz_ml (mz_ml (mz_ml (mz_mt (mz_mt (mz_mt (mz_mt (mz_mt (mz_mt (mz_mt (mz_mt (mz_mt (mz_mt (mz_mt mz_mh)))))))))))))))
set_option maxRecDepth 20000 in
theorem ggX6_weigh_X2_size : GoodIn wsX6_weigh wsX2_size := goodIn_sub (mz_fc mz_i_wsX6_weigh_12 (mz_fa (mz_fc mz_i_wsX6_weigh_8 mz_fn) (mz_f_wsX6_weigh_wsX20))) (by decide +kernel)
theorem mz_i_wsX6_weigh_11 : (.selects RX2 yX2_size yX2_size : Cond) ∈ wsX6_weigh := mz_mt (mz_ml (mz_ml (mz_ml (mz_ml (mz_mt (mz_mt (mz_mt (mz_mt (mz_mt (mz_mt (mz_mt (mz_mt (mz_mt (mz_mt mz_mh))))))))))))))
theorem mz_i_wsX6_weigh_10 : (.instanceMethod yX2_size : Cond) ∈ wsX6_weigh := mz_mt (mz_ml (mz_ml (mz_ml (mz_ml (mz_mt (mz_mt (mz_mt (mz_mt (mz_mt (mz_mt (mz_mt (mz_mt (mz_mt mz_mh)))))))))))))
theorem mz_i_wsX6_weigh_9 : (.methodLink RX6 24 yX2_size : Cond) ∈ wsX6_weigh := mz_mt (mz_ml (mz_ml (mz_ml (mz_ml (mz_mt (mz_mt (mz_mt (mz_mt (mz_mt (mz_mt (mz_mt (mz_mt mz_mh))))))))))))
set_option maxRecDepth 20000 in
theorem gX6_weigh_X2_size : GoodIn wsX6_weigh (wsV RX6 24 RX2 yX2_size wsX2_size) := goodIn_app (goodIn_sub (mz_fc mz_i_wsX6_weigh_9 (mz_fc mz_i_wsX6_weigh_10 (mz_fc mz_i_wsX6_weigh_11 (mz_fc mz_i_wsX6_weigh_6 mz_fn)))) (by decide +kernel)) ggX6_weigh_X2_size
theorem mz_i_wsX6_weigh_16 : (.code yX2_nextAfter cX2_nextAfter 3 (some .int) : Cond) ∈ wsX6_weigh := mz_mt (mz_ml (mz_ml (mz_ml (mz_ml (mz_mt (mz_mt (mz_mt (mz_mt (mz_mt (mz_mt (mz_mt (mz_mt (mz_mt (mz_mt (mz_mt (mz_mt (mz_mt (mz_mt (mz_mt mz_mh)))))))))))))))))))
theorem mz_i_wsX6_weigh_20 : (.code yX7_inHeap cX7_inHeap 2 (some .boolean) : Cond) ∈ wsX6_weigh := mz_mt (mz_ml (mz_ml (mz_ml (mz_ml (mz_mt (mz_mt (mz_mt (mz_mt (mz_mt (mz_mt (mz_mt (mz_mt (mz_mt (mz_mt (mz_mt (mz_mt (mz_mt (mz_mt (mz_mt (mz_mt (mz_mt (mz_mt (mz_mt mz_mh)))))))))))))))))))))))
theorem mz_i_wsX6_weigh_19 : (.initialized RX7 : Cond) ∈ wsX6_weigh := mz_mt (mz_ml (mz_ml (mz_ml (mz_ml (mz_mt (mz_mt (mz_mt (mz_mt (mz_mt (mz_mt (mz_mt (mz_mt (mz_mt (mz_mt (mz_mt (mz_mt (mz_mt (mz_mt (mz_mt (mz_mt (mz_mt (mz_mt mz_mh))))))))))))))))))))))
theorem mz_i_wsX6_weigh_18 : (.static yX7_inHeap : Cond) ∈ wsX6_weigh := mz_mt (mz_ml (mz_ml (mz_ml (mz_ml (mz_mt (mz_mt (mz_mt (mz_mt (mz_mt (mz_mt (mz_mt (mz_mt (mz_mt (mz_mt (mz_mt (mz_mt (mz_mt (mz_mt (mz_mt (mz_mt (mz_mt mz_mh)))))))))))))))))))))
theorem mz_i_wsX6_weigh_17 : (.fieldLink RX2 9 "MadeItSo$Drawing" "parents" "[I" : Cond) ∈ wsX6_weigh := mz_mt (mz_ml (mz_ml (mz_ml (mz_ml (mz_mt (mz_mt (mz_mt (mz_mt (mz_mt (mz_mt (mz_mt (mz_mt (mz_mt (mz_mt (mz_mt (mz_mt (mz_mt (mz_mt (mz_mt (mz_mt mz_mh))))))))))))))))))))
set_option maxRecDepth 20000 in
theorem ggX6_weigh_X2_nextAfter : GoodIn wsX6_weigh wsX2_nextAfter := goodIn_sub (mz_fc mz_i_wsX6_weigh_16 (mz_fa (mz_fc mz_i_wsX6_weigh_8 (mz_fc mz_i_wsX6_weigh_17 (mz_fc mz_i_wsX6_weigh_18 (mz_fc mz_i_wsX6_weigh_19 (mz_fc mz_i_wsX6_weigh_20 mz_fn))))) (mz_f_wsX6_weigh_wsX20))) (by decide +kernel)
theorem mz_i_wsX6_weigh_15 : (.selects RX2 yX2_nextAfter yX2_nextAfter : Cond) ∈ wsX6_weigh := mz_mt (mz_ml (mz_ml (mz_ml (mz_ml (mz_mt (mz_mt (mz_mt (mz_mt (mz_mt (mz_mt (mz_mt (mz_mt (mz_mt (mz_mt (mz_mt (mz_mt (mz_mt (mz_mt mz_mh))))))))))))))))))
theorem mz_i_wsX6_weigh_14 : (.instanceMethod yX2_nextAfter : Cond) ∈ wsX6_weigh := mz_mt (mz_ml (mz_ml (mz_ml (mz_ml (mz_mt (mz_mt (mz_mt (mz_mt (mz_mt (mz_mt (mz_mt (mz_mt (mz_mt (mz_mt (mz_mt (mz_mt (mz_mt mz_mh)))))))))))))))))
theorem mz_i_wsX6_weigh_13 : (.methodLink RX6 27 yX2_nextAfter : Cond) ∈ wsX6_weigh := mz_mt (mz_ml (mz_ml (mz_ml (mz_ml (mz_mt (mz_mt (mz_mt (mz_mt (mz_mt (mz_mt (mz_mt (mz_mt (mz_mt (mz_mt (mz_mt (mz_mt mz_mh))))))))))))))))
set_option maxRecDepth 20000 in
theorem gX6_weigh_X2_nextAfter : GoodIn wsX6_weigh (wsV RX6 27 RX2 yX2_nextAfter wsX2_nextAfter) := goodIn_app (goodIn_sub (mz_fc mz_i_wsX6_weigh_13 (mz_fc mz_i_wsX6_weigh_14 (mz_fc mz_i_wsX6_weigh_15 (mz_fc mz_i_wsX6_weigh_6 mz_fn)))) (by decide +kernel)) ggX6_weigh_X2_nextAfter
theorem mz_i_wsX6_weigh_22 : (.code yX7_partsOf cX7_partsOf 1 (some .int) : Cond) ∈ wsX6_weigh := mz_mt (mz_ml (mz_ml (mz_ml (mz_ml (mz_mt (mz_mt (mz_mt (mz_mt (mz_mt (mz_mt (mz_mt (mz_mt (mz_mt (mz_mt (mz_mt (mz_mt (mz_mt (mz_mt (mz_mt (mz_mt (mz_mt (mz_mt (mz_mt (mz_mt (mz_mt mz_mh)))))))))))))))))))))))))
theorem mz_i_wsX6_weigh_29 : (.constant RJ6 267 (252645135) : Cond) ∈ wsX6_weigh := mz_mt (mz_ml (mz_ml (mz_ml (mz_mr (mz_ml (mz_mt (mz_mt (mz_mt (mz_mt mz_mh)))))))))
theorem mz_i_wsX6_weigh_28 : (.constant RJ6 266 (858993459) : Cond) ∈ wsX6_weigh := mz_mt (mz_ml (mz_ml (mz_ml (mz_mr (mz_ml (mz_mt (mz_mt (mz_mt mz_mh))))))))
theorem mz_i_wsX6_weigh_27 : (.constant RJ6 265 (1431655765) : Cond) ∈ wsX6_weigh := mz_mt (mz_ml (mz_ml (mz_ml (mz_mr (mz_ml (mz_mt (mz_mt mz_mh)))))))
theorem mz_i_wsX6_weigh_26 : (.code yJ6_bitCount_0f7a4 cJ6_bitCount_0f7a4 1 (some .int) : Cond) ∈ wsX6_weigh := mz_mt (mz_ml (mz_ml (mz_ml (mz_mr (mz_ml (mz_mt mz_mh))))))
theorem mz_i_wsX6_weigh_25 : (.initialized RJ6 : Cond) ∈ wsX6_weigh := mz_mt (mz_ml (mz_ml (mz_ml (mz_mr (mz_ml mz_mh)))))
theorem mz_i_wsX6_weigh_24 : (.static yJ6_bitCount_0f7a4 : Cond) ∈ wsX6_weigh := mz_mt (mz_ml (mz_ml (mz_ml (mz_ml (mz_mt (mz_mt (mz_mt (mz_mt (mz_mt (mz_mt (mz_mt (mz_mt (mz_mt (mz_mt (mz_mt (mz_mt (mz_mt (mz_mt (mz_mt (mz_mt (mz_mt (mz_mt (mz_mt (mz_mt (mz_mt (mz_mt (mz_mt mz_mh)))))))))))))))))))))))))))
theorem mz_i_wsX6_weigh_23 : (.methodLink RX7 239 yJ6_bitCount_0f7a4 : Cond) ∈ wsX6_weigh := mz_mt (mz_ml (mz_ml (mz_ml (mz_ml (mz_mt (mz_mt (mz_mt (mz_mt (mz_mt (mz_mt (mz_mt (mz_mt (mz_mt (mz_mt (mz_mt (mz_mt (mz_mt (mz_mt (mz_mt (mz_mt (mz_mt (mz_mt (mz_mt (mz_mt (mz_mt (mz_mt mz_mh))))))))))))))))))))))))))
set_option maxRecDepth 20000 in
theorem ggX6_weigh_X7_partsOf : GoodIn wsX6_weigh wsX7_partsOf := goodIn_sub (mz_fc mz_i_wsX6_weigh_22 (mz_fc mz_i_wsX6_weigh_23 (mz_fc mz_i_wsX6_weigh_24 (mz_fc mz_i_wsX6_weigh_25 (mz_fc mz_i_wsX6_weigh_26 (mz_fc mz_i_wsX6_weigh_27 (mz_fc mz_i_wsX6_weigh_28 (mz_fc mz_i_wsX6_weigh_29 mz_fn)))))))) (by decide +kernel)
set_option maxRecDepth 20000 in
theorem gX6_weigh_X7_partsOf_n31 : GoodIn wsX6_weigh (wsX7_partsOf) := ggX6_weigh_X7_partsOf
theorem mz_i_wsX6_weigh_31 : (.code yX7_bit cX7_bit 1 (some .int) : Cond) ∈ wsX6_weigh := mz_mt (mz_ml (mz_ml (mz_ml (mz_mr (mz_ml (mz_mt (mz_mt (mz_mt (mz_mt (mz_mt (mz_mt mz_mh)))))))))))
set_option maxRecDepth 20000 in
theorem ggX6_weigh_X7_bit : GoodIn wsX6_weigh wsX7_bit := goodIn_sub (mz_fc mz_i_wsX6_weigh_31 (mz_fn)) (by decide +kernel)
set_option maxRecDepth 20000 in
theorem gX6_weigh_X7_bit_n34 : GoodIn wsX6_weigh (wsX7_bit) := ggX6_weigh_X7_bit
theorem mz_i_wsX6_weigh_36 : (.code yX1_partsUnder cX1_partsUnder 5 (some .int) : Cond) ∈ wsX6_weigh := mz_mt (mz_ml (mz_ml (mz_ml (mz_mr (mz_ml (mz_mt (mz_mt (mz_mt (mz_mt (mz_mt (mz_mt (mz_mt (mz_mt (mz_mt (mz_mt (mz_mt mz_mh))))))))))))))))
theorem mz_i_wsX6_weigh_53 : (.instanceMethod yX1_read : Cond) ∈ wsX6_weigh := mz_mt (mz_ml (mz_ml (mz_ml (mz_mr (mz_mr (mz_mt (mz_mt (mz_mt (mz_mt mz_mh)))))))))
theorem mz_i_wsX6_weigh_52 : (.methodLink RX1 38 yX1_read : Cond) ∈ wsX6_weigh := mz_mt (mz_ml (mz_ml (mz_ml (mz_mr (mz_mr (mz_mt (mz_mt (mz_mt mz_mh))))))))
theorem mz_i_wsX6_weigh_51 : (.code yX1_rowOf cX1_rowOf 5 (some .int) : Cond) ∈ wsX6_weigh := mz_mt (mz_ml (mz_ml (mz_ml (mz_mr (mz_mr (mz_mt (mz_mt mz_mh)))))))
theorem mz_i_wsX6_weigh_35 : (.initialized RX1 : Cond) ∈ wsX6_weigh := mz_mt (mz_ml (mz_ml (mz_ml (mz_mr (mz_ml (mz_mt (mz_mt (mz_mt (mz_mt (mz_mt (mz_mt (mz_mt (mz_mt (mz_mt (mz_mt mz_mh)))))))))))))))
theorem mz_i_wsX6_weigh_50 : (.static yX1_rowOf : Cond) ∈ wsX6_weigh := mz_mt (mz_ml (mz_ml (mz_ml (mz_mr (mz_mr (mz_mt mz_mh))))))
theorem mz_i_wsX6_weigh_49 : (.methodLink RX1 34 yX1_rowOf : Cond) ∈ wsX6_weigh := mz_mt (mz_ml (mz_ml (mz_ml (mz_mr (mz_mr mz_mh)))))
theorem mz_i_wsX6_weigh_48 : (.code yX2_has cX2_has 2 (some .boolean) : Cond) ∈ wsX6_weigh := mz_mt (mz_ml (mz_ml (mz_ml (mz_mr (mz_ml (mz_mt (mz_mt (mz_mt (mz_mt (mz_mt (mz_mt (mz_mt (mz_mt (mz_mt (mz_mt (mz_mt (mz_mt (mz_mt (mz_mt (mz_mt (mz_mt (mz_mt (mz_mt (mz_mt (mz_mt (mz_mt (mz_mt (mz_mt mz_mh))))))))))))))))))))))))))))
theorem mz_i_wsX6_weigh_47 : (.selects RX2 yX2_has yX2_has : Cond) ∈ wsX6_weigh := mz_mt (mz_ml (mz_ml (mz_ml (mz_mr (mz_ml (mz_mt (mz_mt (mz_mt (mz_mt (mz_mt (mz_mt (mz_mt (mz_mt (mz_mt (mz_mt (mz_mt (mz_mt (mz_mt (mz_mt (mz_mt (mz_mt (mz_mt (mz_mt (mz_mt (mz_mt (mz_mt (mz_mt mz_mh)))))))))))))))))))))))))))
theorem mz_i_wsX6_weigh_46 : (.instanceMethod yX2_has : Cond) ∈ wsX6_weigh := mz_mt (mz_ml (mz_ml (mz_ml (mz_mr (mz_ml (mz_mt (mz_mt (mz_mt (mz_mt (mz_mt (mz_mt (mz_mt (mz_mt (mz_mt (mz_mt (mz_mt (mz_mt (mz_mt (mz_mt (mz_mt (mz_mt (mz_mt (mz_mt (mz_mt (mz_mt (mz_mt mz_mh))))))))))))))))))))))))))
theorem mz_i_wsX6_weigh_45 : (.methodLink RX2 22 yX2_has : Cond) ∈ wsX6_weigh := mz_mt (mz_ml (mz_ml (mz_ml (mz_mr (mz_ml (mz_mt (mz_mt (mz_mt (mz_mt (mz_mt (mz_mt (mz_mt (mz_mt (mz_mt (mz_mt (mz_mt (mz_mt (mz_mt (mz_mt (mz_mt (mz_mt (mz_mt (mz_mt (mz_mt (mz_mt mz_mh)))))))))))))))))))))))))
theorem mz_i_wsX6_weigh_44 : (.code yX2_parentsOf cX2_parentsOf 2 (some .int) : Cond) ∈ wsX6_weigh := mz_mt (mz_ml (mz_ml (mz_ml (mz_mr (mz_ml (mz_mt (mz_mt (mz_mt (mz_mt (mz_mt (mz_mt (mz_mt (mz_mt (mz_mt (mz_mt (mz_mt (mz_mt (mz_mt (mz_mt (mz_mt (mz_mt (mz_mt (mz_mt (mz_mt mz_mh))))))))))))))))))))))))
theorem mz_i_wsX6_weigh_43 : (.selects RX2 yX2_parentsOf yX2_parentsOf : Cond) ∈ wsX6_weigh := mz_mt (mz_ml (mz_ml (mz_ml (mz_mr (mz_ml (mz_mt (mz_mt (mz_mt (mz_mt (mz_mt (mz_mt (mz_mt (mz_mt (mz_mt (mz_mt (mz_mt (mz_mt (mz_mt (mz_mt (mz_mt (mz_mt (mz_mt (mz_mt mz_mh)))))))))))))))))))))))
theorem mz_i_wsX6_weigh_42 : (.instanceMethod yX2_parentsOf : Cond) ∈ wsX6_weigh := mz_mt (mz_ml (mz_ml (mz_ml (mz_mr (mz_ml (mz_mt (mz_mt (mz_mt (mz_mt (mz_mt (mz_mt (mz_mt (mz_mt (mz_mt (mz_mt (mz_mt (mz_mt (mz_mt (mz_mt (mz_mt (mz_mt (mz_mt mz_mh))))))))))))))))))))))
theorem mz_i_wsX6_weigh_41 : (.methodLink RX1 29 yX2_parentsOf : Cond) ∈ wsX6_weigh := mz_mt (mz_ml (mz_ml (mz_ml (mz_mr (mz_ml (mz_mt (mz_mt (mz_mt (mz_mt (mz_mt (mz_mt (mz_mt (mz_mt (mz_mt (mz_mt (mz_mt (mz_mt (mz_mt (mz_mt (mz_mt (mz_mt mz_mh)))))))))))))))))))))
theorem mz_i_wsX6_weigh_40 : (.code yX7_onesOf cX7_onesOf 1 (some .int) : Cond) ∈ wsX6_weigh := mz_mt (mz_ml (mz_ml (mz_ml (mz_mr (mz_ml (mz_mt (mz_mt (mz_mt (mz_mt (mz_mt (mz_mt (mz_mt (mz_mt (mz_mt (mz_mt (mz_mt (mz_mt (mz_mt (mz_mt (mz_mt mz_mh))))))))))))))))))))
theorem mz_i_wsX6_weigh_39 : (.static yX7_onesOf : Cond) ∈ wsX6_weigh := mz_mt (mz_ml (mz_ml (mz_ml (mz_mr (mz_ml (mz_mt (mz_mt (mz_mt (mz_mt (mz_mt (mz_mt (mz_mt (mz_mt (mz_mt (mz_mt (mz_mt (mz_mt (mz_mt (mz_mt mz_mh)))))))))))))))))))
theorem mz_i_wsX6_weigh_38 : (.code yX7_heapOf cX7_heapOf 1 (some .int) : Cond) ∈ wsX6_weigh := mz_mt (mz_ml (mz_ml (mz_ml (mz_mr (mz_ml (mz_mt (mz_mt (mz_mt (mz_mt (mz_mt (mz_mt (mz_mt (mz_mt (mz_mt (mz_mt (mz_mt (mz_mt (mz_mt mz_mh))))))))))))))))))
theorem mz_i_wsX6_weigh_37 : (.static yX7_heapOf : Cond) ∈ wsX6_weigh := mz_mt (mz_ml (mz_ml (mz_ml (mz_mr (mz_ml (mz_mt (mz_mt (mz_mt (mz_mt (mz_mt (mz_mt (mz_mt (mz_mt (mz_mt (mz_mt (mz_mt (mz_mt mz_mh)))))))))))))))))
theorem mz_i_wsX6_weigh_59 : (.code yX1_isPlace cX1_isPlace 2 (some .boolean) : Cond) ∈ wsX6_weigh := mz_mt (mz_ml (mz_ml (mz_ml (mz_mr (mz_mr (mz_mt (mz_mt (mz_mt (mz_mt (mz_mt (mz_mt (mz_mt (mz_mt (mz_mt (mz_mt mz_mh)))))))))))))))
theorem mz_i_wsX6_weigh_58 : (.static yX1_isPlace : Cond) ∈ wsX6_weigh := mz_mt (mz_ml (mz_ml (mz_ml (mz_mr (mz_mr (mz_mt (mz_mt (mz_mt (mz_mt (mz_mt (mz_mt (mz_mt (mz_mt (mz_mt mz_mh))))))))))))))
theorem mz_i_wsX6_weigh_57 : (.methodLink RX1 15 yX1_isPlace : Cond) ∈ wsX6_weigh := mz_mt (mz_ml (mz_ml (mz_ml (mz_mr (mz_mr (mz_mt (mz_mt (mz_mt (mz_mt (mz_mt (mz_mt (mz_mt (mz_mt mz_mh)))))))))))))
theorem mz_i_wsX6_weigh_56 : (.fieldLink RX1 9 "MadeItSo$Books" "parts" "[I" : Cond) ∈ wsX6_weigh := mz_mt (mz_ml (mz_ml (mz_ml (mz_mr (mz_mr (mz_mt (mz_mt (mz_mt (mz_mt (mz_mt (mz_mt (mz_mt mz_mh))))))))))))
theorem mz_i_wsX6_weigh_55 : (.code yX1_read cX1_read 3 (some .int) : Cond) ∈ wsX6_weigh := mz_mt (mz_ml (mz_ml (mz_ml (mz_mr (mz_mr (mz_mt (mz_mt (mz_mt (mz_mt (mz_mt (mz_mt mz_mh)))))))))))
theorem mz_i_wsX6_weigh_54 : (.selects RX1 yX1_read yX1_read : Cond) ∈ wsX6_weigh := mz_mt (mz_ml (mz_ml (mz_ml (mz_mr (mz_mr (mz_mt (mz_mt (mz_mt (mz_mt (mz_mt mz_mh))))))))))
theorem mz_f_wsX6_weigh_wsX10 : ∀ w ∈ wsX10, w ∈ wsX6_weigh := fun _ h => mz_mt (mz_mr h)
set_option maxRecDepth 20000 in
theorem ggX6_weigh_X1_partsUnder : GoodIn wsX6_weigh wsX1_partsUnder := goodIn_sub (mz_fc mz_i_wsX6_weigh_36 (mz_fa (mz_fa (mz_fa (mz_fc mz_i_wsX6_weigh_37 (mz_fc mz_i_wsX6_weigh_19 (mz_fc mz_i_wsX6_weigh_38 (mz_fc mz_i_wsX6_weigh_18 (mz_fc mz_i_wsX6_weigh_20 (mz_fc mz_i_wsX6_weigh_39 (mz_fc mz_i_wsX6_weigh_40 (mz_fc mz_i_wsX6_weigh_41 (mz_fc mz_i_wsX6_weigh_42 (mz_fc mz_i_wsX6_weigh_43 (mz_fc mz_i_wsX6_weigh_6 (mz_fc mz_i_wsX6_weigh_44 (mz_fc mz_i_wsX6_weigh_17 (mz_fc mz_i_wsX6_weigh_45 (mz_fc mz_i_wsX6_weigh_46 (mz_fc mz_i_wsX6_weigh_47 (mz_fc mz_i_wsX6_weigh_48 (mz_fc mz_i_wsX6_weigh_8 (mz_fc mz_i_wsX6_weigh_49 (mz_fc mz_i_wsX6_weigh_50 (mz_fc mz_i_wsX6_weigh_35 (mz_fc mz_i_wsX6_weigh_51 (mz_fc mz_i_wsX6_weigh_52 (mz_fc mz_i_wsX6_weigh_53 mz_fn)))))))))))))))))))))))) (mz_fc mz_i_wsX6_weigh_54 (mz_fc mz_i_wsX6_weigh_55 (mz_fc mz_i_wsX6_weigh_56 (mz_fc mz_i_wsX6_weigh_57 (mz_fc mz_i_wsX6_weigh_58 (mz_fc mz_i_wsX6_weigh_59 mz_fn))))))) (mz_f_wsX6_weigh_wsX20)) (mz_f_wsX6_weigh_wsX10))) (by decide +kernel)
theorem mz_i_wsX6_weigh_34 : (.selects RX1 yX1_partsUnder yX1_partsUnder : Cond) ∈ wsX6_weigh := mz_mt (mz_ml (mz_ml (mz_ml (mz_mr (mz_ml (mz_mt (mz_mt (mz_mt (mz_mt (mz_mt (mz_mt (mz_mt (mz_mt (mz_mt mz_mh))))))))))))))
theorem mz_i_wsX6_weigh_33 : (.instanceMethod yX1_partsUnder : Cond) ∈ wsX6_weigh := mz_mt (mz_ml (mz_ml (mz_ml (mz_mr (mz_ml (mz_mt (mz_mt (mz_mt (mz_mt (mz_mt (mz_mt (mz_mt (mz_mt mz_mh)))))))))))))
theorem mz_i_wsX6_weigh_32 : (.methodLink RX6 37 yX1_partsUnder : Cond) ∈ wsX6_weigh := mz_mt (mz_ml (mz_ml (mz_ml (mz_mr (mz_ml (mz_mt (mz_mt (mz_mt (mz_mt (mz_mt (mz_mt (mz_mt mz_mh))))))))))))
set_option maxRecDepth 20000 in
theorem gX6_weigh_X1_partsUnder : GoodIn wsX6_weigh (wsV RX6 37 RX1 yX1_partsUnder wsX1_partsUnder) := goodIn_app (goodIn_sub (mz_fc mz_i_wsX6_weigh_32 (mz_fc mz_i_wsX6_weigh_33 (mz_fc mz_i_wsX6_weigh_34 (mz_fc mz_i_wsX6_weigh_35 mz_fn)))) (by decide +kernel)) ggX6_weigh_X1_partsUnder
theorem mz_i_wsX6_weigh_64 : (.code yX6_split cX6_split 6 none : Cond) ∈ wsX6_weigh := mz_mt (mz_ml (mz_ml (mz_ml (mz_mr (mz_mr (mz_mt (mz_mt (mz_mt (mz_mt (mz_mt (mz_mt (mz_mt (mz_mt (mz_mt (mz_mt (mz_mt (mz_mt (mz_mt (mz_mt (mz_mt mz_mh))))))))))))))))))))
theorem mz_i_wsX6_weigh_2 : (.fieldLink RX6 9 "MadeItSo$Weights" "ofCase" "[J" : Cond) ∈ wsX6_weigh := mz_mt (mz_ml (mz_ml (mz_ml (mz_ml (mz_mt mz_mh)))))
theorem mz_f_wsX6_weigh_wsX60 : ∀ w ∈ wsX60, w ∈ wsX6_weigh := fun _ h => mz_mt (mz_ml (mz_ml (mz_mr h)))
set_option maxRecDepth 20000 in
theorem ggX6_weigh_X6_split : GoodIn wsX6_weigh wsX6_split := goodIn_sub (mz_fc mz_i_wsX6_weigh_64 (mz_fa (mz_fc mz_i_wsX6_weigh_2 mz_fn) (mz_f_wsX6_weigh_wsX60))) (by decide +kernel)
theorem mz_i_wsX6_weigh_63 : (.initialized RX6 : Cond) ∈ wsX6_weigh := mz_mt (mz_ml (mz_ml (mz_ml (mz_mr (mz_mr (mz_mt (mz_mt (mz_mt (mz_mt (mz_mt (mz_mt (mz_mt (mz_mt (mz_mt (mz_mt (mz_mt (mz_mt (mz_mt (mz_mt mz_mh)))))))))))))))))))
theorem mz_i_wsX6_weigh_62 : (.selects RX6 yX6_split yX6_split : Cond) ∈ wsX6_weigh := mz_mt (mz_ml (mz_ml (mz_ml (mz_mr (mz_mr (mz_mt (mz_mt (mz_mt (mz_mt (mz_mt (mz_mt (mz_mt (mz_mt (mz_mt (mz_mt (mz_mt (mz_mt (mz_mt mz_mh))))))))))))))))))
theorem mz_i_wsX6_weigh_61 : (.instanceMethod yX6_split : Cond) ∈ wsX6_weigh := mz_mt (mz_ml (mz_ml (mz_ml (mz_mr (mz_mr (mz_mt (mz_mt (mz_mt (mz_mt (mz_mt (mz_mt (mz_mt (mz_mt (mz_mt (mz_mt (mz_mt (mz_mt mz_mh)))))))))))))))))
theorem mz_i_wsX6_weigh_60 : (.methodLink RX6 43 yX6_split : Cond) ∈ wsX6_weigh := mz_mt (mz_ml (mz_ml (mz_ml (mz_mr (mz_mr (mz_mt (mz_mt (mz_mt (mz_mt (mz_mt (mz_mt (mz_mt (mz_mt (mz_mt (mz_mt (mz_mt mz_mh))))))))))))))))
set_option maxRecDepth 20000 in
theorem gX6_weigh_X6_split : GoodIn wsX6_weigh (wsV RX6 43 RX6 yX6_split wsX6_split) := goodIn_app (goodIn_sub (mz_fc mz_i_wsX6_weigh_60 (mz_fc mz_i_wsX6_weigh_61 (mz_fc mz_i_wsX6_weigh_62 (mz_fc mz_i_wsX6_weigh_63 mz_fn)))) (by decide +kernel)) ggX6_weigh_X6_split
theorem mz_i_wsX6_weigh_66 : (.code yX7_nextPart cX7_nextPart 2 (some .int) : Cond) ∈ wsX6_weigh := mz_mt (mz_ml (mz_ml (mz_ml (mz_mr (mz_mr (mz_mt (mz_mt (mz_mt (mz_mt (mz_mt (mz_mt (mz_mt (mz_mt (mz_mt (mz_mt (mz_mt (mz_mt (mz_mt (mz_mt (mz_mt (mz_mt (mz_mt mz_mh))))))))))))))))))))))
set_option maxRecDepth 20000 in
theorem ggX6_weigh_X7_nextPart : GoodIn wsX6_weigh wsX7_nextPart := goodIn_sub (mz_fc mz_i_wsX6_weigh_66 (mz_fn)) (by decide +kernel)
set_option maxRecDepth 20000 in
theorem gX6_weigh_X7_nextPart_n47 : GoodIn wsX6_weigh (wsX7_nextPart) := ggX6_weigh_X7_nextPart
theorem dX6_weigh_0 : decode cX6_weigh 0 = .ok (.aload_n 0, 1) := by decide +kernel
theorem dX6_weigh_1 : decode cX6_weigh 1 = .ok (.aload_n 1, 1) := by decide +kernel
theorem dX6_weigh_2 : decode cX6_weigh 2 = .ok (.invokevirtual 19, 3) := by decide +kernel
theorem dX6_weigh_5 : decode cX6_weigh 5 = .ok (.putfield 15, 3) := by decide +kernel
theorem dX6_weigh_8 : decode cX6_weigh 8 = .ok (.aload_n 0, 1) := by decide +kernel
theorem dX6_weigh_9 : decode cX6_weigh 9 = .ok (.getfield 9, 3) := by decide +kernel
theorem dX6_weigh_12 : decode cX6_weigh 12 = .ok (.iconst 0, 1) := by decide +kernel
theorem dX6_weigh_13 : decode cX6_weigh 13 = .ok (.lconst 1, 1) := by decide +kernel
theorem dX6_weigh_14 : decode cX6_weigh 14 = .ok (.lastore, 1) := by decide +kernel
theorem dX6_weigh_15 : decode cX6_weigh 15 = .ok (.iconst 0, 1) := by decide +kernel
theorem dX6_weigh_16 : decode cX6_weigh 16 = .ok (.istore 4, 2) := by decide +kernel
theorem dX6_weigh_18 : decode cX6_weigh 18 = .ok (.iconst 0, 1) := by decide +kernel
theorem dX6_weigh_19 : decode cX6_weigh 19 = .ok (.istore 5, 2) := by decide +kernel
theorem dX6_weigh_21 : decode cX6_weigh 21 = .ok (.iload 5, 2) := by decide +kernel
theorem dX6_weigh_23 : decode cX6_weigh 23 = .ok (.aload_n 1, 1) := by decide +kernel
theorem dX6_weigh_24 : decode cX6_weigh 24 = .ok (.invokevirtual 24, 3) := by decide +kernel
theorem dX6_weigh_27 : decode cX6_weigh 27 = .ok (.if_icmp .ge 92, 3) := by decide +kernel
theorem dX6_weigh_30 : decode cX6_weigh 30 = .ok (.aload_n 1, 1) := by decide +kernel
theorem dX6_weigh_31 : decode cX6_weigh 31 = .ok (.iload 4, 2) := by decide +kernel
theorem dX6_weigh_33 : decode cX6_weigh 33 = .ok (.invokevirtual 27, 3) := by decide +kernel
theorem dX6_weigh_36 : decode cX6_weigh 36 = .ok (.istore 6, 2) := by decide +kernel
theorem dX6_weigh_38 : decode cX6_weigh 38 = .ok (.iload 6, 2) := by decide +kernel
theorem dX6_weigh_40 : decode cX6_weigh 40 = .ok (.iconst (-1), 1) := by decide +kernel
theorem dX6_weigh_41 : decode cX6_weigh 41 = .ok (.if_icmp .ne 6, 3) := by decide +kernel
theorem dX6_weigh_44 : decode cX6_weigh 44 = .ok (.goto 75, 3) := by decide +kernel
theorem dX6_weigh_47 : decode cX6_weigh 47 = .ok (.iload 4, 2) := by decide +kernel
theorem dX6_weigh_49 : decode cX6_weigh 49 = .ok (.invokestatic 31, 3) := by decide +kernel
theorem dX6_weigh_52 : decode cX6_weigh 52 = .ok (.istore 7, 2) := by decide +kernel
theorem dX6_weigh_54 : decode cX6_weigh 54 = .ok (.iconst 0, 1) := by decide +kernel
theorem dX6_weigh_55 : decode cX6_weigh 55 = .ok (.istore 8, 2) := by decide +kernel
theorem dX6_weigh_57 : decode cX6_weigh 57 = .ok (.iconst 0, 1) := by decide +kernel
theorem dX6_weigh_58 : decode cX6_weigh 58 = .ok (.istore 9, 2) := by decide +kernel
theorem dX6_weigh_60 : decode cX6_weigh 60 = .ok (.iload 8, 2) := by decide +kernel
theorem dX6_weigh_62 : decode cX6_weigh 62 = .ok (.iload 7, 2) := by decide +kernel
theorem dX6_weigh_64 : decode cX6_weigh 64 = .ok (.if_icmp .ge 39, 3) := by decide +kernel
theorem dX6_weigh_67 : decode cX6_weigh 67 = .ok (.aload_n 0, 1) := by decide +kernel
theorem dX6_weigh_68 : decode cX6_weigh 68 = .ok (.iload 9, 2) := by decide +kernel
theorem dX6_weigh_70 : decode cX6_weigh 70 = .ok (.iload 6, 2) := by decide +kernel
theorem dX6_weigh_72 : decode cX6_weigh 72 = .ok (.invokestatic 34, 3) := by decide +kernel
theorem dX6_weigh_75 : decode cX6_weigh 75 = .ok (.aload_n 2, 1) := by decide +kernel
theorem dX6_weigh_76 : decode cX6_weigh 76 = .ok (.aload_n 1, 1) := by decide +kernel
theorem dX6_weigh_77 : decode cX6_weigh 77 = .ok (.iload 6, 2) := by decide +kernel
theorem dX6_weigh_79 : decode cX6_weigh 79 = .ok (.iload 9, 2) := by decide +kernel
theorem dX6_weigh_81 : decode cX6_weigh 81 = .ok (.iload_n 3, 1) := by decide +kernel
theorem dX6_weigh_82 : decode cX6_weigh 82 = .ok (.invokevirtual 37, 3) := by decide +kernel
theorem dX6_weigh_85 : decode cX6_weigh 85 = .ok (.invokevirtual 43, 3) := by decide +kernel
theorem dX6_weigh_88 : decode cX6_weigh 88 = .ok (.iinc 8 1, 3) := by decide +kernel
theorem dX6_weigh_91 : decode cX6_weigh 91 = .ok (.iload 9, 2) := by decide +kernel
theorem dX6_weigh_93 : decode cX6_weigh 93 = .ok (.iload 4, 2) := by decide +kernel
theorem dX6_weigh_95 : decode cX6_weigh 95 = .ok (.invokestatic 47, 3) := by decide +kernel
theorem dX6_weigh_98 : decode cX6_weigh 98 = .ok (.istore 9, 2) := by decide +kernel
theorem dX6_weigh_100 : decode cX6_weigh 100 = .ok (.goto (-40), 3) := by decide +kernel
theorem dX6_weigh_103 : decode cX6_weigh 103 = .ok (.iload 4, 2) := by decide +kernel
theorem dX6_weigh_105 : decode cX6_weigh 105 = .ok (.iload 6, 2) := by decide +kernel
theorem dX6_weigh_107 : decode cX6_weigh 107 = .ok (.invokestatic 34, 3) := by decide +kernel
theorem dX6_weigh_110 : decode cX6_weigh 110 = .ok (.ior, 1) := by decide +kernel
theorem dX6_weigh_111 : decode cX6_weigh 111 = .ok (.istore 4, 2) := by decide +kernel
theorem dX6_weigh_113 : decode cX6_weigh 113 = .ok (.iinc 5 1, 3) := by decide +kernel
theorem dX6_weigh_116 : decode cX6_weigh 116 = .ok (.goto (-95), 3) := by decide +kernel
theorem dX6_weigh_119 : decode cX6_weigh 119 = .ok (.return_, 1) := by decide +kernel
theorem mz_i_wsX6_having_5 : (.code yX7_partsOf cX7_partsOf 1 (some .int) : Cond) ∈ wsX6_having := mz_mt (mz_ml (mz_mt (mz_mt (mz_mt (mz_mt mz_mh)))))
theorem mz_i_wsX6_having_12 : (.constant RJ6 267 (252645135) : Cond) ∈ wsX6_having := mz_mt (mz_ml (mz_mt (mz_mt (mz_mt (mz_mt (mz_mt (mz_mt (mz_mt (mz_mt (mz_mt (mz_mt (mz_mt mz_mh))))))))))))
theorem mz_i_wsX6_having_11 : (.constant RJ6 266 (858993459) : Cond) ∈ wsX6_having := mz_mt (mz_ml (mz_mt (mz_mt (mz_mt (mz_mt (mz_mt (mz_mt (mz_mt (mz_mt (mz_mt (mz_mt mz_mh)))))))))))
theorem mz_i_wsX6_having_10 : (.constant RJ6 265 (1431655765) : Cond) ∈ wsX6_having := mz_mt (mz_ml (mz_mt (mz_mt (mz_mt (mz_mt (mz_mt (mz_mt (mz_mt (mz_mt (mz_mt mz_mh))))))))))
theorem mz_i_wsX6_having_9 : (.code yJ6_bitCount_0f7a4 cJ6_bitCount_0f7a4 1 (some .int) : Cond) ∈ wsX6_having := mz_mt (mz_ml (mz_mt (mz_mt (mz_mt (mz_mt (mz_mt (mz_mt (mz_mt (mz_mt mz_mh)))))))))
theorem mz_i_wsX6_having_8 : (.initialized RJ6 : Cond) ∈ wsX6_having := mz_mt (mz_ml (mz_mt (mz_mt (mz_mt (mz_mt (mz_mt (mz_mt (mz_mt mz_mh))))))))
theorem mz_i_wsX6_having_7 : (.static yJ6_bitCount_0f7a4 : Cond) ∈ wsX6_having := mz_mt (mz_ml (mz_mt (mz_mt (mz_mt (mz_mt (mz_mt (mz_mt mz_mh)))))))
theorem mz_i_wsX6_having_6 : (.methodLink RX7 239 yJ6_bitCount_0f7a4 : Cond) ∈ wsX6_having := mz_mt (mz_ml (mz_mt (mz_mt (mz_mt (mz_mt (mz_mt mz_mh))))))
set_option maxRecDepth 20000 in
theorem ggX6_having_X7_partsOf : GoodIn wsX6_having wsX7_partsOf := goodIn_sub (mz_fc mz_i_wsX6_having_5 (mz_fc mz_i_wsX6_having_6 (mz_fc mz_i_wsX6_having_7 (mz_fc mz_i_wsX6_having_8 (mz_fc mz_i_wsX6_having_9 (mz_fc mz_i_wsX6_having_10 (mz_fc mz_i_wsX6_having_11 (mz_fc mz_i_wsX6_having_12 mz_fn)))))))) (by decide +kernel)
set_option maxRecDepth 20000 in
theorem gX6_having_X7_partsOf_n31 : GoodIn wsX6_having (wsX7_partsOf) := ggX6_having_X7_partsOf
theorem mz_i_wsX6_having_14 : (.code yX7_nextPart cX7_nextPart 2 (some .int) : Cond) ∈ wsX6_having := mz_mt (mz_ml (mz_mt (mz_mt (mz_mt (mz_mt (mz_mt (mz_mt (mz_mt (mz_mt (mz_mt (mz_mt (mz_mt (mz_mt (mz_mt mz_mh))))))))))))))
set_option maxRecDepth 20000 in
theorem ggX6_having_X7_nextPart : GoodIn wsX6_having wsX7_nextPart := goodIn_sub (mz_fc mz_i_wsX6_having_14 (mz_fn)) (by decide +kernel)
set_option maxRecDepth 20000 in
theorem gX6_having_X7_nextPart_n47 : GoodIn wsX6_having (wsX7_nextPart) := ggX6_having_X7_nextPart
theorem dX6_having_0 : decode cX6_having 0 = .ok (.aload_n 0, 1) := by decide +kernel
theorem dX6_having_1 : decode cX6_having 1 = .ok (.getfield 15, 3) := by decide +kernel
theorem dX6_having_4 : decode cX6_having 4 = .ok (.iload_n 1, 1) := by decide +kernel
theorem dX6_having_5 : decode cX6_having 5 = .ok (.iconst (-1), 1) := by decide +kernel
theorem dX6_having_6 : decode cX6_having 6 = .ok (.ixor, 1) := by decide +kernel
theorem dX6_having_7 : decode cX6_having 7 = .ok (.iand, 1) := by decide +kernel
theorem dX6_having_8 : decode cX6_having 8 = .ok (.istore_n 3, 1) := by decide +kernel
theorem dX6_having_9 : decode cX6_having 9 = .ok (.iload_n 3, 1) := by decide +kernel
theorem dX6_having_10 : decode cX6_having 10 = .ok (.invokestatic 31, 3) := by decide +kernel
theorem dX6_having_13 : decode cX6_having 13 = .ok (.istore 4, 2) := by decide +kernel
theorem dX6_having_15 : decode cX6_having 15 = .ok (.lconst 0, 1) := by decide +kernel
theorem dX6_having_16 : decode cX6_having 16 = .ok (.lstore 5, 2) := by decide +kernel
theorem dX6_having_18 : decode cX6_having 18 = .ok (.iconst 0, 1) := by decide +kernel
theorem dX6_having_19 : decode cX6_having 19 = .ok (.istore 7, 2) := by decide +kernel
theorem dX6_having_21 : decode cX6_having 21 = .ok (.iconst 0, 1) := by decide +kernel
theorem dX6_having_22 : decode cX6_having 22 = .ok (.istore 8, 2) := by decide +kernel
theorem dX6_having_24 : decode cX6_having 24 = .ok (.iload 7, 2) := by decide +kernel
theorem dX6_having_26 : decode cX6_having 26 = .ok (.iload 4, 2) := by decide +kernel
theorem dX6_having_28 : decode cX6_having 28 = .ok (.if_icmp .ge 35, 3) := by decide +kernel
theorem dX6_having_31 : decode cX6_having 31 = .ok (.lload 5, 2) := by decide +kernel
theorem dX6_having_33 : decode cX6_having 33 = .ok (.aload_n 0, 1) := by decide +kernel
theorem dX6_having_34 : decode cX6_having 34 = .ok (.getfield 9, 3) := by decide +kernel
theorem dX6_having_37 : decode cX6_having 37 = .ok (.iload_n 2, 1) := by decide +kernel
theorem dX6_having_38 : decode cX6_having 38 = .ok (.iload 8, 2) := by decide +kernel
theorem dX6_having_40 : decode cX6_having 40 = .ok (.ior, 1) := by decide +kernel
theorem dX6_having_41 : decode cX6_having 41 = .ok (.sipush 255, 3) := by decide +kernel
theorem dX6_having_44 : decode cX6_having 44 = .ok (.iand, 1) := by decide +kernel
theorem dX6_having_45 : decode cX6_having 45 = .ok (.laload, 1) := by decide +kernel
theorem dX6_having_46 : decode cX6_having 46 = .ok (.ladd, 1) := by decide +kernel
theorem dX6_having_47 : decode cX6_having 47 = .ok (.lstore 5, 2) := by decide +kernel
theorem dX6_having_49 : decode cX6_having 49 = .ok (.iinc 7 1, 3) := by decide +kernel
theorem dX6_having_52 : decode cX6_having 52 = .ok (.iload 8, 2) := by decide +kernel
theorem dX6_having_54 : decode cX6_having 54 = .ok (.iload_n 3, 1) := by decide +kernel
theorem dX6_having_55 : decode cX6_having 55 = .ok (.invokestatic 47, 3) := by decide +kernel
theorem dX6_having_58 : decode cX6_having 58 = .ok (.istore 8, 2) := by decide +kernel
theorem dX6_having_60 : decode cX6_having 60 = .ok (.goto (-36), 3) := by decide +kernel
theorem dX6_having_63 : decode cX6_having 63 = .ok (.lload 5, 2) := by decide +kernel
theorem dX6_having_65 : decode cX6_having 65 = .ok (.lreturn, 1) := by decide +kernel
theorem dX6_split_0 : decode cX6_split 0 = .ok (.iload_n 1, 1) := by decide +kernel
theorem dX6_split_1 : decode cX6_split 1 = .ok (.sipush 255, 3) := by decide +kernel
theorem dX6_split_4 : decode cX6_split 4 = .ok (.iand, 1) := by decide +kernel
theorem dX6_split_5 : decode cX6_split 5 = .ok (.istore 4, 2) := by decide +kernel
theorem dX6_split_7 : decode cX6_split 7 = .ok (.iload_n 1, 1) := by decide +kernel
theorem dX6_split_8 : decode cX6_split 8 = .ok (.iload_n 2, 1) := by decide +kernel
theorem dX6_split_9 : decode cX6_split 9 = .ok (.ior, 1) := by decide +kernel
theorem dX6_split_10 : decode cX6_split 10 = .ok (.sipush 255, 3) := by decide +kernel
theorem dX6_split_13 : decode cX6_split 13 = .ok (.iand, 1) := by decide +kernel
theorem dX6_split_14 : decode cX6_split 14 = .ok (.istore 5, 2) := by decide +kernel
theorem dX6_split_16 : decode cX6_split 16 = .ok (.aload_n 0, 1) := by decide +kernel
theorem dX6_split_17 : decode cX6_split 17 = .ok (.getfield 9, 3) := by decide +kernel
theorem dX6_split_20 : decode cX6_split 20 = .ok (.iload 5, 2) := by decide +kernel
theorem dX6_split_22 : decode cX6_split 22 = .ok (.aload_n 0, 1) := by decide +kernel
theorem dX6_split_23 : decode cX6_split 23 = .ok (.getfield 9, 3) := by decide +kernel
theorem dX6_split_26 : decode cX6_split 26 = .ok (.iload 4, 2) := by decide +kernel
theorem dX6_split_28 : decode cX6_split 28 = .ok (.laload, 1) := by decide +kernel
theorem dX6_split_29 : decode cX6_split 29 = .ok (.iload_n 3, 1) := by decide +kernel
theorem dX6_split_30 : decode cX6_split 30 = .ok (.i2l, 1) := by decide +kernel
theorem dX6_split_31 : decode cX6_split 31 = .ok (.lmul, 1) := by decide +kernel
theorem dX6_split_32 : decode cX6_split 32 = .ok (.lastore, 1) := by decide +kernel
theorem dX6_split_33 : decode cX6_split 33 = .ok (.aload_n 0, 1) := by decide +kernel
theorem dX6_split_34 : decode cX6_split 34 = .ok (.getfield 9, 3) := by decide +kernel
theorem dX6_split_37 : decode cX6_split 37 = .ok (.iload 4, 2) := by decide +kernel
theorem dX6_split_39 : decode cX6_split 39 = .ok (.dup2, 1) := by decide +kernel
theorem dX6_split_40 : decode cX6_split 40 = .ok (.laload, 1) := by decide +kernel
theorem dX6_split_41 : decode cX6_split 41 = .ok (.bipush 100, 2) := by decide +kernel
theorem dX6_split_43 : decode cX6_split 43 = .ok (.iload_n 3, 1) := by decide +kernel
theorem dX6_split_44 : decode cX6_split 44 = .ok (.isub, 1) := by decide +kernel
theorem dX6_split_45 : decode cX6_split 45 = .ok (.i2l, 1) := by decide +kernel
theorem dX6_split_46 : decode cX6_split 46 = .ok (.lmul, 1) := by decide +kernel
theorem dX6_split_47 : decode cX6_split 47 = .ok (.lastore, 1) := by decide +kernel
theorem dX6_split_48 : decode cX6_split 48 = .ok (.return_, 1) := by decide +kernel
theorem dX7_bit_0 : decode cX7_bit 0 = .ok (.iconst 1, 1) := by decide +kernel
theorem dX7_bit_1 : decode cX7_bit 1 = .ok (.iload_n 0, 1) := by decide +kernel
theorem dX7_bit_2 : decode cX7_bit 2 = .ok (.ishl, 1) := by decide +kernel
theorem dX7_bit_3 : decode cX7_bit 3 = .ok (.ireturn, 1) := by decide +kernel
theorem dX7_inHeap_0 : decode cX7_inHeap 0 = .ok (.iload_n 0, 1) := by decide +kernel
theorem dX7_inHeap_1 : decode cX7_inHeap 1 = .ok (.iload_n 1, 1) := by decide +kernel
theorem dX7_inHeap_2 : decode cX7_inHeap 2 = .ok (.ishr, 1) := by decide +kernel
theorem dX7_inHeap_3 : decode cX7_inHeap 3 = .ok (.iconst 1, 1) := by decide +kernel
theorem dX7_inHeap_4 : decode cX7_inHeap 4 = .ok (.iand, 1) := by decide +kernel
theorem dX7_inHeap_5 : decode cX7_inHeap 5 = .ok (.iconst 1, 1) := by decide +kernel
theorem dX7_inHeap_6 : decode cX7_inHeap 6 = .ok (.if_icmp .ne 7, 3) := by decide +kernel
theorem dX7_inHeap_9 : decode cX7_inHeap 9 = .ok (.iconst 1, 1) := by decide +kernel
theorem dX7_inHeap_10 : decode cX7_inHeap 10 = .ok (.goto 4, 3) := by decide +kernel
theorem dX7_inHeap_13 : decode cX7_inHeap 13 = .ok (.iconst 0, 1) := by decide +kernel
theorem dX7_inHeap_14 : decode cX7_inHeap 14 = .ok (.ireturn, 1) := by decide +kernel
theorem dX7_isBit_0 : decode cX7_isBit 0 = .ok (.iload_n 0, 1) := by decide +kernel
theorem dX7_isBit_1 : decode cX7_isBit 1 = .ok (.ifCond .eq 8, 3) := by decide +kernel
theorem dX7_isBit_4 : decode cX7_isBit 4 = .ok (.iload_n 0, 1) := by decide +kernel
theorem dX7_isBit_5 : decode cX7_isBit 5 = .ok (.iconst 1, 1) := by decide +kernel
theorem dX7_isBit_6 : decode cX7_isBit 6 = .ok (.if_icmp .ne 7, 3) := by decide +kernel
theorem dX7_isBit_9 : decode cX7_isBit 9 = .ok (.iconst 1, 1) := by decide +kernel
theorem dX7_isBit_10 : decode cX7_isBit 10 = .ok (.goto 4, 3) := by decide +kernel
theorem dX7_isBit_13 : decode cX7_isBit 13 = .ok (.iconst 0, 1) := by decide +kernel
theorem dX7_isBit_14 : decode cX7_isBit 14 = .ok (.ireturn, 1) := by decide +kernel
theorem dX7_heapOf_0 : decode cX7_heapOf 0 = .ok (.iload_n 0, 1) := by decide +kernel
theorem dX7_heapOf_1 : decode cX7_heapOf 1 = .ok (.sipush 255, 3) := by decide +kernel
theorem dX7_heapOf_4 : decode cX7_heapOf 4 = .ok (.iand, 1) := by decide +kernel
theorem dX7_heapOf_5 : decode cX7_heapOf 5 = .ok (.ireturn, 1) := by decide +kernel
theorem dX7_onesOf_0 : decode cX7_onesOf 0 = .ok (.iload_n 0, 1) := by decide +kernel
theorem dX7_onesOf_1 : decode cX7_onesOf 1 = .ok (.bipush 8, 2) := by decide +kernel
theorem dX7_onesOf_3 : decode cX7_onesOf 3 = .ok (.ishr, 1) := by decide +kernel
theorem dX7_onesOf_4 : decode cX7_onesOf 4 = .ok (.sipush 255, 3) := by decide +kernel
theorem dX7_onesOf_7 : decode cX7_onesOf 7 = .ok (.iand, 1) := by decide +kernel
theorem dX7_onesOf_8 : decode cX7_onesOf 8 = .ok (.ireturn, 1) := by decide +kernel
theorem mz_i_wsX7_settingOf_4 : (.code yX7_bit cX7_bit 1 (some .int) : Cond) ∈ wsX7_settingOf := mz_mt (mz_mt (mz_mt (mz_mt mz_mh)))
set_option maxRecDepth 20000 in
theorem ggX7_settingOf_X7_bit : GoodIn wsX7_settingOf wsX7_bit := goodIn_sub (mz_fc mz_i_wsX7_settingOf_4 (mz_fn)) (by decide +kernel)
theorem mz_i_wsX7_settingOf_3 : (.initialized RX7 : Cond) ∈ wsX7_settingOf := mz_mt (mz_mt (mz_mt mz_mh))
theorem mz_i_wsX7_settingOf_2 : (.static yX7_bit : Cond) ∈ wsX7_settingOf := mz_mt (mz_mt mz_mh)
theorem mz_i_wsX7_settingOf_1 : (.methodLink RX7 73 yX7_bit : Cond) ∈ wsX7_settingOf := mz_mt mz_mh
set_option maxRecDepth 20000 in
theorem gX7_settingOf_X7_bit : GoodIn wsX7_settingOf (va_wsS RX7 73 yX7_bit wsX7_bit) := goodIn_app (goodIn_sub (mz_fc mz_i_wsX7_settingOf_1 (mz_fc mz_i_wsX7_settingOf_2 (mz_fc mz_i_wsX7_settingOf_3 mz_fn))) (by decide +kernel)) ggX7_settingOf_X7_bit
theorem dX7_settingOf_0 : decode cX7_settingOf 0 = .ok (.iload_n 0, 1) := by decide +kernel
theorem dX7_settingOf_1 : decode cX7_settingOf 1 = .ok (.invokestatic 73, 3) := by decide +kernel
theorem dX7_settingOf_4 : decode cX7_settingOf 4 = .ok (.iload_n 1, 1) := by decide +kernel
theorem dX7_settingOf_5 : decode cX7_settingOf 5 = .ok (.iload_n 0, 1) := by decide +kernel
theorem dX7_settingOf_6 : decode cX7_settingOf 6 = .ok (.bipush 8, 2) := by decide +kernel
theorem dX7_settingOf_8 : decode cX7_settingOf 8 = .ok (.iadd, 1) := by decide +kernel
theorem dX7_settingOf_9 : decode cX7_settingOf 9 = .ok (.ishl, 1) := by decide +kernel
theorem dX7_settingOf_10 : decode cX7_settingOf 10 = .ok (.ior, 1) := by decide +kernel
theorem dX7_settingOf_11 : decode cX7_settingOf 11 = .ok (.ireturn, 1) := by decide +kernel
theorem mz_i_wsX7_clash_4 : (.code yX7_heapOf cX7_heapOf 1 (some .int) : Cond) ∈ wsX7_clash := mz_mt (mz_mt (mz_mt (mz_mt mz_mh)))
set_option maxRecDepth 20000 in
theorem ggX7_clash_X7_heapOf : GoodIn wsX7_clash wsX7_heapOf := goodIn_sub (mz_fc mz_i_wsX7_clash_4 (mz_fn)) (by decide +kernel)
theorem mz_i_wsX7_clash_3 : (.initialized RX7 : Cond) ∈ wsX7_clash := mz_mt (mz_mt (mz_mt mz_mh))
theorem mz_i_wsX7_clash_2 : (.static yX7_heapOf : Cond) ∈ wsX7_clash := mz_mt (mz_mt mz_mh)
theorem mz_i_wsX7_clash_1 : (.methodLink RX7 127 yX7_heapOf : Cond) ∈ wsX7_clash := mz_mt mz_mh
set_option maxRecDepth 20000 in
theorem gX7_clash_X7_heapOf : GoodIn wsX7_clash (va_wsS RX7 127 yX7_heapOf wsX7_heapOf) := goodIn_app (goodIn_sub (mz_fc mz_i_wsX7_clash_1 (mz_fc mz_i_wsX7_clash_2 (mz_fc mz_i_wsX7_clash_3 mz_fn))) (by decide +kernel)) ggX7_clash_X7_heapOf
theorem mz_i_wsX7_clash_7 : (.code yX7_onesOf cX7_onesOf 1 (some .int) : Cond) ∈ wsX7_clash := mz_mt (mz_mt (mz_mt (mz_mt (mz_mt (mz_mt (mz_mt mz_mh))))))
set_option maxRecDepth 20000 in
theorem ggX7_clash_X7_onesOf : GoodIn wsX7_clash wsX7_onesOf := goodIn_sub (mz_fc mz_i_wsX7_clash_7 (mz_fn)) (by decide +kernel)
theorem mz_i_wsX7_clash_6 : (.static yX7_onesOf : Cond) ∈ wsX7_clash := mz_mt (mz_mt (mz_mt (mz_mt (mz_mt (mz_mt mz_mh)))))
theorem mz_i_wsX7_clash_5 : (.methodLink RX7 130 yX7_onesOf : Cond) ∈ wsX7_clash := mz_mt (mz_mt (mz_mt (mz_mt (mz_mt mz_mh))))
set_option maxRecDepth 20000 in
theorem gX7_clash_X7_onesOf : GoodIn wsX7_clash (va_wsS RX7 130 yX7_onesOf wsX7_onesOf) := goodIn_app (goodIn_sub (mz_fc mz_i_wsX7_clash_5 (mz_fc mz_i_wsX7_clash_6 (mz_fc mz_i_wsX7_clash_3 mz_fn))) (by decide +kernel)) ggX7_clash_X7_onesOf
theorem dX7_clash_0 : decode cX7_clash 0 = .ok (.iload_n 0, 1) := by decide +kernel
theorem dX7_clash_1 : decode cX7_clash 1 = .ok (.invokestatic 127, 3) := by decide +kernel
theorem dX7_clash_4 : decode cX7_clash 4 = .ok (.iload_n 1, 1) := by decide +kernel
theorem dX7_clash_5 : decode cX7_clash 5 = .ok (.invokestatic 127, 3) := by decide +kernel
theorem dX7_clash_8 : decode cX7_clash 8 = .ok (.iand, 1) := by decide +kernel
theorem dX7_clash_9 : decode cX7_clash 9 = .ok (.iload_n 0, 1) := by decide +kernel
theorem dX7_clash_10 : decode cX7_clash 10 = .ok (.invokestatic 130, 3) := by decide +kernel
theorem dX7_clash_13 : decode cX7_clash 13 = .ok (.iload_n 1, 1) := by decide +kernel
theorem dX7_clash_14 : decode cX7_clash 14 = .ok (.invokestatic 130, 3) := by decide +kernel
theorem dX7_clash_17 : decode cX7_clash 17 = .ok (.ixor, 1) := by decide +kernel
theorem dX7_clash_18 : decode cX7_clash 18 = .ok (.iand, 1) := by decide +kernel
theorem dX7_clash_19 : decode cX7_clash 19 = .ok (.ifCond .eq 7, 3) := by decide +kernel
theorem dX7_clash_22 : decode cX7_clash 22 = .ok (.iconst 1, 1) := by decide +kernel
theorem dX7_clash_23 : decode cX7_clash 23 = .ok (.goto 4, 3) := by decide +kernel
theorem dX7_clash_26 : decode cX7_clash 26 = .ok (.iconst 0, 1) := by decide +kernel
theorem dX7_clash_27 : decode cX7_clash 27 = .ok (.ireturn, 1) := by decide +kernel
theorem mz_i_wsX7_partsOf_4 : (.code yJ6_bitCount_0f7a4 cJ6_bitCount_0f7a4 1 (some .int) : Cond) ∈ wsX7_partsOf := mz_mt (mz_mt (mz_mt (mz_mt mz_mh)))
theorem mz_i_wsX7_partsOf_7 : (.constant RJ6 267 (252645135) : Cond) ∈ wsX7_partsOf := mz_mt (mz_mt (mz_mt (mz_mt (mz_mt (mz_mt (mz_mt mz_mh))))))
theorem mz_i_wsX7_partsOf_6 : (.constant RJ6 266 (858993459) : Cond) ∈ wsX7_partsOf := mz_mt (mz_mt (mz_mt (mz_mt (mz_mt (mz_mt mz_mh)))))
theorem mz_i_wsX7_partsOf_5 : (.constant RJ6 265 (1431655765) : Cond) ∈ wsX7_partsOf := mz_mt (mz_mt (mz_mt (mz_mt (mz_mt mz_mh))))
set_option maxRecDepth 20000 in
theorem ggX7_partsOf_J6_bitCount_0f7a4 : GoodIn wsX7_partsOf wsJ6_bitCount_0f7a4 := goodIn_sub (mz_fc mz_i_wsX7_partsOf_4 (mz_fc mz_i_wsX7_partsOf_5 (mz_fc mz_i_wsX7_partsOf_6 (mz_fc mz_i_wsX7_partsOf_7 mz_fn)))) (by decide +kernel)
theorem mz_i_wsX7_partsOf_3 : (.initialized RJ6 : Cond) ∈ wsX7_partsOf := mz_mt (mz_mt (mz_mt mz_mh))
theorem mz_i_wsX7_partsOf_2 : (.static yJ6_bitCount_0f7a4 : Cond) ∈ wsX7_partsOf := mz_mt (mz_mt mz_mh)
theorem mz_i_wsX7_partsOf_1 : (.methodLink RX7 239 yJ6_bitCount_0f7a4 : Cond) ∈ wsX7_partsOf := mz_mt mz_mh
set_option maxRecDepth 20000 in
theorem gX7_partsOf_J6_bitCount_0f7a4 : GoodIn wsX7_partsOf (va_wsS RX7 239 yJ6_bitCount_0f7a4 wsJ6_bitCount_0f7a4) := goodIn_app (goodIn_sub (mz_fc mz_i_wsX7_partsOf_1 (mz_fc mz_i_wsX7_partsOf_2 (mz_fc mz_i_wsX7_partsOf_3 mz_fn))) (by decide +kernel)) ggX7_partsOf_J6_bitCount_0f7a4
theorem dX7_partsOf_0 : decode cX7_partsOf 0 = .ok (.iconst 1, 1) := by decide +kernel
theorem dX7_partsOf_1 : decode cX7_partsOf 1 = .ok (.iload_n 0, 1) := by decide +kernel
theorem dX7_partsOf_2 : decode cX7_partsOf 2 = .ok (.invokestatic 239, 3) := by decide +kernel
theorem dX7_partsOf_5 : decode cX7_partsOf 5 = .ok (.ishl, 1) := by decide +kernel
theorem dX7_partsOf_6 : decode cX7_partsOf 6 = .ok (.ireturn, 1) := by decide +kernel
theorem dX7_nextPart_0 : decode cX7_nextPart 0 = .ok (.iload_n 0, 1) := by decide +kernel
theorem dX7_nextPart_1 : decode cX7_nextPart 1 = .ok (.iload_n 1, 1) := by decide +kernel
theorem dX7_nextPart_2 : decode cX7_nextPart 2 = .ok (.isub, 1) := by decide +kernel
theorem dX7_nextPart_3 : decode cX7_nextPart 3 = .ok (.iload_n 1, 1) := by decide +kernel
theorem dX7_nextPart_4 : decode cX7_nextPart 4 = .ok (.iand, 1) := by decide +kernel
theorem dX7_nextPart_5 : decode cX7_nextPart 5 = .ok (.ireturn, 1) := by decide +kernel
theorem dX7_commonDivisor_0 : decode cX7_commonDivisor 0 = .ok (.lload_n 0, 1) := by decide +kernel
theorem dX7_commonDivisor_1 : decode cX7_commonDivisor 1 = .ok (.lstore 4, 2) := by decide +kernel
theorem dX7_commonDivisor_3 : decode cX7_commonDivisor 3 = .ok (.lload_n 2, 1) := by decide +kernel
theorem dX7_commonDivisor_4 : decode cX7_commonDivisor 4 = .ok (.lstore 6, 2) := by decide +kernel
theorem dX7_commonDivisor_6 : decode cX7_commonDivisor 6 = .ok (.iconst 0, 1) := by decide +kernel
theorem dX7_commonDivisor_7 : decode cX7_commonDivisor 7 = .ok (.istore 8, 2) := by decide +kernel
theorem dX7_commonDivisor_9 : decode cX7_commonDivisor 9 = .ok (.iload 8, 2) := by decide +kernel
theorem dX7_commonDivisor_11 : decode cX7_commonDivisor 11 = .ok (.bipush 100, 2) := by decide +kernel
theorem dX7_commonDivisor_13 : decode cX7_commonDivisor 13 = .ok (.if_icmp .ge 31, 3) := by decide +kernel
theorem dX7_commonDivisor_16 : decode cX7_commonDivisor 16 = .ok (.lload 6, 2) := by decide +kernel
theorem dX7_commonDivisor_18 : decode cX7_commonDivisor 18 = .ok (.lconst 0, 1) := by decide +kernel
theorem dX7_commonDivisor_19 : decode cX7_commonDivisor 19 = .ok (.lcmp, 1) := by decide +kernel
theorem dX7_commonDivisor_20 : decode cX7_commonDivisor 20 = .ok (.ifCond .eq 24, 3) := by decide +kernel
theorem dX7_commonDivisor_23 : decode cX7_commonDivisor 23 = .ok (.lload 4, 2) := by decide +kernel
theorem dX7_commonDivisor_25 : decode cX7_commonDivisor 25 = .ok (.lload 6, 2) := by decide +kernel
theorem dX7_commonDivisor_27 : decode cX7_commonDivisor 27 = .ok (.lrem, 1) := by decide +kernel
theorem dX7_commonDivisor_28 : decode cX7_commonDivisor 28 = .ok (.lstore 9, 2) := by decide +kernel
theorem dX7_commonDivisor_30 : decode cX7_commonDivisor 30 = .ok (.lload 6, 2) := by decide +kernel
theorem dX7_commonDivisor_32 : decode cX7_commonDivisor 32 = .ok (.lstore 4, 2) := by decide +kernel
theorem dX7_commonDivisor_34 : decode cX7_commonDivisor 34 = .ok (.lload 9, 2) := by decide +kernel
theorem dX7_commonDivisor_36 : decode cX7_commonDivisor 36 = .ok (.lstore 6, 2) := by decide +kernel
theorem dX7_commonDivisor_38 : decode cX7_commonDivisor 38 = .ok (.iinc 8 1, 3) := by decide +kernel
theorem dX7_commonDivisor_41 : decode cX7_commonDivisor 41 = .ok (.goto (-32), 3) := by decide +kernel
theorem dX7_commonDivisor_44 : decode cX7_commonDivisor 44 = .ok (.lconst 1, 1) := by decide +kernel
theorem dX7_commonDivisor_45 : decode cX7_commonDivisor 45 = .ok (.lload 4, 2) := by decide +kernel
theorem dX7_commonDivisor_47 : decode cX7_commonDivisor 47 = .ok (.invokestatic 199, 3) := by decide +kernel
theorem dX7_commonDivisor_50 : decode cX7_commonDivisor 50 = .ok (.lreturn, 1) := by decide +kernel
theorem dJ6_bitCount_0f7a4_0 : decode cJ6_bitCount_0f7a4 0 = .ok (.iload_n 0, 1) := by decide +kernel
theorem dJ6_bitCount_0f7a4_1 : decode cJ6_bitCount_0f7a4 1 = .ok (.iload_n 0, 1) := by decide +kernel
theorem dJ6_bitCount_0f7a4_2 : decode cJ6_bitCount_0f7a4 2 = .ok (.iconst 1, 1) := by decide +kernel
theorem dJ6_bitCount_0f7a4_3 : decode cJ6_bitCount_0f7a4 3 = .ok (.iushr, 1) := by decide +kernel
theorem dJ6_bitCount_0f7a4_4 : decode cJ6_bitCount_0f7a4 4 = .ok (.ldc_w 265, 3) := by decide +kernel
theorem dJ6_bitCount_0f7a4_7 : decode cJ6_bitCount_0f7a4 7 = .ok (.iand, 1) := by decide +kernel
theorem dJ6_bitCount_0f7a4_8 : decode cJ6_bitCount_0f7a4 8 = .ok (.isub, 1) := by decide +kernel
theorem dJ6_bitCount_0f7a4_9 : decode cJ6_bitCount_0f7a4 9 = .ok (.istore_n 0, 1) := by decide +kernel
theorem dJ6_bitCount_0f7a4_10 : decode cJ6_bitCount_0f7a4 10 = .ok (.iload_n 0, 1) := by decide +kernel
theorem dJ6_bitCount_0f7a4_11 : decode cJ6_bitCount_0f7a4 11 = .ok (.ldc_w 266, 3) := by decide +kernel
theorem dJ6_bitCount_0f7a4_14 : decode cJ6_bitCount_0f7a4 14 = .ok (.iand, 1) := by decide +kernel
theorem dJ6_bitCount_0f7a4_15 : decode cJ6_bitCount_0f7a4 15 = .ok (.iload_n 0, 1) := by decide +kernel
theorem dJ6_bitCount_0f7a4_16 : decode cJ6_bitCount_0f7a4 16 = .ok (.iconst 2, 1) := by decide +kernel
theorem dJ6_bitCount_0f7a4_17 : decode cJ6_bitCount_0f7a4 17 = .ok (.iushr, 1) := by decide +kernel
theorem dJ6_bitCount_0f7a4_18 : decode cJ6_bitCount_0f7a4 18 = .ok (.ldc_w 266, 3) := by decide +kernel
theorem dJ6_bitCount_0f7a4_21 : decode cJ6_bitCount_0f7a4 21 = .ok (.iand, 1) := by decide +kernel
theorem dJ6_bitCount_0f7a4_22 : decode cJ6_bitCount_0f7a4 22 = .ok (.iadd, 1) := by decide +kernel
theorem dJ6_bitCount_0f7a4_23 : decode cJ6_bitCount_0f7a4 23 = .ok (.istore_n 0, 1) := by decide +kernel
theorem dJ6_bitCount_0f7a4_24 : decode cJ6_bitCount_0f7a4 24 = .ok (.iload_n 0, 1) := by decide +kernel
theorem dJ6_bitCount_0f7a4_25 : decode cJ6_bitCount_0f7a4 25 = .ok (.iload_n 0, 1) := by decide +kernel
theorem dJ6_bitCount_0f7a4_26 : decode cJ6_bitCount_0f7a4 26 = .ok (.iconst 4, 1) := by decide +kernel
theorem dJ6_bitCount_0f7a4_27 : decode cJ6_bitCount_0f7a4 27 = .ok (.iushr, 1) := by decide +kernel
theorem dJ6_bitCount_0f7a4_28 : decode cJ6_bitCount_0f7a4 28 = .ok (.iadd, 1) := by decide +kernel
theorem dJ6_bitCount_0f7a4_29 : decode cJ6_bitCount_0f7a4 29 = .ok (.ldc_w 267, 3) := by decide +kernel
theorem dJ6_bitCount_0f7a4_32 : decode cJ6_bitCount_0f7a4 32 = .ok (.iand, 1) := by decide +kernel
theorem dJ6_bitCount_0f7a4_33 : decode cJ6_bitCount_0f7a4 33 = .ok (.istore_n 0, 1) := by decide +kernel
theorem dJ6_bitCount_0f7a4_34 : decode cJ6_bitCount_0f7a4 34 = .ok (.iload_n 0, 1) := by decide +kernel
theorem dJ6_bitCount_0f7a4_35 : decode cJ6_bitCount_0f7a4 35 = .ok (.iload_n 0, 1) := by decide +kernel
theorem dJ6_bitCount_0f7a4_36 : decode cJ6_bitCount_0f7a4 36 = .ok (.bipush 8, 2) := by decide +kernel
theorem dJ6_bitCount_0f7a4_38 : decode cJ6_bitCount_0f7a4 38 = .ok (.iushr, 1) := by decide +kernel
theorem dJ6_bitCount_0f7a4_39 : decode cJ6_bitCount_0f7a4 39 = .ok (.iadd, 1) := by decide +kernel
theorem dJ6_bitCount_0f7a4_40 : decode cJ6_bitCount_0f7a4 40 = .ok (.istore_n 0, 1) := by decide +kernel
theorem dJ6_bitCount_0f7a4_41 : decode cJ6_bitCount_0f7a4 41 = .ok (.iload_n 0, 1) := by decide +kernel
theorem dJ6_bitCount_0f7a4_42 : decode cJ6_bitCount_0f7a4 42 = .ok (.iload_n 0, 1) := by decide +kernel
theorem dJ6_bitCount_0f7a4_43 : decode cJ6_bitCount_0f7a4 43 = .ok (.bipush 16, 2) := by decide +kernel
theorem dJ6_bitCount_0f7a4_45 : decode cJ6_bitCount_0f7a4 45 = .ok (.iushr, 1) := by decide +kernel
theorem dJ6_bitCount_0f7a4_46 : decode cJ6_bitCount_0f7a4 46 = .ok (.iadd, 1) := by decide +kernel
theorem dJ6_bitCount_0f7a4_47 : decode cJ6_bitCount_0f7a4 47 = .ok (.istore_n 0, 1) := by decide +kernel
theorem dJ6_bitCount_0f7a4_48 : decode cJ6_bitCount_0f7a4 48 = .ok (.iload_n 0, 1) := by decide +kernel
theorem dJ6_bitCount_0f7a4_49 : decode cJ6_bitCount_0f7a4 49 = .ok (.bipush 63, 2) := by decide +kernel
theorem dJ6_bitCount_0f7a4_51 : decode cJ6_bitCount_0f7a4 51 = .ok (.iand, 1) := by decide +kernel
theorem dJ6_bitCount_0f7a4_52 : decode cJ6_bitCount_0f7a4 52 = .ok (.ireturn, 1) := by decide +kernel
