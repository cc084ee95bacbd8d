/-! printed rows of NAMES that the contracts use -/
theorem mz_i_wsX8_drawings_12 : (.code yX8_has cX8_has 3 (some .boolean) : Cond) ∈ wsX8_drawings := mz_mt (mz_ml (mz_mt (mz_mt (mz_mt (mz_mt (mz_mt (mz_mt (mz_mt (mz_mt (mz_mt (mz_mt (mz_mt mz_mh))))))))))))
theorem mz_i_wsX8_drawings_1 : (.fieldLink RX8 58 "MadeItSoModel" "many" "I" : Cond) ∈ wsX8_drawings := mz_mt (mz_ml mz_mh)
theorem mz_i_wsX8_drawings_16 : (.code yX8_isThing cX8_isThing 2 (some .boolean) : Cond) ∈ wsX8_drawings := mz_mt (mz_ml (mz_mt (mz_mt (mz_mt (mz_mt (mz_mt (mz_mt (mz_mt (mz_mt (mz_mt (mz_mt (mz_mt (mz_mt (mz_mt (mz_mt (mz_mt mz_mh))))))))))))))))
theorem mz_i_wsX8_drawings_11 : (.initialized RX8 : Cond) ∈ wsX8_drawings := mz_mt (mz_ml (mz_mt (mz_mt (mz_mt (mz_mt (mz_mt (mz_mt (mz_mt (mz_mt (mz_mt (mz_mt mz_mh)))))))))))
theorem mz_i_wsX8_drawings_15 : (.selects RX8 yX8_isThing yX8_isThing : Cond) ∈ wsX8_drawings := mz_mt (mz_ml (mz_mt (mz_mt (mz_mt (mz_mt (mz_mt (mz_mt (mz_mt (mz_mt (mz_mt (mz_mt (mz_mt (mz_mt (mz_mt (mz_mt mz_mh)))))))))))))))
theorem mz_i_wsX8_drawings_14 : (.instanceMethod yX8_isThing : Cond) ∈ wsX8_drawings := mz_mt (mz_ml (mz_mt (mz_mt (mz_mt (mz_mt (mz_mt (mz_mt (mz_mt (mz_mt (mz_mt (mz_mt (mz_mt (mz_mt (mz_mt mz_mh))))))))))))))
theorem mz_i_wsX8_drawings_13 : (.methodLink RX8 71 yX8_isThing : Cond) ∈ wsX8_drawings := mz_mt (mz_ml (mz_mt (mz_mt (mz_mt (mz_mt (mz_mt (mz_mt (mz_mt (mz_mt (mz_mt (mz_mt (mz_mt (mz_mt mz_mh)))))))))))))
theorem mz_i_wsX8_drawings_3 : (.fieldLink RX8 13 "MadeItSoModel" "parents" "[I" : Cond) ∈ wsX8_drawings := mz_mt (mz_ml (mz_mt (mz_mt mz_mh)))
theorem mz_f_wsX8_drawings_wsX80 : ∀ w ∈ wsX80, w ∈ wsX8_drawings := fun _ h => mz_mt (mz_mr h)
set_option maxRecDepth 20000 in
theorem ggX8_drawings_X8_has : GoodIn wsX8_drawings wsX8_has := goodIn_sub (mz_fc mz_i_wsX8_drawings_12 (mz_fa (mz_fc mz_i_wsX8_drawings_3 (mz_fc mz_i_wsX8_drawings_13 (mz_fc mz_i_wsX8_drawings_14 (mz_fc mz_i_wsX8_drawings_15 (mz_fc mz_i_wsX8_drawings_11 (mz_fc mz_i_wsX8_drawings_16 (mz_fc mz_i_wsX8_drawings_1 mz_fn))))))) (mz_f_wsX8_drawings_wsX80))) (by decide +kernel)
theorem mz_i_wsX8_drawings_10 : (.selects RX8 yX8_has yX8_has : Cond) ∈ wsX8_drawings := mz_mt (mz_ml (mz_mt (mz_mt (mz_mt (mz_mt (mz_mt (mz_mt (mz_mt (mz_mt (mz_mt mz_mh))))))))))
theorem mz_i_wsX8_drawings_9 : (.instanceMethod yX8_has : Cond) ∈ wsX8_drawings := mz_mt (mz_ml (mz_mt (mz_mt (mz_mt (mz_mt (mz_mt (mz_mt (mz_mt (mz_mt mz_mh)))))))))
theorem mz_i_wsX8_drawings_8 : (.methodLink RX8 78 yX8_has : Cond) ∈ wsX8_drawings := mz_mt (mz_ml (mz_mt (mz_mt (mz_mt (mz_mt (mz_mt (mz_mt (mz_mt mz_mh))))))))
set_option maxRecDepth 20000 in
theorem gX8_drawings_X8_has : GoodIn wsX8_drawings (wsV RX8 78 RX8 yX8_has wsX8_has) := goodIn_app (goodIn_sub (mz_fc mz_i_wsX8_drawings_8 (mz_fc mz_i_wsX8_drawings_9 (mz_fc mz_i_wsX8_drawings_10 (mz_fc mz_i_wsX8_drawings_11 mz_fn)))) (by decide +kernel)) ggX8_drawings_X8_has
theorem mz_i_wsX8_drawings_20 : (.code yX8_meetsLike cX8_meetsLike 7 (some .boolean) : Cond) ∈ wsX8_drawings := mz_mt (mz_ml (mz_mt (mz_mt (mz_mt (mz_mt (mz_mt (mz_mt (mz_mt (mz_mt (mz_mt (mz_mt (mz_mt (mz_mt (mz_mt (mz_mt (mz_mt (mz_mt (mz_mt (mz_mt (mz_mt mz_mh))))))))))))))))))))
theorem mz_i_wsX8_drawings_2 : (.fieldLink RX8 55 "MadeItSoModel" "joined" "[I" : Cond) ∈ wsX8_drawings := mz_mt (mz_ml (mz_mt mz_mh))
set_option maxRecDepth 20000 in
theorem ggX8_drawings_X8_meetsLike : GoodIn wsX8_drawings wsX8_meetsLike := goodIn_sub (mz_fc mz_i_wsX8_drawings_20 (mz_fa (mz_fc mz_i_wsX8_drawings_1 (mz_fc mz_i_wsX8_drawings_2 (mz_fc mz_i_wsX8_drawings_3 mz_fn))) (mz_f_wsX8_drawings_wsX80))) (by decide +kernel)
theorem mz_i_wsX8_drawings_19 : (.selects RX8 yX8_meetsLike yX8_meetsLike : Cond) ∈ wsX8_drawings := mz_mt (mz_ml (mz_mt (mz_mt (mz_mt (mz_mt (mz_mt (mz_mt (mz_mt (mz_mt (mz_mt (mz_mt (mz_mt (mz_mt (mz_mt (mz_mt (mz_mt (mz_mt (mz_mt (mz_mt mz_mh)))))))))))))))))))
theorem mz_i_wsX8_drawings_18 : (.instanceMethod yX8_meetsLike : Cond) ∈ wsX8_drawings := mz_mt (mz_ml (mz_mt (mz_mt (mz_mt (mz_mt (mz_mt (mz_mt (mz_mt (mz_mt (mz_mt (mz_mt (mz_mt (mz_mt (mz_mt (mz_mt (mz_mt (mz_mt (mz_mt mz_mh))))))))))))))))))
theorem mz_i_wsX8_drawings_17 : (.methodLink RX8 161 yX8_meetsLike : Cond) ∈ wsX8_drawings := mz_mt (mz_ml (mz_mt (mz_mt (mz_mt (mz_mt (mz_mt (mz_mt (mz_mt (mz_mt (mz_mt (mz_mt (mz_mt (mz_mt (mz_mt (mz_mt (mz_mt (mz_mt mz_mh)))))))))))))))))
set_option maxRecDepth 20000 in
theorem gX8_drawings_X8_meetsLike : GoodIn wsX8_drawings (wsV RX8 161 RX8 yX8_meetsLike wsX8_meetsLike) := goodIn_app (goodIn_sub (mz_fc mz_i_wsX8_drawings_17 (mz_fc mz_i_wsX8_drawings_18 (mz_fc mz_i_wsX8_drawings_19 (mz_fc mz_i_wsX8_drawings_11 mz_fn)))) (by decide +kernel)) ggX8_drawings_X8_meetsLike
theorem mz_i_wsX8_drawings_24 : (.code yX8_isLeastOrder cX8_isLeastOrder 4 (some .boolean) : Cond) ∈ wsX8_drawings := mz_mt (mz_ml (mz_mt (mz_mt (mz_mt (mz_mt (mz_mt (mz_mt (mz_mt (mz_mt (mz_mt (mz_mt (mz_mt (mz_mt (mz_mt (mz_mt (mz_mt (mz_mt (mz_mt (mz_mt (mz_mt (mz_mt (mz_mt (mz_mt (mz_mt mz_mh))))))))))))))))))))))))
theorem mz_i_wsX8_drawings_7 : (.fieldLink RX8 43 "MadeItSoModel" "order" "[I" : Cond) ∈ wsX8_drawings := mz_mt (mz_ml (mz_mt (mz_mt (mz_mt (mz_mt (mz_mt (mz_mt mz_mh)))))))
set_option maxRecDepth 20000 in
theorem ggX8_drawings_X8_isLeastOrder : GoodIn wsX8_drawings wsX8_isLeastOrder := goodIn_sub (mz_fc mz_i_wsX8_drawings_24 (mz_fa (mz_fc mz_i_wsX8_drawings_2 (mz_fc mz_i_wsX8_drawings_7 mz_fn)) (mz_f_wsX8_drawings_wsX80))) (by decide +kernel)
theorem mz_i_wsX8_drawings_23 : (.selects RX8 yX8_isLeastOrder yX8_isLeastOrder : Cond) ∈ wsX8_drawings := mz_mt (mz_ml (mz_mt (mz_mt (mz_mt (mz_mt (mz_mt (mz_mt (mz_mt (mz_mt (mz_mt (mz_mt (mz_mt (mz_mt (mz_mt (mz_mt (mz_mt (mz_mt (mz_mt (mz_mt (mz_mt (mz_mt (mz_mt (mz_mt mz_mh)))))))))))))))))))))))
theorem mz_i_wsX8_drawings_22 : (.instanceMethod yX8_isLeastOrder : Cond) ∈ wsX8_drawings := mz_mt (mz_ml (mz_mt (mz_mt (mz_mt (mz_mt (mz_mt (mz_mt (mz_mt (mz_mt (mz_mt (mz_mt (mz_mt (mz_mt (mz_mt (mz_mt (mz_mt (mz_mt (mz_mt (mz_mt (mz_mt (mz_mt (mz_mt mz_mh))))))))))))))))))))))
theorem mz_i_wsX8_drawings_21 : (.methodLink RX8 164 yX8_isLeastOrder : Cond) ∈ wsX8_drawings := mz_mt (mz_ml (mz_mt (mz_mt (mz_mt (mz_mt (mz_mt (mz_mt (mz_mt (mz_mt (mz_mt (mz_mt (mz_mt (mz_mt (mz_mt (mz_mt (mz_mt (mz_mt (mz_mt (mz_mt (mz_mt (mz_mt mz_mh)))))))))))))))))))))
set_option maxRecDepth 20000 in
theorem gX8_drawings_X8_isLeastOrder : GoodIn wsX8_drawings (wsV RX8 164 RX8 yX8_isLeastOrder wsX8_isLeastOrder) := goodIn_app (goodIn_sub (mz_fc mz_i_wsX8_drawings_21 (mz_fc mz_i_wsX8_drawings_22 (mz_fc mz_i_wsX8_drawings_23 (mz_fc mz_i_wsX8_drawings_11 mz_fn)))) (by decide +kernel)) ggX8_drawings_X8_isLeastOrder
theorem dX8_drawings_0 : decode cX8_drawings 0 = .ok (.iconst 0, 1) := by decide +kernel
theorem dX8_drawings_1 : decode cX8_drawings 1 = .ok (.istore_n 1, 1) := by decide +kernel
theorem dX8_drawings_2 : decode cX8_drawings 2 = .ok (.iload_n 1, 1) := by decide +kernel
theorem dX8_drawings_3 : decode cX8_drawings 3 = .ok (.aload_n 0, 1) := by decide +kernel
theorem dX8_drawings_4 : decode cX8_drawings 4 = .ok (.getfield 58, 3) := by decide +kernel
theorem dX8_drawings_7 : decode cX8_drawings 7 = .ok (.if_icmp .ge 62, 3) := by decide +kernel
theorem dX8_drawings_10 : decode cX8_drawings 10 = .ok (.aload_n 0, 1) := by decide +kernel
theorem dX8_drawings_11 : decode cX8_drawings 11 = .ok (.getfield 55, 3) := by decide +kernel
theorem dX8_drawings_14 : decode cX8_drawings 14 = .ok (.iload_n 1, 1) := by decide +kernel
theorem dX8_drawings_15 : decode cX8_drawings 15 = .ok (.aload_n 0, 1) := by decide +kernel
theorem dX8_drawings_16 : decode cX8_drawings 16 = .ok (.getfield 13, 3) := by decide +kernel
theorem dX8_drawings_19 : decode cX8_drawings 19 = .ok (.iload_n 1, 1) := by decide +kernel
theorem dX8_drawings_20 : decode cX8_drawings 20 = .ok (.iaload, 1) := by decide +kernel
theorem dX8_drawings_21 : decode cX8_drawings 21 = .ok (.iastore, 1) := by decide +kernel
theorem dX8_drawings_22 : decode cX8_drawings 22 = .ok (.iconst 0, 1) := by decide +kernel
theorem dX8_drawings_23 : decode cX8_drawings 23 = .ok (.istore_n 2, 1) := by decide +kernel
theorem dX8_drawings_24 : decode cX8_drawings 24 = .ok (.iload_n 2, 1) := by decide +kernel
theorem dX8_drawings_25 : decode cX8_drawings 25 = .ok (.aload_n 0, 1) := by decide +kernel
theorem dX8_drawings_26 : decode cX8_drawings 26 = .ok (.getfield 58, 3) := by decide +kernel
theorem dX8_drawings_29 : decode cX8_drawings 29 = .ok (.if_icmp .ge 34, 3) := by decide +kernel
theorem dX8_drawings_32 : decode cX8_drawings 32 = .ok (.aload_n 0, 1) := by decide +kernel
theorem dX8_drawings_33 : decode cX8_drawings 33 = .ok (.getfield 55, 3) := by decide +kernel
theorem dX8_drawings_36 : decode cX8_drawings 36 = .ok (.iload_n 1, 1) := by decide +kernel
theorem dX8_drawings_37 : decode cX8_drawings 37 = .ok (.dup2, 1) := by decide +kernel
theorem dX8_drawings_38 : decode cX8_drawings 38 = .ok (.iaload, 1) := by decide +kernel
theorem dX8_drawings_39 : decode cX8_drawings 39 = .ok (.aload_n 0, 1) := by decide +kernel
theorem dX8_drawings_40 : decode cX8_drawings 40 = .ok (.iload_n 1, 1) := by decide +kernel
theorem dX8_drawings_41 : decode cX8_drawings 41 = .ok (.iload_n 2, 1) := by decide +kernel
theorem dX8_drawings_42 : decode cX8_drawings 42 = .ok (.invokevirtual 78, 3) := by decide +kernel
theorem dX8_drawings_45 : decode cX8_drawings 45 = .ok (.ifCond .eq 9, 3) := by decide +kernel
theorem dX8_drawings_48 : decode cX8_drawings 48 = .ok (.iconst 1, 1) := by decide +kernel
theorem dX8_drawings_49 : decode cX8_drawings 49 = .ok (.iload_n 2, 1) := by decide +kernel
theorem dX8_drawings_50 : decode cX8_drawings 50 = .ok (.ishl, 1) := by decide +kernel
theorem dX8_drawings_51 : decode cX8_drawings 51 = .ok (.goto 4, 3) := by decide +kernel
theorem dX8_drawings_54 : decode cX8_drawings 54 = .ok (.iconst 0, 1) := by decide +kernel
theorem dX8_drawings_55 : decode cX8_drawings 55 = .ok (.ior, 1) := by decide +kernel
theorem dX8_drawings_56 : decode cX8_drawings 56 = .ok (.iastore, 1) := by decide +kernel
theorem dX8_drawings_57 : decode cX8_drawings 57 = .ok (.iinc 2 1, 3) := by decide +kernel
theorem dX8_drawings_60 : decode cX8_drawings 60 = .ok (.goto (-36), 3) := by decide +kernel
theorem dX8_drawings_63 : decode cX8_drawings 63 = .ok (.iinc 1 1, 3) := by decide +kernel
theorem dX8_drawings_66 : decode cX8_drawings 66 = .ok (.goto (-64), 3) := by decide +kernel
theorem dX8_drawings_69 : decode cX8_drawings 69 = .ok (.iconst 0, 1) := by decide +kernel
theorem dX8_drawings_70 : decode cX8_drawings 70 = .ok (.istore_n 1, 1) := by decide +kernel
theorem dX8_drawings_71 : decode cX8_drawings 71 = .ok (.iload_n 1, 1) := by decide +kernel
theorem dX8_drawings_72 : decode cX8_drawings 72 = .ok (.bipush 64, 2) := by decide +kernel
theorem dX8_drawings_74 : decode cX8_drawings 74 = .ok (.if_icmp .ge 16, 3) := by decide +kernel
theorem dX8_drawings_77 : decode cX8_drawings 77 = .ok (.aload_n 0, 1) := by decide +kernel
theorem dX8_drawings_78 : decode cX8_drawings 78 = .ok (.getfield 52, 3) := by decide +kernel
theorem dX8_drawings_81 : decode cX8_drawings 81 = .ok (.iload_n 1, 1) := by decide +kernel
theorem dX8_drawings_82 : decode cX8_drawings 82 = .ok (.iconst 1, 1) := by decide +kernel
theorem dX8_drawings_83 : decode cX8_drawings 83 = .ok (.bastore, 1) := by decide +kernel
theorem dX8_drawings_84 : decode cX8_drawings 84 = .ok (.iinc 1 1, 3) := by decide +kernel
theorem dX8_drawings_87 : decode cX8_drawings 87 = .ok (.goto (-16), 3) := by decide +kernel
theorem dX8_drawings_90 : decode cX8_drawings 90 = .ok (.iconst 0, 1) := by decide +kernel
theorem dX8_drawings_91 : decode cX8_drawings 91 = .ok (.istore_n 1, 1) := by decide +kernel
theorem dX8_drawings_92 : decode cX8_drawings 92 = .ok (.iconst 0, 1) := by decide +kernel
theorem dX8_drawings_93 : decode cX8_drawings 93 = .ok (.istore_n 2, 1) := by decide +kernel
theorem dX8_drawings_94 : decode cX8_drawings 94 = .ok (.iconst 0, 1) := by decide +kernel
theorem dX8_drawings_95 : decode cX8_drawings 95 = .ok (.istore_n 3, 1) := by decide +kernel
theorem dX8_drawings_96 : decode cX8_drawings 96 = .ok (.aload_n 0, 1) := by decide +kernel
theorem dX8_drawings_97 : decode cX8_drawings 97 = .ok (.getfield 46, 3) := by decide +kernel
theorem dX8_drawings_100 : decode cX8_drawings 100 = .ok (.iconst 0, 1) := by decide +kernel
theorem dX8_drawings_101 : decode cX8_drawings 101 = .ok (.iconst 0, 1) := by decide +kernel
theorem dX8_drawings_102 : decode cX8_drawings 102 = .ok (.iastore, 1) := by decide +kernel
theorem dX8_drawings_103 : decode cX8_drawings 103 = .ok (.iload_n 2, 1) := by decide +kernel
theorem dX8_drawings_104 : decode cX8_drawings 104 = .ok (.ifCond .lt 247, 3) := by decide +kernel
theorem dX8_drawings_107 : decode cX8_drawings 107 = .ok (.iload_n 2, 1) := by decide +kernel
theorem dX8_drawings_108 : decode cX8_drawings 108 = .ok (.aload_n 0, 1) := by decide +kernel
theorem dX8_drawings_109 : decode cX8_drawings 109 = .ok (.getfield 58, 3) := by decide +kernel
theorem dX8_drawings_112 : decode cX8_drawings 112 = .ok (.if_icmp .ne 92, 3) := by decide +kernel
theorem dX8_drawings_115 : decode cX8_drawings 115 = .ok (.iinc 1 1, 3) := by decide +kernel
theorem dX8_drawings_118 : decode cX8_drawings 118 = .ok (.iconst 0, 1) := by decide +kernel
theorem dX8_drawings_119 : decode cX8_drawings 119 = .ok (.istore 4, 2) := by decide +kernel
theorem dX8_drawings_121 : decode cX8_drawings 121 = .ok (.iload 4, 2) := by decide +kernel
theorem dX8_drawings_123 : decode cX8_drawings 123 = .ok (.aload_n 0, 1) := by decide +kernel
theorem dX8_drawings_124 : decode cX8_drawings 124 = .ok (.getfield 58, 3) := by decide +kernel
theorem dX8_drawings_127 : decode cX8_drawings 127 = .ok (.if_icmp .ge 77, 3) := by decide +kernel
theorem dX8_drawings_130 : decode cX8_drawings 130 = .ok (.iconst 0, 1) := by decide +kernel
theorem dX8_drawings_131 : decode cX8_drawings 131 = .ok (.istore 5, 2) := by decide +kernel
theorem dX8_drawings_133 : decode cX8_drawings 133 = .ok (.iload 5, 2) := by decide +kernel
theorem dX8_drawings_135 : decode cX8_drawings 135 = .ok (.aload_n 0, 1) := by decide +kernel
theorem dX8_drawings_136 : decode cX8_drawings 136 = .ok (.getfield 58, 3) := by decide +kernel
theorem dX8_drawings_139 : decode cX8_drawings 139 = .ok (.if_icmp .ge 59, 3) := by decide +kernel
theorem dX8_drawings_142 : decode cX8_drawings 142 = .ok (.aload_n 0, 1) := by decide +kernel
theorem dX8_drawings_143 : decode cX8_drawings 143 = .ok (.getfield 52, 3) := by decide +kernel
theorem dX8_drawings_146 : decode cX8_drawings 146 = .ok (.bipush 8, 2) := by decide +kernel
theorem dX8_drawings_148 : decode cX8_drawings 148 = .ok (.iload 4, 2) := by decide +kernel
theorem dX8_drawings_150 : decode cX8_drawings 150 = .ok (.imul, 1) := by decide +kernel
theorem dX8_drawings_151 : decode cX8_drawings 151 = .ok (.iload 5, 2) := by decide +kernel
theorem dX8_drawings_153 : decode cX8_drawings 153 = .ok (.iadd, 1) := by decide +kernel
theorem dX8_drawings_154 : decode cX8_drawings 154 = .ok (.aload_n 0, 1) := by decide +kernel
theorem dX8_drawings_155 : decode cX8_drawings 155 = .ok (.getfield 52, 3) := by decide +kernel
theorem dX8_drawings_158 : decode cX8_drawings 158 = .ok (.bipush 8, 2) := by decide +kernel
theorem dX8_drawings_160 : decode cX8_drawings 160 = .ok (.iload 4, 2) := by decide +kernel
theorem dX8_drawings_162 : decode cX8_drawings 162 = .ok (.imul, 1) := by decide +kernel
theorem dX8_drawings_163 : decode cX8_drawings 163 = .ok (.iload 5, 2) := by decide +kernel
theorem dX8_drawings_165 : decode cX8_drawings 165 = .ok (.iadd, 1) := by decide +kernel
theorem dX8_drawings_166 : decode cX8_drawings 166 = .ok (.baload, 1) := by decide +kernel
theorem dX8_drawings_167 : decode cX8_drawings 167 = .ok (.ifCond .eq 23, 3) := by decide +kernel
theorem dX8_drawings_170 : decode cX8_drawings 170 = .ok (.aload_n 0, 1) := by decide +kernel
theorem dX8_drawings_171 : decode cX8_drawings 171 = .ok (.getfield 49, 3) := by decide +kernel
theorem dX8_drawings_174 : decode cX8_drawings 174 = .ok (.iload 5, 2) := by decide +kernel
theorem dX8_drawings_176 : decode cX8_drawings 176 = .ok (.iaload, 1) := by decide +kernel
theorem dX8_drawings_177 : decode cX8_drawings 177 = .ok (.iload 4, 2) := by decide +kernel
theorem dX8_drawings_179 : decode cX8_drawings 179 = .ok (.ishr, 1) := by decide +kernel
theorem dX8_drawings_180 : decode cX8_drawings 180 = .ok (.iconst 1, 1) := by decide +kernel
theorem dX8_drawings_181 : decode cX8_drawings 181 = .ok (.iand, 1) := by decide +kernel
theorem dX8_drawings_182 : decode cX8_drawings 182 = .ok (.iconst 1, 1) := by decide +kernel
theorem dX8_drawings_183 : decode cX8_drawings 183 = .ok (.if_icmp .ne 7, 3) := by decide +kernel
theorem dX8_drawings_186 : decode cX8_drawings 186 = .ok (.iconst 1, 1) := by decide +kernel
theorem dX8_drawings_187 : decode cX8_drawings 187 = .ok (.goto 4, 3) := by decide +kernel
theorem dX8_drawings_190 : decode cX8_drawings 190 = .ok (.iconst 0, 1) := by decide +kernel
theorem dX8_drawings_191 : decode cX8_drawings 191 = .ok (.bastore, 1) := by decide +kernel
theorem dX8_drawings_192 : decode cX8_drawings 192 = .ok (.iinc 5 1, 3) := by decide +kernel
theorem dX8_drawings_195 : decode cX8_drawings 195 = .ok (.goto (-62), 3) := by decide +kernel
theorem dX8_drawings_198 : decode cX8_drawings 198 = .ok (.iinc 4 1, 3) := by decide +kernel
theorem dX8_drawings_201 : decode cX8_drawings 201 = .ok (.goto (-80), 3) := by decide +kernel
theorem dX8_drawings_204 : decode cX8_drawings 204 = .ok (.iload_n 2, 1) := by decide +kernel
theorem dX8_drawings_205 : decode cX8_drawings 205 = .ok (.aload_n 0, 1) := by decide +kernel
theorem dX8_drawings_206 : decode cX8_drawings 206 = .ok (.getfield 58, 3) := by decide +kernel
theorem dX8_drawings_209 : decode cX8_drawings 209 = .ok (.if_icmp .ne 10, 3) := by decide +kernel
theorem dX8_drawings_212 : decode cX8_drawings 212 = .ok (.aload_n 0, 1) := by decide +kernel
theorem dX8_drawings_213 : decode cX8_drawings 213 = .ok (.getfield 58, 3) := by decide +kernel
theorem dX8_drawings_216 : decode cX8_drawings 216 = .ok (.goto 9, 3) := by decide +kernel
theorem dX8_drawings_219 : decode cX8_drawings 219 = .ok (.aload_n 0, 1) := by decide +kernel
theorem dX8_drawings_220 : decode cX8_drawings 220 = .ok (.getfield 46, 3) := by decide +kernel
theorem dX8_drawings_223 : decode cX8_drawings 223 = .ok (.iload_n 2, 1) := by decide +kernel
theorem dX8_drawings_224 : decode cX8_drawings 224 = .ok (.iaload, 1) := by decide +kernel
theorem dX8_drawings_225 : decode cX8_drawings 225 = .ok (.istore 4, 2) := by decide +kernel
theorem dX8_drawings_227 : decode cX8_drawings 227 = .ok (.iload 4, 2) := by decide +kernel
theorem dX8_drawings_229 : decode cX8_drawings 229 = .ok (.aload_n 0, 1) := by decide +kernel
theorem dX8_drawings_230 : decode cX8_drawings 230 = .ok (.getfield 58, 3) := by decide +kernel
theorem dX8_drawings_233 : decode cX8_drawings 233 = .ok (.if_icmp .ne 26, 3) := by decide +kernel
theorem dX8_drawings_236 : decode cX8_drawings 236 = .ok (.iinc 2 (-1), 3) := by decide +kernel
theorem dX8_drawings_239 : decode cX8_drawings 239 = .ok (.iload_n 2, 1) := by decide +kernel
theorem dX8_drawings_240 : decode cX8_drawings 240 = .ok (.ifCond .lt (-137), 3) := by decide +kernel
theorem dX8_drawings_243 : decode cX8_drawings 243 = .ok (.iload_n 3, 1) := by decide +kernel
theorem dX8_drawings_244 : decode cX8_drawings 244 = .ok (.iconst 1, 1) := by decide +kernel
theorem dX8_drawings_245 : decode cX8_drawings 245 = .ok (.aload_n 0, 1) := by decide +kernel
theorem dX8_drawings_246 : decode cX8_drawings 246 = .ok (.getfield 43, 3) := by decide +kernel
theorem dX8_drawings_249 : decode cX8_drawings 249 = .ok (.iload_n 2, 1) := by decide +kernel
theorem dX8_drawings_250 : decode cX8_drawings 250 = .ok (.iaload, 1) := by decide +kernel
theorem dX8_drawings_251 : decode cX8_drawings 251 = .ok (.ishl, 1) := by decide +kernel
theorem dX8_drawings_252 : decode cX8_drawings 252 = .ok (.iconst (-1), 1) := by decide +kernel
theorem dX8_drawings_253 : decode cX8_drawings 253 = .ok (.ixor, 1) := by decide +kernel
theorem dX8_drawings_254 : decode cX8_drawings 254 = .ok (.iand, 1) := by decide +kernel
theorem dX8_drawings_255 : decode cX8_drawings 255 = .ok (.istore_n 3, 1) := by decide +kernel
theorem dX8_drawings_256 : decode cX8_drawings 256 = .ok (.goto (-153), 3) := by decide +kernel
theorem dX8_drawings_259 : decode cX8_drawings 259 = .ok (.aload_n 0, 1) := by decide +kernel
theorem dX8_drawings_260 : decode cX8_drawings 260 = .ok (.getfield 46, 3) := by decide +kernel
theorem dX8_drawings_263 : decode cX8_drawings 263 = .ok (.iload_n 2, 1) := by decide +kernel
theorem dX8_drawings_264 : decode cX8_drawings 264 = .ok (.dup2, 1) := by decide +kernel
theorem dX8_drawings_265 : decode cX8_drawings 265 = .ok (.iaload, 1) := by decide +kernel
theorem dX8_drawings_266 : decode cX8_drawings 266 = .ok (.iconst 1, 1) := by decide +kernel
theorem dX8_drawings_267 : decode cX8_drawings 267 = .ok (.iadd, 1) := by decide +kernel
theorem dX8_drawings_268 : decode cX8_drawings 268 = .ok (.iastore, 1) := by decide +kernel
theorem dX8_drawings_269 : decode cX8_drawings 269 = .ok (.aload_n 0, 1) := by decide +kernel
theorem dX8_drawings_270 : decode cX8_drawings 270 = .ok (.getfield 55, 3) := by decide +kernel
theorem dX8_drawings_273 : decode cX8_drawings 273 = .ok (.iload 4, 2) := by decide +kernel
theorem dX8_drawings_275 : decode cX8_drawings 275 = .ok (.iaload, 1) := by decide +kernel
theorem dX8_drawings_276 : decode cX8_drawings 276 = .ok (.iload_n 3, 1) := by decide +kernel
theorem dX8_drawings_277 : decode cX8_drawings 277 = .ok (.iand, 1) := by decide +kernel
theorem dX8_drawings_278 : decode cX8_drawings 278 = .ok (.istore 5, 2) := by decide +kernel
theorem dX8_drawings_280 : decode cX8_drawings 280 = .ok (.iload_n 3, 1) := by decide +kernel
theorem dX8_drawings_281 : decode cX8_drawings 281 = .ok (.iload 4, 2) := by decide +kernel
theorem dX8_drawings_283 : decode cX8_drawings 283 = .ok (.ishr, 1) := by decide +kernel
theorem dX8_drawings_284 : decode cX8_drawings 284 = .ok (.iconst 1, 1) := by decide +kernel
theorem dX8_drawings_285 : decode cX8_drawings 285 = .ok (.iand, 1) := by decide +kernel
theorem dX8_drawings_286 : decode cX8_drawings 286 = .ok (.iconst 1, 1) := by decide +kernel
theorem dX8_drawings_287 : decode cX8_drawings 287 = .ok (.if_icmp .eq (-184), 3) := by decide +kernel
theorem dX8_drawings_290 : decode cX8_drawings 290 = .ok (.aload_n 0, 1) := by decide +kernel
theorem dX8_drawings_291 : decode cX8_drawings 291 = .ok (.iload 4, 2) := by decide +kernel
theorem dX8_drawings_293 : decode cX8_drawings 293 = .ok (.iload 5, 2) := by decide +kernel
theorem dX8_drawings_295 : decode cX8_drawings 295 = .ok (.invokevirtual 161, 3) := by decide +kernel
theorem dX8_drawings_298 : decode cX8_drawings 298 = .ok (.ifCond .eq (-195), 3) := by decide +kernel
theorem dX8_drawings_301 : decode cX8_drawings 301 = .ok (.aload_n 0, 1) := by decide +kernel
theorem dX8_drawings_302 : decode cX8_drawings 302 = .ok (.iload 4, 2) := by decide +kernel
theorem dX8_drawings_304 : decode cX8_drawings 304 = .ok (.iload_n 2, 1) := by decide +kernel
theorem dX8_drawings_305 : decode cX8_drawings 305 = .ok (.invokevirtual 164, 3) := by decide +kernel
theorem dX8_drawings_308 : decode cX8_drawings 308 = .ok (.ifCond .ne 6, 3) := by decide +kernel
theorem dX8_drawings_311 : decode cX8_drawings 311 = .ok (.goto (-208), 3) := by decide +kernel
theorem dX8_drawings_314 : decode cX8_drawings 314 = .ok (.aload_n 0, 1) := by decide +kernel
theorem dX8_drawings_315 : decode cX8_drawings 315 = .ok (.getfield 43, 3) := by decide +kernel
theorem dX8_drawings_318 : decode cX8_drawings 318 = .ok (.iload_n 2, 1) := by decide +kernel
theorem dX8_drawings_319 : decode cX8_drawings 319 = .ok (.iload 4, 2) := by decide +kernel
theorem dX8_drawings_321 : decode cX8_drawings 321 = .ok (.iastore, 1) := by decide +kernel
theorem dX8_drawings_322 : decode cX8_drawings 322 = .ok (.aload_n 0, 1) := by decide +kernel
theorem dX8_drawings_323 : decode cX8_drawings 323 = .ok (.getfield 49, 3) := by decide +kernel
theorem dX8_drawings_326 : decode cX8_drawings 326 = .ok (.iload 4, 2) := by decide +kernel
theorem dX8_drawings_328 : decode cX8_drawings 328 = .ok (.iload 5, 2) := by decide +kernel
theorem dX8_drawings_330 : decode cX8_drawings 330 = .ok (.iastore, 1) := by decide +kernel
theorem dX8_drawings_331 : decode cX8_drawings 331 = .ok (.iload_n 3, 1) := by decide +kernel
theorem dX8_drawings_332 : decode cX8_drawings 332 = .ok (.iconst 1, 1) := by decide +kernel
theorem dX8_drawings_333 : decode cX8_drawings 333 = .ok (.iload 4, 2) := by decide +kernel
theorem dX8_drawings_335 : decode cX8_drawings 335 = .ok (.ishl, 1) := by decide +kernel
theorem dX8_drawings_336 : decode cX8_drawings 336 = .ok (.ior, 1) := by decide +kernel
theorem dX8_drawings_337 : decode cX8_drawings 337 = .ok (.istore_n 3, 1) := by decide +kernel
theorem dX8_drawings_338 : decode cX8_drawings 338 = .ok (.iinc 2 1, 3) := by decide +kernel
theorem dX8_drawings_341 : decode cX8_drawings 341 = .ok (.aload_n 0, 1) := by decide +kernel
theorem dX8_drawings_342 : decode cX8_drawings 342 = .ok (.getfield 46, 3) := by decide +kernel
theorem dX8_drawings_345 : decode cX8_drawings 345 = .ok (.iload_n 2, 1) := by decide +kernel
theorem dX8_drawings_346 : decode cX8_drawings 346 = .ok (.iconst 0, 1) := by decide +kernel
theorem dX8_drawings_347 : decode cX8_drawings 347 = .ok (.iastore, 1) := by decide +kernel
theorem dX8_drawings_348 : decode cX8_drawings 348 = .ok (.goto (-245), 3) := by decide +kernel
theorem dX8_drawings_351 : decode cX8_drawings 351 = .ok (.iload_n 1, 1) := by decide +kernel
theorem dX8_drawings_352 : decode cX8_drawings 352 = .ok (.ireturn, 1) := by decide +kernel
theorem mz_i_wsX8_alike_5 : (.code yX8_drawings cX8_drawings 6 (some .int) : Cond) ∈ wsX8_alike := mz_mt (mz_ml (mz_ml (mz_mt (mz_mt (mz_mt (mz_mt mz_mh))))))
theorem mz_i_wsX8_alike_28 : (.code yX8_isLeastOrder cX8_isLeastOrder 4 (some .boolean) : Cond) ∈ wsX8_alike := mz_mt (mz_ml (mz_mr (mz_mt (mz_mt (mz_mt mz_mh)))))
theorem mz_i_wsX8_alike_27 : (.selects RX8 yX8_isLeastOrder yX8_isLeastOrder : Cond) ∈ wsX8_alike := mz_mt (mz_ml (mz_mr (mz_mt (mz_mt mz_mh))))
theorem mz_i_wsX8_alike_26 : (.instanceMethod yX8_isLeastOrder : Cond) ∈ wsX8_alike := mz_mt (mz_ml (mz_mr (mz_mt mz_mh)))
theorem mz_i_wsX8_alike_25 : (.methodLink RX8 164 yX8_isLeastOrder : Cond) ∈ wsX8_alike := mz_mt (mz_ml (mz_mr mz_mh))
theorem mz_i_wsX8_alike_24 : (.code yX8_meetsLike cX8_meetsLike 7 (some .boolean) : Cond) ∈ wsX8_alike := mz_mt (mz_ml (mz_ml (mz_mt (mz_mt (mz_mt (mz_mt (mz_mt (mz_mt (mz_mt (mz_mt (mz_mt (mz_mt (mz_mt (mz_mt (mz_mt (mz_mt (mz_mt (mz_mt (mz_mt (mz_mt (mz_mt (mz_mt (mz_mt (mz_mt (mz_mt mz_mh)))))))))))))))))))))))))
theorem mz_i_wsX8_alike_23 : (.selects RX8 yX8_meetsLike yX8_meetsLike : Cond) ∈ wsX8_alike := mz_mt (mz_ml (mz_ml (mz_mt (mz_mt (mz_mt (mz_mt (mz_mt (mz_mt (mz_mt (mz_mt (mz_mt (mz_mt (mz_mt (mz_mt (mz_mt (mz_mt (mz_mt (mz_mt (mz_mt (mz_mt (mz_mt (mz_mt (mz_mt (mz_mt mz_mh))))))))))))))))))))))))
theorem mz_i_wsX8_alike_22 : (.instanceMethod yX8_meetsLike : Cond) ∈ wsX8_alike := mz_mt (mz_ml (mz_ml (mz_mt (mz_mt (mz_mt (mz_mt (mz_mt (mz_mt (mz_mt (mz_mt (mz_mt (mz_mt (mz_mt (mz_mt (mz_mt (mz_mt (mz_mt (mz_mt (mz_mt (mz_mt (mz_mt (mz_mt (mz_mt mz_mh)))))))))))))))))))))))
theorem mz_i_wsX8_alike_21 : (.methodLink RX8 161 yX8_meetsLike : Cond) ∈ wsX8_alike := mz_mt (mz_ml (mz_ml (mz_mt (mz_mt (mz_mt (mz_mt (mz_mt (mz_mt (mz_mt (mz_mt (mz_mt (mz_mt (mz_mt (mz_mt (mz_mt (mz_mt (mz_mt (mz_mt (mz_mt (mz_mt (mz_mt (mz_mt mz_mh))))))))))))))))))))))
theorem mz_i_wsX8_alike_20 : (.code yX8_isThing cX8_isThing 2 (some .boolean) : Cond) ∈ wsX8_alike := mz_mt (mz_ml (mz_ml (mz_mt (mz_mt (mz_mt (mz_mt (mz_mt (mz_mt (mz_mt (mz_mt (mz_mt (mz_mt (mz_mt (mz_mt (mz_mt (mz_mt (mz_mt (mz_mt (mz_mt (mz_mt (mz_mt mz_mh)))))))))))))))))))))
theorem mz_i_wsX8_alike_19 : (.selects RX8 yX8_isThing yX8_isThing : Cond) ∈ wsX8_alike := mz_mt (mz_ml (mz_ml (mz_mt (mz_mt (mz_mt (mz_mt (mz_mt (mz_mt (mz_mt (mz_mt (mz_mt (mz_mt (mz_mt (mz_mt (mz_mt (mz_mt (mz_mt (mz_mt (mz_mt (mz_mt mz_mh))))))))))))))))))))
theorem mz_i_wsX8_alike_18 : (.instanceMethod yX8_isThing : Cond) ∈ wsX8_alike := mz_mt (mz_ml (mz_ml (mz_mt (mz_mt (mz_mt (mz_mt (mz_mt (mz_mt (mz_mt (mz_mt (mz_mt (mz_mt (mz_mt (mz_mt (mz_mt (mz_mt (mz_mt (mz_mt (mz_mt mz_mh)))))))))))))))))))
theorem mz_i_wsX8_alike_17 : (.methodLink RX8 71 yX8_isThing : Cond) ∈ wsX8_alike := mz_mt (mz_ml (mz_ml (mz_mt (mz_mt (mz_mt (mz_mt (mz_mt (mz_mt (mz_mt (mz_mt (mz_mt (mz_mt (mz_mt (mz_mt (mz_mt (mz_mt (mz_mt (mz_mt mz_mh))))))))))))))))))
theorem mz_i_wsX8_alike_16 : (.code yX8_has cX8_has 3 (some .boolean) : Cond) ∈ wsX8_alike := mz_mt (mz_ml (mz_ml (mz_mt (mz_mt (mz_mt (mz_mt (mz_mt (mz_mt (mz_mt (mz_mt (mz_mt (mz_mt (mz_mt (mz_mt (mz_mt (mz_mt (mz_mt mz_mh)))))))))))))))))
theorem mz_i_wsX8_alike_4 : (.initialized RX8 : Cond) ∈ wsX8_alike := mz_mt (mz_ml (mz_ml (mz_mt (mz_mt (mz_mt mz_mh)))))
theorem mz_i_wsX8_alike_15 : (.selects RX8 yX8_has yX8_has : Cond) ∈ wsX8_alike := mz_mt (mz_ml (mz_ml (mz_mt (mz_mt (mz_mt (mz_mt (mz_mt (mz_mt (mz_mt (mz_mt (mz_mt (mz_mt (mz_mt (mz_mt (mz_mt (mz_mt mz_mh))))))))))))))))
theorem mz_i_wsX8_alike_14 : (.instanceMethod yX8_has : Cond) ∈ wsX8_alike := mz_mt (mz_ml (mz_ml (mz_mt (mz_mt (mz_mt (mz_mt (mz_mt (mz_mt (mz_mt (mz_mt (mz_mt (mz_mt (mz_mt (mz_mt (mz_mt mz_mh)))))))))))))))
theorem mz_i_wsX8_alike_13 : (.methodLink RX8 78 yX8_has : Cond) ∈ wsX8_alike := mz_mt (mz_ml (mz_ml (mz_mt (mz_mt (mz_mt (mz_mt (mz_mt (mz_mt (mz_mt (mz_mt (mz_mt (mz_mt (mz_mt (mz_mt mz_mh))))))))))))))
theorem mz_i_wsX8_alike_12 : (.fieldLink RX8 43 "MadeItSoModel" "order" "[I" : Cond) ∈ wsX8_alike := mz_mt (mz_ml (mz_ml (mz_mt (mz_mt (mz_mt (mz_mt (mz_mt (mz_mt (mz_mt (mz_mt (mz_mt (mz_mt (mz_mt mz_mh)))))))))))))
theorem mz_i_wsX8_alike_11 : (.fieldLink RX8 49 "MadeItSoModel" "parentsThere" "[I" : Cond) ∈ wsX8_alike := mz_mt (mz_ml (mz_ml (mz_mt (mz_mt (mz_mt (mz_mt (mz_mt (mz_mt (mz_mt (mz_mt (mz_mt (mz_mt mz_mh))))))))))))
theorem mz_i_wsX8_alike_10 : (.fieldLink RX8 46 "MadeItSoModel" "choice" "[I" : Cond) ∈ wsX8_alike := mz_mt (mz_ml (mz_ml (mz_mt (mz_mt (mz_mt (mz_mt (mz_mt (mz_mt (mz_mt (mz_mt (mz_mt mz_mh)))))))))))
theorem mz_i_wsX8_alike_9 : (.fieldLink RX8 52 "MadeItSoModel" "isAlways" "[Z" : Cond) ∈ wsX8_alike := mz_mt (mz_ml (mz_ml (mz_mt (mz_mt (mz_mt (mz_mt (mz_mt (mz_mt (mz_mt (mz_mt mz_mh))))))))))
theorem mz_i_wsX8_alike_8 : (.fieldLink RX8 13 "MadeItSoModel" "parents" "[I" : Cond) ∈ wsX8_alike := mz_mt (mz_ml (mz_ml (mz_mt (mz_mt (mz_mt (mz_mt (mz_mt (mz_mt (mz_mt mz_mh)))))))))
theorem mz_i_wsX8_alike_7 : (.fieldLink RX8 55 "MadeItSoModel" "joined" "[I" : Cond) ∈ wsX8_alike := mz_mt (mz_ml (mz_ml (mz_mt (mz_mt (mz_mt (mz_mt (mz_mt (mz_mt mz_mh))))))))
theorem mz_i_wsX8_alike_6 : (.fieldLink RX8 58 "MadeItSoModel" "many" "I" : Cond) ∈ wsX8_alike := mz_mt (mz_ml (mz_ml (mz_mt (mz_mt (mz_mt (mz_mt (mz_mt mz_mh)))))))
theorem mz_f_wsX8_alike_wsX80 : ∀ w ∈ wsX80, w ∈ wsX8_alike := fun _ h => mz_mt (mz_mr h)
set_option maxRecDepth 20000 in
theorem ggX8_alike_X8_drawings : GoodIn wsX8_alike wsX8_drawings := goodIn_sub (mz_fc mz_i_wsX8_alike_5 (mz_fa (mz_fc mz_i_wsX8_alike_6 (mz_fc mz_i_wsX8_alike_7 (mz_fc mz_i_wsX8_alike_8 (mz_fc mz_i_wsX8_alike_9 (mz_fc mz_i_wsX8_alike_10 (mz_fc mz_i_wsX8_alike_11 (mz_fc mz_i_wsX8_alike_12 (mz_fc mz_i_wsX8_alike_13 (mz_fc mz_i_wsX8_alike_14 (mz_fc mz_i_wsX8_alike_15 (mz_fc mz_i_wsX8_alike_4 (mz_fc mz_i_wsX8_alike_16 (mz_fc mz_i_wsX8_alike_17 (mz_fc mz_i_wsX8_alike_18 (mz_fc mz_i_wsX8_alike_19 (mz_fc mz_i_wsX8_alike_20 (mz_fc mz_i_wsX8_alike_21 (mz_fc mz_i_wsX8_alike_22 (mz_fc mz_i_wsX8_alike_23 (mz_fc mz_i_wsX8_alike_24 (mz_fc mz_i_wsX8_alike_25 (mz_fc mz_i_wsX8_alike_26 (mz_fc mz_i_wsX8_alike_27 (mz_fc mz_i_wsX8_alike_28 mz_fn)))))))))))))))))))))))) (mz_f_wsX8_alike_wsX80))) (by decide +kernel)
theorem mz_i_wsX8_alike_3 : (.selects RX8 yX8_drawings yX8_drawings : Cond) ∈ wsX8_alike := mz_mt (mz_ml (mz_ml (mz_mt (mz_mt mz_mh))))
theorem mz_i_wsX8_alike_2 : (.instanceMethod yX8_drawings : Cond) ∈ wsX8_alike := mz_mt (mz_ml (mz_ml (mz_mt mz_mh)))
theorem mz_i_wsX8_alike_1 : (.methodLink RX8 167 yX8_drawings : Cond) ∈ wsX8_alike := mz_mt (mz_ml (mz_ml mz_mh))
set_option maxRecDepth 20000 in
theorem gX8_alike_X8_drawings : GoodIn wsX8_alike (wsV RX8 167 RX8 yX8_drawings wsX8_drawings) := goodIn_app (goodIn_sub (mz_fc mz_i_wsX8_alike_1 (mz_fc mz_i_wsX8_alike_2 (mz_fc mz_i_wsX8_alike_3 (mz_fc mz_i_wsX8_alike_4 mz_fn)))) (by decide +kernel)) ggX8_alike_X8_drawings
theorem dX8_alike_0 : decode cX8_alike 0 = .ok (.aload_n 0, 1) := by decide +kernel
theorem dX8_alike_1 : decode cX8_alike 1 = .ok (.invokevirtual 167, 3) := by decide +kernel
theorem dX8_alike_4 : decode cX8_alike 4 = .ok (.ireturn, 1) := by decide +kernel
theorem mz_i_wsX8_fixed_6 : (.code yX8_has cX8_has 3 (some .boolean) : Cond) ∈ wsX8_fixed := mz_mt (mz_ml (mz_ml (mz_mt (mz_mt (mz_mt (mz_mt (mz_mt mz_mh)))))))
theorem mz_i_wsX8_fixed_12 : (.fieldLink RX8 58 "MadeItSoModel" "many" "I" : Cond) ∈ wsX8_fixed := mz_mt (mz_ml (mz_ml (mz_mt (mz_mt (mz_mt (mz_mt (mz_mt (mz_mt (mz_mt (mz_mt (mz_mt (mz_mt (mz_mt mz_mh)))))))))))))
theorem mz_i_wsX8_fixed_11 : (.code yX8_isThing cX8_isThing 2 (some .boolean) : Cond) ∈ wsX8_fixed := mz_mt (mz_ml (mz_ml (mz_mt (mz_mt (mz_mt (mz_mt (mz_mt (mz_mt (mz_mt (mz_mt (mz_mt (mz_mt mz_mh))))))))))))
theorem mz_i_wsX8_fixed_5 : (.initialized RX8 : Cond) ∈ wsX8_fixed := mz_mt (mz_ml (mz_ml (mz_mt (mz_mt (mz_mt (mz_mt mz_mh))))))
theorem mz_i_wsX8_fixed_10 : (.selects RX8 yX8_isThing yX8_isThing : Cond) ∈ wsX8_fixed := mz_mt (mz_ml (mz_ml (mz_mt (mz_mt (mz_mt (mz_mt (mz_mt (mz_mt (mz_mt (mz_mt (mz_mt mz_mh)))))))))))
theorem mz_i_wsX8_fixed_9 : (.instanceMethod yX8_isThing : Cond) ∈ wsX8_fixed := mz_mt (mz_ml (mz_ml (mz_mt (mz_mt (mz_mt (mz_mt (mz_mt (mz_mt (mz_mt (mz_mt mz_mh))))))))))
theorem mz_i_wsX8_fixed_8 : (.methodLink RX8 71 yX8_isThing : Cond) ∈ wsX8_fixed := mz_mt (mz_ml (mz_ml (mz_mt (mz_mt (mz_mt (mz_mt (mz_mt (mz_mt (mz_mt mz_mh)))))))))
theorem mz_i_wsX8_fixed_7 : (.fieldLink RX8 13 "MadeItSoModel" "parents" "[I" : Cond) ∈ wsX8_fixed := mz_mt (mz_ml (mz_ml (mz_mt (mz_mt (mz_mt (mz_mt (mz_mt (mz_mt mz_mh))))))))
theorem mz_f_wsX8_fixed_wsX80 : ∀ w ∈ wsX80, w ∈ wsX8_fixed := fun _ h => mz_mt (mz_mr h)
set_option maxRecDepth 20000 in
theorem ggX8_fixed_X8_has : GoodIn wsX8_fixed wsX8_has := goodIn_sub (mz_fc mz_i_wsX8_fixed_6 (mz_fa (mz_fc mz_i_wsX8_fixed_7 (mz_fc mz_i_wsX8_fixed_8 (mz_fc mz_i_wsX8_fixed_9 (mz_fc mz_i_wsX8_fixed_10 (mz_fc mz_i_wsX8_fixed_5 (mz_fc mz_i_wsX8_fixed_11 (mz_fc mz_i_wsX8_fixed_12 mz_fn))))))) (mz_f_wsX8_fixed_wsX80))) (by decide +kernel)
theorem mz_i_wsX8_fixed_4 : (.selects RX8 yX8_has yX8_has : Cond) ∈ wsX8_fixed := mz_mt (mz_ml (mz_ml (mz_mt (mz_mt (mz_mt mz_mh)))))
theorem mz_i_wsX8_fixed_3 : (.instanceMethod yX8_has : Cond) ∈ wsX8_fixed := mz_mt (mz_ml (mz_ml (mz_mt (mz_mt mz_mh))))
theorem mz_i_wsX8_fixed_2 : (.methodLink RX8 78 yX8_has : Cond) ∈ wsX8_fixed := mz_mt (mz_ml (mz_ml (mz_mt mz_mh)))
set_option maxRecDepth 20000 in
theorem gX8_fixed_X8_has : GoodIn wsX8_fixed (wsV RX8 78 RX8 yX8_has wsX8_has) := goodIn_app (goodIn_sub (mz_fc mz_i_wsX8_fixed_2 (mz_fc mz_i_wsX8_fixed_3 (mz_fc mz_i_wsX8_fixed_4 (mz_fc mz_i_wsX8_fixed_5 mz_fn)))) (by decide +kernel)) ggX8_fixed_X8_has
theorem mz_i_wsX8_fixed_16 : (.code yX8_drawings cX8_drawings 6 (some .int) : Cond) ∈ wsX8_fixed := mz_mt (mz_ml (mz_ml (mz_mt (mz_mt (mz_mt (mz_mt (mz_mt (mz_mt (mz_mt (mz_mt (mz_mt (mz_mt (mz_mt (mz_mt (mz_mt (mz_mt (mz_mt mz_mh)))))))))))))))))
theorem mz_i_wsX8_fixed_28 : (.code yX8_isLeastOrder cX8_isLeastOrder 4 (some .boolean) : Cond) ∈ wsX8_fixed := mz_mt (mz_ml (mz_mr (mz_mt (mz_mt (mz_mt mz_mh)))))
theorem mz_i_wsX8_fixed_27 : (.selects RX8 yX8_isLeastOrder yX8_isLeastOrder : Cond) ∈ wsX8_fixed := mz_mt (mz_ml (mz_mr (mz_mt (mz_mt mz_mh))))
theorem mz_i_wsX8_fixed_26 : (.instanceMethod yX8_isLeastOrder : Cond) ∈ wsX8_fixed := mz_mt (mz_ml (mz_mr (mz_mt mz_mh)))
theorem mz_i_wsX8_fixed_25 : (.methodLink RX8 164 yX8_isLeastOrder : Cond) ∈ wsX8_fixed := mz_mt (mz_ml (mz_mr mz_mh))
theorem mz_i_wsX8_fixed_24 : (.code yX8_meetsLike cX8_meetsLike 7 (some .boolean) : Cond) ∈ wsX8_fixed := mz_mt (mz_ml (mz_ml (mz_mt (mz_mt (mz_mt (mz_mt (mz_mt (mz_mt (mz_mt (mz_mt (mz_mt (mz_mt (mz_mt (mz_mt (mz_mt (mz_mt (mz_mt (mz_mt (mz_mt (mz_mt (mz_mt (mz_mt (mz_mt (mz_mt (mz_mt mz_mh)))))))))))))))))))))))))
theorem mz_i_wsX8_fixed_23 : (.selects RX8 yX8_meetsLike yX8_meetsLike : Cond) ∈ wsX8_fixed := mz_mt (mz_ml (mz_ml (mz_mt (mz_mt (mz_mt (mz_mt (mz_mt (mz_mt (mz_mt (mz_mt (mz_mt (mz_mt (mz_mt (mz_mt (mz_mt (mz_mt (mz_mt (mz_mt (mz_mt (mz_mt (mz_mt (mz_mt (mz_mt (mz_mt mz_mh))))))))))))))))))))))))
theorem mz_i_wsX8_fixed_22 : (.instanceMethod yX8_meetsLike : Cond) ∈ wsX8_fixed := mz_mt (mz_ml (mz_ml (mz_mt (mz_mt (mz_mt (mz_mt (mz_mt (mz_mt (mz_mt (mz_mt (mz_mt (mz_mt (mz_mt (mz_mt (mz_mt (mz_mt (mz_mt (mz_mt (mz_mt (mz_mt (mz_mt (mz_mt (mz_mt mz_mh)))))))))))))))))))))))
theorem mz_i_wsX8_fixed_21 : (.methodLink RX8 161 yX8_meetsLike : Cond) ∈ wsX8_fixed := mz_mt (mz_ml (mz_ml (mz_mt (mz_mt (mz_mt (mz_mt (mz_mt (mz_mt (mz_mt (mz_mt (mz_mt (mz_mt (mz_mt (mz_mt (mz_mt (mz_mt (mz_mt (mz_mt (mz_mt (mz_mt (mz_mt (mz_mt mz_mh))))))))))))))))))))))
theorem mz_i_wsX8_fixed_20 : (.fieldLink RX8 43 "MadeItSoModel" "order" "[I" : Cond) ∈ wsX8_fixed := mz_mt (mz_ml (mz_ml (mz_mt (mz_mt (mz_mt (mz_mt (mz_mt (mz_mt (mz_mt (mz_mt (mz_mt (mz_mt (mz_mt (mz_mt (mz_mt (mz_mt (mz_mt (mz_mt (mz_mt (mz_mt (mz_mt mz_mh)))))))))))))))))))))
theorem mz_i_wsX8_fixed_19 : (.fieldLink RX8 49 "MadeItSoModel" "parentsThere" "[I" : Cond) ∈ wsX8_fixed := mz_mt (mz_ml (mz_ml (mz_mt (mz_mt (mz_mt (mz_mt (mz_mt (mz_mt (mz_mt (mz_mt (mz_mt (mz_mt (mz_mt (mz_mt (mz_mt (mz_mt (mz_mt (mz_mt (mz_mt (mz_mt mz_mh))))))))))))))))))))
theorem mz_i_wsX8_fixed_18 : (.fieldLink RX8 46 "MadeItSoModel" "choice" "[I" : Cond) ∈ wsX8_fixed := mz_mt (mz_ml (mz_ml (mz_mt (mz_mt (mz_mt (mz_mt (mz_mt (mz_mt (mz_mt (mz_mt (mz_mt (mz_mt (mz_mt (mz_mt (mz_mt (mz_mt (mz_mt (mz_mt (mz_mt mz_mh)))))))))))))))))))
theorem mz_i_wsX8_fixed_1 : (.fieldLink RX8 52 "MadeItSoModel" "isAlways" "[Z" : Cond) ∈ wsX8_fixed := mz_mt (mz_ml (mz_ml mz_mh))
theorem mz_i_wsX8_fixed_17 : (.fieldLink RX8 55 "MadeItSoModel" "joined" "[I" : Cond) ∈ wsX8_fixed := mz_mt (mz_ml (mz_ml (mz_mt (mz_mt (mz_mt (mz_mt (mz_mt (mz_mt (mz_mt (mz_mt (mz_mt (mz_mt (mz_mt (mz_mt (mz_mt (mz_mt (mz_mt (mz_mt mz_mh))))))))))))))))))
set_option maxRecDepth 20000 in
theorem ggX8_fixed_X8_drawings : GoodIn wsX8_fixed wsX8_drawings := goodIn_sub (mz_fc mz_i_wsX8_fixed_16 (mz_fa (mz_fc mz_i_wsX8_fixed_12 (mz_fc mz_i_wsX8_fixed_17 (mz_fc mz_i_wsX8_fixed_7 (mz_fc mz_i_wsX8_fixed_1 (mz_fc mz_i_wsX8_fixed_18 (mz_fc mz_i_wsX8_fixed_19 (mz_fc mz_i_wsX8_fixed_20 (mz_fc mz_i_wsX8_fixed_2 (mz_fc mz_i_wsX8_fixed_3 (mz_fc mz_i_wsX8_fixed_4 (mz_fc mz_i_wsX8_fixed_5 (mz_fc mz_i_wsX8_fixed_6 (mz_fc mz_i_wsX8_fixed_8 (mz_fc mz_i_wsX8_fixed_9 (mz_fc mz_i_wsX8_fixed_10 (mz_fc mz_i_wsX8_fixed_11 (mz_fc mz_i_wsX8_fixed_21 (mz_fc mz_i_wsX8_fixed_22 (mz_fc mz_i_wsX8_fixed_23 (mz_fc mz_i_wsX8_fixed_24 (mz_fc mz_i_wsX8_fixed_25 (mz_fc mz_i_wsX8_fixed_26 (mz_fc mz_i_wsX8_fixed_27 (mz_fc mz_i_wsX8_fixed_28 mz_fn)))))))))))))))))))))))) (mz_f_wsX8_fixed_wsX80))) (by decide +kernel)
theorem mz_i_wsX8_fixed_15 : (.selects RX8 yX8_drawings yX8_drawings : Cond) ∈ wsX8_fixed := mz_mt (mz_ml (mz_ml (mz_mt (mz_mt (mz_mt (mz_mt (mz_mt (mz_mt (mz_mt (mz_mt (mz_mt (mz_mt (mz_mt (mz_mt (mz_mt (mz_mt mz_mh))))))))))))))))
theorem mz_i_wsX8_fixed_14 : (.instanceMethod yX8_drawings : Cond) ∈ wsX8_fixed := mz_mt (mz_ml (mz_ml (mz_mt (mz_mt (mz_mt (mz_mt (mz_mt (mz_mt (mz_mt (mz_mt (mz_mt (mz_mt (mz_mt (mz_mt (mz_mt mz_mh)))))))))))))))
theorem mz_i_wsX8_fixed_13 : (.methodLink RX8 167 yX8_drawings : Cond) ∈ wsX8_fixed := mz_mt (mz_ml (mz_ml (mz_mt (mz_mt (mz_mt (mz_mt (mz_mt (mz_mt (mz_mt (mz_mt (mz_mt (mz_mt (mz_mt (mz_mt mz_mh))))))))))))))
set_option maxRecDepth 20000 in
theorem gX8_fixed_X8_drawings : GoodIn wsX8_fixed (wsV RX8 167 RX8 yX8_drawings wsX8_drawings) := goodIn_app (goodIn_sub (mz_fc mz_i_wsX8_fixed_13 (mz_fc mz_i_wsX8_fixed_14 (mz_fc mz_i_wsX8_fixed_15 (mz_fc mz_i_wsX8_fixed_5 mz_fn)))) (by decide +kernel)) ggX8_fixed_X8_drawings
theorem dX8_fixed_0 : decode cX8_fixed 0 = .ok (.aload_n 0, 1) := by decide +kernel
theorem dX8_fixed_1 : decode cX8_fixed 1 = .ok (.iload_n 1, 1) := by decide +kernel
theorem dX8_fixed_2 : decode cX8_fixed 2 = .ok (.iload_n 2, 1) := by decide +kernel
theorem dX8_fixed_3 : decode cX8_fixed 3 = .ok (.invokevirtual 78, 3) := by decide +kernel
theorem dX8_fixed_6 : decode cX8_fixed 6 = .ok (.ifCond .ne 5, 3) := by decide +kernel
theorem dX8_fixed_9 : decode cX8_fixed 9 = .ok (.iconst 0, 1) := by decide +kernel
theorem dX8_fixed_10 : decode cX8_fixed 10 = .ok (.ireturn, 1) := by decide +kernel
theorem dX8_fixed_11 : decode cX8_fixed 11 = .ok (.aload_n 0, 1) := by decide +kernel
theorem dX8_fixed_12 : decode cX8_fixed 12 = .ok (.invokevirtual 167, 3) := by decide +kernel
theorem dX8_fixed_15 : decode cX8_fixed 15 = .ok (.pop, 1) := by decide +kernel
theorem dX8_fixed_16 : decode cX8_fixed 16 = .ok (.aload_n 0, 1) := by decide +kernel
theorem dX8_fixed_17 : decode cX8_fixed 17 = .ok (.getfield 52, 3) := by decide +kernel
theorem dX8_fixed_20 : decode cX8_fixed 20 = .ok (.bipush 8, 2) := by decide +kernel
theorem dX8_fixed_22 : decode cX8_fixed 22 = .ok (.iload_n 1, 1) := by decide +kernel
theorem dX8_fixed_23 : decode cX8_fixed 23 = .ok (.imul, 1) := by decide +kernel
theorem dX8_fixed_24 : decode cX8_fixed 24 = .ok (.iload_n 2, 1) := by decide +kernel
theorem dX8_fixed_25 : decode cX8_fixed 25 = .ok (.iadd, 1) := by decide +kernel
theorem dX8_fixed_26 : decode cX8_fixed 26 = .ok (.baload, 1) := by decide +kernel
theorem dX8_fixed_27 : decode cX8_fixed 27 = .ok (.ireturn, 1) := by decide +kernel
