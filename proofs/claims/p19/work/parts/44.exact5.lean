/-! exact answers: chance -/
set_option maxHeartbeats 1000000 in
set_option maxRecDepth 100000 in
theorem mz_n_common (l : Launch) (dC : Nat → ClassId) (dI : Nat → Nat → Nat) (cI cJ cZ : ClassId) (p0 : Int64) (p1 : Int64) (a : Nat) (b : Nat) (Hq : Heap) (h0 : p0 = lN a) (h1 : p1 = lN b) (hla : a < 2 ^ 63) (hlb : b < 2 ^ 63) : Met l yX7_commonDivisor wsX7_commonDivisor ({ frames := 1, cells := 0, slots := 0, locals := 15 }) (va_Pc [.long p0, .long p1] (fun U => U.heap = Hq ∧ va_P (dC, dI) vwCl [] Hq ∧ va_K (dC, dI) vwCl [(cI, FieldType.int), (cJ, FieldType.long), (cZ, FieldType.boolean)] U ∧ mz_N U)) (va_Ql (fun (r : Int64) (_ : Unit) => r = (if lN (Nat.gcd a b) < 1 then 1 else lN (Nat.gcd a b))) (fun _ t => t.heap = Hq) (fun _ : Nat => False)) 0 0 (fun _ : Nat => False) := by
  refine Met.ofW (cc := cX7_commonDivisor) (maxL := 11) (ret := (some .long)) (by decide) rfl ?_
  intro p e s m args below meth c s₁ B hml hv
  obtain ⟨rfl, hH, hP, hK, hN⟩ := hv
  subst hH
  have hx := B.exec
  have hb := B.bytes
  have hr := B.returns
  have hts := atoms_spec (ws := wsX7_commonDivisor) B.pre
  have hown : s.vm.findClass RX7 = some m.cls := findClass_of_methodNamed B.named
  have hlocks := B.notSynchronized
  have hS : va_S (fun _ : Nat => False) s.heap s.heap [] := va_S.rf
  have hl := lv_entry ([.long p0, .long p1]) (n := 11) (Nat.le_of_ble_eq_true rfl)
  rw [lg_entry_eq]
  generalize (lg_sl ([.long p0, .long p1]) ++ List.replicate (11 - (lg_sl ([.long p0, .long p1])).length) Slot.unset).toArray = ls at hl ⊢
  have hl : lv_has ls 11 [(0, .long p0), (2, .long p1)] := hl
  refine lv_lload_n hx hb dX7_commonDivisor_0 rfl (lv_at hl 0 rfl) ?_
  refine lv_lstore (lv' := [(4, .long p0), (0, .long p0), (2, .long p1)]) hx hb dX7_commonDivisor_1 hl (by decide) rfl (fun ls hl => ?_)
  refine lv_lload_n hx hb dX7_commonDivisor_3 rfl (lv_at hl 2 rfl) ?_
  refine lv_lstore (lv' := [(6, .long p1), (4, .long p0), (0, .long p0), (2, .long p1)]) hx hb dX7_commonDivisor_4 hl (by decide) rfl (fun ls hl => ?_)
  refine lv_iconst (v := 0) hx hb dX7_commonDivisor_6 (by decide +kernel) ?_
  refine lv_istore (lv' := [(8, .int 0), (6, .long p1), (4, .long p0), (0, .long p0), (2, .long p1)]) hx hb dX7_commonDivisor_7 hl (by decide) rfl (fun ls hl => ?_)
  refine mz_loopU (fun k H locs ls => ∃ (i_9 : Nat), ∃ (x6_9 : Int64), ∃ (x4_9 : Int64), i_9 ≤ 100 ∧ (mz_eu a b i_9 x4_9 x6_9) ∧ H = s.heap ∧ va_S (fun _ : Nat => False) s.heap H locs ∧ lv_has ls 11 [(8, .int (nI i_9)), (6, .long x6_9), (4, .long x4_9), (0, .long p0), (2, .long p1)] ∧ k = 100 - i_9) ?_ _ _ _ _ ⟨0, p1, p0, by omega, (Or.inl ⟨rfl, h0, h1⟩), rfl, hS, lv_sub hl [0, 1, 2, 3, 4] rfl, rfl⟩
  intro k_9 H locs ls hI_9 ih_9
  obtain ⟨i_9, x6_9, x4_9, hi_9, he_9, hH_9, hS, hl, hk_9⟩ := hI_9
  subst hH_9
  refine lv_iload hx hb dX7_commonDivisor_9 (lv_at hl 0 rfl) ?_
  refine lv_bipush (v := 100) hx hb dX7_commonDivisor_11 (by decide +kernel) ?_
  refine lv_icmp_ge (tgt := 44) hx hb dX7_commonDivisor_13 (by decide) (fun c_13 => ?_) (fun c_13 => ?_)
  · skip
    have d_13 : 100 ≤ i_9 := (nI_leI (a := 100) (b := i_9) (by omega) (by omega)).mp c_13
    refine lv_lconst (v := 1) hx hb dX7_commonDivisor_44 (by decide +kernel) ?_
    refine lv_lload hx hb dX7_commonDivisor_45 (lv_at hl 2 rfl) ?_
    refine va_mmax_long hx hb (by rw [hml]; exact hl.1.symm) hown (hts (.methodLink RX7 199 Lib.MathLoose.max_long.x) (by decide +kernel)) (hts (.static Lib.MathLoose.max_long.x) (by decide +kernel)) (hts (.initialized "java/lang/Math") (by decide +kernel)) (hts (.code Lib.MathLoose.max_long.x Lib.MathLoose.max_long.code 4 (some .long)) (by decide +kernel)) (Nat.le_of_ble_eq_true rfl) (Nat.le_of_ble_eq_true rfl) (Nat.le_of_ble_eq_true rfl) (Nat.le_of_ble_eq_true rfl) dX7_commonDivisor_47 ?_
    refine lv_topl (fun v_47 ev_47 => ?_)
    refine W.widen (k := 0) (n := 0) (Nat.le_of_ble_eq_true rfl) (Nat.le_of_ble_eq_true rfl) ?_
    exact W.lret (v := v_47) hx hb hr (fun t ht hW => ⟨⟨v_47, (), rfl, (mz_eu_100 hlb (by have h9 := he_9; rw [show i_9 = 100 by omega] at h9; exact h9)).elim, ht⟩, hS.F ht⟩) hS.2.2 dX7_commonDivisor_50
  · skip
    have d_13 : ¬ 100 ≤ i_9 := fun h => c_13 ((nI_leI (a := 100) (b := i_9) (by omega) (by omega)).mpr h)
    refine lv_lload hx hb dX7_commonDivisor_16 (lv_at hl 1 rfl) ?_
    refine lv_lconst (v := 0) hx hb dX7_commonDivisor_18 (by decide +kernel) ?_
    refine W.lcmp hx hb dX7_commonDivisor_19 ?_
    refine lv_if_eq (tgt := 44) hx hb dX7_commonDivisor_20 (by decide) (fun c_20 => ?_) (fun c_20 => ?_)
    · skip
      have d_20 := mz_lc1 c_20
      refine lv_lconst (v := 1) hx hb dX7_commonDivisor_44 (by decide +kernel) ?_
      refine lv_lload hx hb dX7_commonDivisor_45 (lv_at hl 2 rfl) ?_
      refine va_mmax_long hx hb (by rw [hml]; exact hl.1.symm) hown (hts (.methodLink RX7 199 Lib.MathLoose.max_long.x) (by decide +kernel)) (hts (.static Lib.MathLoose.max_long.x) (by decide +kernel)) (hts (.initialized "java/lang/Math") (by decide +kernel)) (hts (.code Lib.MathLoose.max_long.x Lib.MathLoose.max_long.code 4 (some .long)) (by decide +kernel)) (Nat.le_of_ble_eq_true rfl) (Nat.le_of_ble_eq_true rfl) (Nat.le_of_ble_eq_true rfl) (Nat.le_of_ble_eq_true rfl) dX7_commonDivisor_47 ?_
      refine lv_topl (fun v_47 ev_47 => ?_)
      refine W.widen (k := 0) (n := 0) (Nat.le_of_ble_eq_true rfl) (Nat.le_of_ble_eq_true rfl) ?_
      exact W.lret (v := v_47) hx hb hr (fun t ht hW => ⟨⟨v_47, (), rfl, (by rw [ev_47, mz_eu_end hlb he_9 d_20]), ht⟩, hS.F ht⟩) hS.2.2 dX7_commonDivisor_50
    · skip
      have d_20 := mz_lc0 c_20
      refine lv_lload hx hb dX7_commonDivisor_23 (lv_at hl 2 rfl) ?_
      refine lv_lload hx hb dX7_commonDivisor_25 (lv_at hl 1 rfl) ?_
      refine lv_lrem hx hb dX7_commonDivisor_27 (by first | assumption | omega) ?_
      refine lv_topl (fun v_27 ev_27 => ?_)
      refine lv_lstore (lv' := [(9, .long v_27), (8, .int (nI i_9)), (6, .long x6_9), (4, .long x4_9), (0, .long p0), (2, .long p1)]) hx hb dX7_commonDivisor_28 hl (by decide) rfl (fun ls hl => ?_)
      refine lv_lload hx hb dX7_commonDivisor_30 (lv_at hl 2 rfl) ?_
      refine lv_lstore (lv' := [(4, .long x6_9), (9, .long v_27), (8, .int (nI i_9)), (6, .long x6_9), (0, .long p0), (2, .long p1)]) hx hb dX7_commonDivisor_32 hl (by decide) rfl (fun ls hl => ?_)
      refine lv_lload hx hb dX7_commonDivisor_34 (lv_at hl 1 rfl) ?_
      refine lv_lstore (lv' := [(6, .long v_27), (4, .long x6_9), (9, .long v_27), (8, .int (nI i_9)), (0, .long p0), (2, .long p1)]) hx hb dX7_commonDivisor_36 hl (by decide) rfl (fun ls hl => ?_)
      refine lv_iinc (v := (nI (i_9 + 1))) (lv' := [(8, .int (nI (i_9 + 1))), (6, .long v_27), (4, .long x6_9), (9, .long v_27), (0, .long p0), (2, .long p1)]) hx hb dX7_commonDivisor_38 hl (k := 3) rfl (nI_1 _) (by decide) rfl (fun ls hl => ?_)
      refine lv_goto (tgt := 9) hx hb dX7_commonDivisor_41 (by decide) ?_
      exact ih_9 _ (by omega) _ _ _ ⟨(i_9 + 1), v_27, x6_9, by omega, (by rw [ev_27]; exact mz_eu_s hla hlb he_9 d_20), rfl, hS, lv_sub hl [0, 1, 2, 4, 5] rfl, rfl⟩
set_option maxHeartbeats 1000000 in
set_option maxRecDepth 100000 in
theorem mz_n_shared (l : Launch) (dC : Nat → ClassId) (dI : Nat → Nat → Nat) (cI cJ cZ : ClassId) (p0 : Int64) (p1 : Int64) (a : Nat) (b : Nat) (Hq : Heap) (h0 : p0 = lN a) (h1 : p1 = lN b) (hla : a < 2 ^ 63) (hlb : b < 2 ^ 63) : Met l yX8_shared wsX8_shared ({ frames := 0, cells := 0, slots := 0, locals := 0 }) (va_Pc [.long p0, .long p1] (fun U => U.heap = Hq ∧ va_P (dC, dI) vwCl [] Hq ∧ va_K (dC, dI) vwCl [(cI, FieldType.int), (cJ, FieldType.long), (cZ, FieldType.boolean)] U ∧ mz_N U)) (va_Ql (fun (r : Int64) (_ : Unit) => r = (lN (Nat.gcd a b))) (fun _ t => t.heap = Hq) (fun _ : Nat => False)) 0 0 (fun _ : Nat => False) := by
  refine Met.ofW (cc := cX8_shared) (maxL := 10) (ret := (some .long)) (by decide) rfl ?_
  intro p e s m args below meth c s₁ B hml hv
  obtain ⟨rfl, hH, hP, hK, hN⟩ := hv
  subst hH
  have hx := B.exec
  have hb := B.bytes
  have hr := B.returns
  have hts := atoms_spec (ws := wsX8_shared) B.pre
  have hown : s.vm.findClass RX8 = some m.cls := findClass_of_methodNamed B.named
  have hlocks := B.notSynchronized
  have hS : va_S (fun _ : Nat => False) s.heap s.heap [] := va_S.rf
  have hl := lv_entry ([.long p0, .long p1]) (n := 10) (Nat.le_of_ble_eq_true rfl)
  rw [lg_entry_eq]
  generalize (lg_sl ([.long p0, .long p1]) ++ List.replicate (10 - (lg_sl ([.long p0, .long p1])).length) Slot.unset).toArray = ls at hl ⊢
  have hl : lv_has ls 10 [(0, .long p0), (2, .long p1)] := hl
  refine lv_lload_n hx hb dX8_shared_0 rfl (lv_at hl 0 rfl) ?_
  refine lv_lstore (lv' := [(4, .long p0), (0, .long p0), (2, .long p1)]) hx hb dX8_shared_1 hl (by decide) rfl (fun ls hl => ?_)
  refine lv_lload_n hx hb dX8_shared_3 rfl (lv_at hl 2 rfl) ?_
  refine lv_lstore (lv' := [(6, .long p1), (4, .long p0), (0, .long p0), (2, .long p1)]) hx hb dX8_shared_4 hl (by decide) rfl (fun ls hl => ?_)
  refine mz_loopU (fun k H locs ls => ∃ (x6_6 : Int64), ∃ (x4_6 : Int64), (mz_es a b x4_6 x6_6) ∧ H = s.heap ∧ va_S (fun _ : Nat => False) s.heap H locs ∧ lv_has ls 10 [(6, .long x6_6), (4, .long x4_6), (0, .long p0), (2, .long p1)] ∧ k = x6_6.toInt.natAbs) ?_ _ _ _ _ ⟨p1, p0, ⟨a, b, h0, h1, hla, hlb, rfl⟩, rfl, hS, lv_sub hl [0, 1, 2, 3] rfl, rfl⟩
  intro k_6 H locs ls hI_6 ih_6
  obtain ⟨x6_6, x4_6, he_6, hH_6, hS, hl, hk_6⟩ := hI_6
  subst hH_6
  refine lv_lload hx hb dX8_shared_6 (lv_at hl 0 rfl) ?_
  refine lv_lconst (v := 0) hx hb dX8_shared_8 (by decide +kernel) ?_
  refine W.lcmp hx hb dX8_shared_9 ?_
  refine lv_if_eq (tgt := 31) hx hb dX8_shared_10 (by decide) (fun c_10 => ?_) (fun c_10 => ?_)
  · skip
    have d_10 := mz_lc1 c_10
    refine lv_lload hx hb dX8_shared_31 (lv_at hl 1 rfl) ?_
    refine W.widen (k := 0) (n := 0) (Nat.le_of_ble_eq_true rfl) (Nat.le_of_ble_eq_true rfl) ?_
    exact W.lret (v := x4_6) hx hb hr (fun t ht hW => ⟨⟨x4_6, (), rfl, (mz_es_end he_6 d_10), ht⟩, hS.F ht⟩) hS.2.2 dX8_shared_33
  · skip
    have d_10 := mz_lc0 c_10
    refine lv_lload hx hb dX8_shared_13 (lv_at hl 1 rfl) ?_
    refine lv_lload hx hb dX8_shared_15 (lv_at hl 0 rfl) ?_
    refine lv_lrem hx hb dX8_shared_17 (by first | assumption | omega) ?_
    refine lv_topl (fun v_17 ev_17 => ?_)
    refine lv_lstore (lv' := [(8, .long v_17), (6, .long x6_6), (4, .long x4_6), (0, .long p0), (2, .long p1)]) hx hb dX8_shared_18 hl (by decide) rfl (fun ls hl => ?_)
    refine lv_lload hx hb dX8_shared_20 (lv_at hl 1 rfl) ?_
    refine lv_lstore (lv' := [(4, .long x6_6), (8, .long v_17), (6, .long x6_6), (0, .long p0), (2, .long p1)]) hx hb dX8_shared_22 hl (by decide) rfl (fun ls hl => ?_)
    refine lv_lload hx hb dX8_shared_24 (lv_at hl 1 rfl) ?_
    refine lv_lstore (lv' := [(6, .long v_17), (4, .long x6_6), (8, .long v_17), (0, .long p0), (2, .long p1)]) hx hb dX8_shared_26 hl (by decide) rfl (fun ls hl => ?_)
    refine lv_goto (tgt := 6) hx hb dX8_shared_28 (by decide) ?_
    exact ih_6 _ (by rw [hk_6, ev_17]; exact mz_lrem d_10) _ _ _ ⟨v_17, x6_6, (by rw [ev_17]; exact mz_es_s he_6 d_10), rfl, hS, lv_sub hl [0, 1, 3, 4] rfl, rfl⟩
set_option maxHeartbeats 1000000 in
set_option maxRecDepth 100000 in
theorem mz_n_clash (l : Launch) (dC : Nat → ClassId) (dI : Nat → Nat → Nat) (cI cJ cZ : ClassId) (p0 : Int32) (p1 : Int32) (Hq : Heap)  : Met l yX7_clash wsX7_clash ({ frames := 1, cells := 0, slots := 0, locals := 20 }) (va_Pc [.int p0, .int p1] (fun U => U.heap = Hq ∧ va_P (dC, dI) vwCl [] Hq ∧ va_K (dC, dI) vwCl [(cI, FieldType.int), (cJ, FieldType.long), (cZ, FieldType.boolean)] U ∧ mz_N U)) (va_Qi (fun (r : Int32) (_ : Unit) => (r = 1 ∧ mz_clx p0 p1) ∨ (r = 0 ∧ ¬ mz_clx p0 p1)) (fun _ t => t.heap = Hq) (fun _ : Nat => False)) 0 0 (fun _ : Nat => False) := by
  refine Met.ofW (cc := cX7_clash) (maxL := 2) (ret := (some .boolean)) (by decide) rfl ?_
  intro p e s m args below meth c s₁ B hml hv
  obtain ⟨rfl, hH, hP, hK, hN⟩ := hv
  subst hH
  have hx := B.exec
  have hb := B.bytes
  have hr := B.returns
  have hts := atoms_spec (ws := wsX7_clash) B.pre
  have hown : s.vm.findClass RX7 = some m.cls := findClass_of_methodNamed B.named
  have hlocks := B.notSynchronized
  have hS : va_S (fun _ : Nat => False) s.heap s.heap [] := va_S.rf
  have hl := lv_entry ([.int p0, .int p1]) (n := 2) (Nat.le_of_ble_eq_true rfl)
  rw [lg_entry_eq]
  generalize (lg_sl ([.int p0, .int p1]) ++ List.replicate (2 - (lg_sl ([.int p0, .int p1])).length) Slot.unset).toArray = ls at hl ⊢
  have hl : lv_has ls 2 [(0, .int p0), (1, .int p1)] := hl
  refine lv_iload_n hx hb dX7_clash_0 rfl (lv_at hl 0 rfl) ?_
  have hPc := hP.sub (ws' := []) [] rfl
  refine va_calli (va_runS (As := [.int p0]) (rest := []) ⟨hx, hb, hml, hown, hts⟩ (mz_h_heapOf l dC dI cI cJ cZ p0 s.heap ) (va_cwS 1 hts gX7_clash_X7_heapOf rfl rfl rfl (by decide +kernel) ⟨Nat.le_of_ble_eq_true rfl, Nat.le_of_ble_eq_true rfl⟩) ⟨fun a U g mk q => mz_blP q, fun U hU hW => ⟨rfl, hU, hPc, va_K.moved hW.alike hK, mz_nw hW hN⟩⟩ rfl rfl hl.1 rfl (lv_room (Nat.le_of_ble_eq_true rfl)) dX7_clash_1 ⟨Nat.le_of_ble_eq_true rfl, Nat.le_of_ble_eq_true rfl⟩) hS (fun q _ h => h.elim) (fun q h => h.elim) (fun r_1 u t H1 locs ht hvm hw_1 hB hz1 hk1 hS => ?_)
  have hE : s.heap = H1 := hB.symm.trans ht
  subst hE
  obtain rfl : r_1 = (p0 &&& 255) := hw_1
  refine lv_iload_n hx hb dX7_clash_4 rfl (lv_at hl 1 rfl) ?_
  have hPc := hP.sub (ws' := []) [] rfl
  refine va_calli (va_runS (As := [.int p1]) (rest := [.int (p0 &&& 255)]) ⟨hx, hb, hml, hown, hts⟩ (mz_h_heapOf l dC dI cI cJ cZ p1 s.heap ) (va_cwS 1 hts gX7_clash_X7_heapOf rfl rfl rfl (by decide +kernel) ⟨Nat.le_of_ble_eq_true rfl, Nat.le_of_ble_eq_true rfl⟩) ⟨fun a U g mk q => mz_blP q, fun U hU hW => ⟨rfl, hU, hPc, va_K.moved hW.alike hK, mz_nw hW hN⟩⟩ rfl rfl hl.1 rfl (lv_room (Nat.le_of_ble_eq_true rfl)) dX7_clash_5 ⟨Nat.le_of_ble_eq_true rfl, Nat.le_of_ble_eq_true rfl⟩) hS (fun q _ h => h.elim) (fun q h => h.elim) (fun r_5 u t H1 locs ht hvm hw_5 hB hz1 hk1 hS => ?_)
  have hE : s.heap = H1 := hB.symm.trans ht
  subst hE
  obtain rfl : r_5 = (p1 &&& 255) := hw_5
  refine lv_iand hx hb dX7_clash_8 ?_
  refine lv_iload_n hx hb dX7_clash_9 rfl (lv_at hl 0 rfl) ?_
  have hPc := hP.sub (ws' := []) [] rfl
  refine va_calli (va_runS (As := [.int p0]) (rest := [.int ((p0 &&& 255) &&& (p1 &&& 255))]) ⟨hx, hb, hml, hown, hts⟩ (mz_h_onesOf l dC dI cI cJ cZ p0 s.heap ) (va_cwS 1 hts gX7_clash_X7_onesOf rfl rfl rfl (by decide +kernel) ⟨Nat.le_of_ble_eq_true rfl, Nat.le_of_ble_eq_true rfl⟩) ⟨fun a U g mk q => mz_blP q, fun U hU hW => ⟨rfl, hU, hPc, va_K.moved hW.alike hK, mz_nw hW hN⟩⟩ rfl rfl hl.1 rfl (lv_room (Nat.le_of_ble_eq_true rfl)) dX7_clash_10 ⟨Nat.le_of_ble_eq_true rfl, Nat.le_of_ble_eq_true rfl⟩) hS (fun q _ h => h.elim) (fun q h => h.elim) (fun r_10 u t H1 locs ht hvm hw_10 hB hz1 hk1 hS => ?_)
  have hE : s.heap = H1 := hB.symm.trans ht
  subst hE
  obtain rfl : r_10 = ((p0 >>> (8 &&& 31)) &&& 255) := hw_10
  refine lv_iload_n hx hb dX7_clash_13 rfl (lv_at hl 1 rfl) ?_
  have hPc := hP.sub (ws' := []) [] rfl
  refine va_calli (va_runS (As := [.int p1]) (rest := [.int ((p0 >>> (8 &&& 31)) &&& 255), .int ((p0 &&& 255) &&& (p1 &&& 255))]) ⟨hx, hb, hml, hown, hts⟩ (mz_h_onesOf l dC dI cI cJ cZ p1 s.heap ) (va_cwS 1 hts gX7_clash_X7_onesOf rfl rfl rfl (by decide +kernel) ⟨Nat.le_of_ble_eq_true rfl, Nat.le_of_ble_eq_true rfl⟩) ⟨fun a U g mk q => mz_blP q, fun U hU hW => ⟨rfl, hU, hPc, va_K.moved hW.alike hK, mz_nw hW hN⟩⟩ rfl rfl hl.1 rfl (lv_room (Nat.le_of_ble_eq_true rfl)) dX7_clash_14 ⟨Nat.le_of_ble_eq_true rfl, Nat.le_of_ble_eq_true rfl⟩) hS (fun q _ h => h.elim) (fun q h => h.elim) (fun r_14 u t H1 locs ht hvm hw_14 hB hz1 hk1 hS => ?_)
  have hE : s.heap = H1 := hB.symm.trans ht
  subst hE
  obtain rfl : r_14 = ((p1 >>> (8 &&& 31)) &&& 255) := hw_14
  refine lv_ixor hx hb dX7_clash_17 ?_
  refine lv_iand hx hb dX7_clash_18 ?_
  refine lv_if_eq (tgt := 26) hx hb dX7_clash_19 (by decide) (fun c_19 => ?_) (fun c_19 => ?_)
  · skip
    refine lv_iconst (v := 0) hx hb dX7_clash_26 (by decide +kernel) ?_
    refine W.widen (k := 0) (n := 0) (Nat.le_of_ble_eq_true rfl) (Nat.le_of_ble_eq_true rfl) ?_
    exact W.zret (v := 0) hx hb hr (mz_nz (by decide +kernel)) (fun t ht hW => ⟨⟨0, (), rfl, Or.inr ⟨rfl, mz_clx_n c_19⟩, ht⟩, hS.F ht⟩) hS.2.2 dX7_clash_27
  · skip
    refine lv_iconst (v := 1) hx hb dX7_clash_22 (by decide +kernel) ?_
    refine lv_goto (tgt := 27) hx hb dX7_clash_23 (by decide) ?_
    refine W.widen (k := 0) (n := 0) (Nat.le_of_ble_eq_true rfl) (Nat.le_of_ble_eq_true rfl) ?_
    exact W.zret (v := 1) hx hb hr (mz_nz (by decide +kernel)) (fun t ht hW => ⟨⟨1, (), rfl, Or.inl ⟨rfl, mz_clx_y c_19⟩, ht⟩, hS.F ht⟩) hS.2.2 dX7_clash_27
set_option maxHeartbeats 1000000 in
set_option maxRecDepth 100000 in
theorem mz_n_x_above (l : Launch) (dC : Nat → ClassId) (dI : Nat → Nat → Nat) (cI cJ cZ : ClassId) (mx : Nat) (dr : Nat) (th : Nat) (bk : Nat) (wt : Nat) (tt : Nat) (lh : Nat) (la : Nat) (sh : Int32) (ab : Int64) (be : Int64) (Hq : Heap)  : Met l yX7_above wsX7_above ({ frames := 0, cells := 0, slots := 0, locals := 0 }) (va_Pc [.ref mx] (fun U => U.heap = Hq ∧ va_P (dC, dI) vwCl [(mx, .inr (7, [.ref dr, .ref th, .ref bk, .ref wt, .ref tt, .ref lh, .ref la, .int sh, .long ab, .long be]))] Hq ∧ va_K (dC, dI) vwCl [(cI, FieldType.int), (cJ, FieldType.long), (cZ, FieldType.boolean)] U ∧ mz_N U)) (va_Ql (fun (r : Int64) (_ : Unit) => r = ab) (fun _ t => t.heap = Hq) (fun _ : Nat => False)) 0 0 (fun _ : Nat => False) := by
  refine Met.ofW (cc := cX7_above) (maxL := 1) (ret := (some .long)) (by decide) rfl ?_
  intro p e s m args below meth c s₁ B hml hv
  obtain ⟨rfl, hH, hP, hK, hN⟩ := hv
  subst hH
  have hx := B.exec
  have hb := B.bytes
  have hr := B.returns
  have hts := atoms_spec (ws := wsX7_above) B.pre
  have hown : s.vm.findClass RX7 = some m.cls := findClass_of_methodNamed B.named
  have hlocks := B.notSynchronized
  have hS : va_S (fun _ : Nat => False) s.heap s.heap [] := va_S.rf
  have hiX7 : ∀ w ∈ u_ws RX7 TX7 10, w ∈ wsX7_above := by decide +kernel
  have hl := lv_entry ([.ref mx]) (n := 1) (Nat.le_of_ble_eq_true rfl)
  rw [lg_entry_eq]
  generalize (lg_sl ([.ref mx]) ++ List.replicate (1 - (lg_sl ([.ref mx])).length) Slot.unset).toArray = ls at hl ⊢
  have hl : lv_has ls 1 [(0, .ref mx)] := hl
  refine lv_aload_n hx hb dX7_above_0 rfl (lv_at hl 0 rfl) ?_
  refine va_get (D := (dC, dI)) (ci := 7) (v := .long ab) (C := RX7) (T := TX7) (N := 10) hx hb hts hiX7 hown hK hP 0 rfl rfl 8 (by decide) (hts (.fieldLink RX7 58 "MadeItSo" "aboveLine" "J") (by decide +kernel)) (fun _ h9 => h9) rfl dX7_above_1 ?_
  refine W.widen (k := 0) (n := 0) (Nat.le_of_ble_eq_true rfl) (Nat.le_of_ble_eq_true rfl) ?_
  exact W.lret (v := ab) hx hb hr (fun t ht hW => ⟨⟨ab, (), rfl, rfl, ht⟩, hS.F ht⟩) hS.2.2 dX7_above_4
set_option maxHeartbeats 1000000 in
set_option maxRecDepth 100000 in
theorem mz_n_x_below (l : Launch) (dC : Nat → ClassId) (dI : Nat → Nat → Nat) (cI cJ cZ : ClassId) (mx : Nat) (dr : Nat) (th : Nat) (bk : Nat) (wt : Nat) (tt : Nat) (lh : Nat) (la : Nat) (sh : Int32) (ab : Int64) (be : Int64) (Hq : Heap)  : Met l yX7_below wsX7_below ({ frames := 0, cells := 0, slots := 0, locals := 0 }) (va_Pc [.ref mx] (fun U => U.heap = Hq ∧ va_P (dC, dI) vwCl [(mx, .inr (7, [.ref dr, .ref th, .ref bk, .ref wt, .ref tt, .ref lh, .ref la, .int sh, .long ab, .long be]))] Hq ∧ va_K (dC, dI) vwCl [(cI, FieldType.int), (cJ, FieldType.long), (cZ, FieldType.boolean)] U ∧ mz_N U)) (va_Ql (fun (r : Int64) (_ : Unit) => r = be) (fun _ t => t.heap = Hq) (fun _ : Nat => False)) 0 0 (fun _ : Nat => False) := by
  refine Met.ofW (cc := cX7_below) (maxL := 1) (ret := (some .long)) (by decide) rfl ?_
  intro p e s m args below meth c s₁ B hml hv
  obtain ⟨rfl, hH, hP, hK, hN⟩ := hv
  subst hH
  have hx := B.exec
  have hb := B.bytes
  have hr := B.returns
  have hts := atoms_spec (ws := wsX7_below) B.pre
  have hown : s.vm.findClass RX7 = some m.cls := findClass_of_methodNamed B.named
  have hlocks := B.notSynchronized
  have hS : va_S (fun _ : Nat => False) s.heap s.heap [] := va_S.rf
  have hiX7 : ∀ w ∈ u_ws RX7 TX7 10, w ∈ wsX7_below := by decide +kernel
  have hl := lv_entry ([.ref mx]) (n := 1) (Nat.le_of_ble_eq_true rfl)
  rw [lg_entry_eq]
  generalize (lg_sl ([.ref mx]) ++ List.replicate (1 - (lg_sl ([.ref mx])).length) Slot.unset).toArray = ls at hl ⊢
  have hl : lv_has ls 1 [(0, .ref mx)] := hl
  refine lv_aload_n hx hb dX7_below_0 rfl (lv_at hl 0 rfl) ?_
  refine va_get (D := (dC, dI)) (ci := 7) (v := .long be) (C := RX7) (T := TX7) (N := 10) hx hb hts hiX7 hown hK hP 0 rfl rfl 9 (by decide) (hts (.fieldLink RX7 62 "MadeItSo" "belowLine" "J") (by decide +kernel)) (fun _ h9 => h9) rfl dX7_below_1 ?_
  refine W.widen (k := 0) (n := 0) (Nat.le_of_ble_eq_true rfl) (Nat.le_of_ble_eq_true rfl) ?_
  exact W.lret (v := be) hx hb hr (fun t ht hW => ⟨⟨be, (), rfl, rfl, ht⟩, hS.F ht⟩) hS.2.2 dX7_below_4
set_option maxHeartbeats 1000000 in
set_option maxRecDepth 100000 in
theorem mz_n_m_above (l : Launch) (dC : Nat → ClassId) (dI : Nat → Nat → Nat) (cI cJ cZ : ClassId) (mo : Nat) (m1 : Nat) (m2 : Nat) (m3 : Nat) (m6 : Nat) (m7 : Nat) (m8 : Nat) (m9 : Nat) (m10 : Nat) (m11 : Nat) (m12 : Nat) (m13 : Nat) (m14 : Nat) (m15 : Nat) (m16 : Nat) (n : Nat) (ka : Int64) (kb : Int64) (Hq : Heap)  : Met l yX8_above wsX8_above ({ frames := 0, cells := 0, slots := 0, locals := 0 }) (va_Pc [.ref mo] (fun U => U.heap = Hq ∧ va_P (dC, dI) vwCl [(mo, .inr (8, [.int (nI n), .ref m1, .ref m2, .ref m3, .long ka, .long kb, .ref m6, .ref m7, .ref m8, .ref m9, .ref m10, .ref m11, .ref m12, .ref m13, .ref m14, .ref m15, .ref m16]))] Hq ∧ va_K (dC, dI) vwCl [(cI, FieldType.int), (cJ, FieldType.long), (cZ, FieldType.boolean)] U ∧ mz_N U)) (va_Ql (fun (r : Int64) (_ : Unit) => r = ka) (fun _ t => t.heap = Hq) (fun _ : Nat => False)) 0 0 (fun _ : Nat => False) := by
  refine Met.ofW (cc := cX8_above) (maxL := 1) (ret := (some .long)) (by decide) rfl ?_
  intro p e s m args below meth c s₁ B hml hv
  obtain ⟨rfl, hH, hP, hK, hN⟩ := hv
  subst hH
  have hx := B.exec
  have hb := B.bytes
  have hr := B.returns
  have hts := atoms_spec (ws := wsX8_above) B.pre
  have hown : s.vm.findClass RX8 = some m.cls := findClass_of_methodNamed B.named
  have hlocks := B.notSynchronized
  have hS : va_S (fun _ : Nat => False) s.heap s.heap [] := va_S.rf
  have hiX8 : ∀ w ∈ u_ws RX8 TX8 17, w ∈ wsX8_above := by decide +kernel
  have hl := lv_entry ([.ref mo]) (n := 1) (Nat.le_of_ble_eq_true rfl)
  rw [lg_entry_eq]
  generalize (lg_sl ([.ref mo]) ++ List.replicate (1 - (lg_sl ([.ref mo])).length) Slot.unset).toArray = ls at hl ⊢
  have hl : lv_has ls 1 [(0, .ref mo)] := hl
  refine lv_aload_n hx hb dX8_above_0 rfl (lv_at hl 0 rfl) ?_
  refine va_get (D := (dC, dI)) (ci := 8) (v := .long ka) (C := RX8) (T := TX8) (N := 17) hx hb hts hiX8 hown hK hP 0 rfl rfl 4 (by decide) (hts (.fieldLink RX8 110 "MadeItSoModel" "above" "J") (by decide +kernel)) (fun _ h9 => h9) rfl dX8_above_1 ?_
  refine W.widen (k := 0) (n := 0) (Nat.le_of_ble_eq_true rfl) (Nat.le_of_ble_eq_true rfl) ?_
  exact W.lret (v := ka) hx hb hr (fun t ht hW => ⟨⟨ka, (), rfl, rfl, ht⟩, hS.F ht⟩) hS.2.2 dX8_above_4
set_option maxHeartbeats 1000000 in
set_option maxRecDepth 100000 in
theorem mz_n_m_below (l : Launch) (dC : Nat → ClassId) (dI : Nat → Nat → Nat) (cI cJ cZ : ClassId) (mo : Nat) (m1 : Nat) (m2 : Nat) (m3 : Nat) (m6 : Nat) (m7 : Nat) (m8 : Nat) (m9 : Nat) (m10 : Nat) (m11 : Nat) (m12 : Nat) (m13 : Nat) (m14 : Nat) (m15 : Nat) (m16 : Nat) (n : Nat) (ka : Int64) (kb : Int64) (Hq : Heap)  : Met l yX8_below wsX8_below ({ frames := 0, cells := 0, slots := 0, locals := 0 }) (va_Pc [.ref mo] (fun U => U.heap = Hq ∧ va_P (dC, dI) vwCl [(mo, .inr (8, [.int (nI n), .ref m1, .ref m2, .ref m3, .long ka, .long kb, .ref m6, .ref m7, .ref m8, .ref m9, .ref m10, .ref m11, .ref m12, .ref m13, .ref m14, .ref m15, .ref m16]))] Hq ∧ va_K (dC, dI) vwCl [(cI, FieldType.int), (cJ, FieldType.long), (cZ, FieldType.boolean)] U ∧ mz_N U)) (va_Ql (fun (r : Int64) (_ : Unit) => r = kb) (fun _ t => t.heap = Hq) (fun _ : Nat => False)) 0 0 (fun _ : Nat => False) := by
  refine Met.ofW (cc := cX8_below) (maxL := 1) (ret := (some .long)) (by decide) rfl ?_
  intro p e s m args below meth c s₁ B hml hv
  obtain ⟨rfl, hH, hP, hK, hN⟩ := hv
  subst hH
  have hx := B.exec
  have hb := B.bytes
  have hr := B.returns
  have hts := atoms_spec (ws := wsX8_below) B.pre
  have hown : s.vm.findClass RX8 = some m.cls := findClass_of_methodNamed B.named
  have hlocks := B.notSynchronized
  have hS : va_S (fun _ : Nat => False) s.heap s.heap [] := va_S.rf
  have hiX8 : ∀ w ∈ u_ws RX8 TX8 17, w ∈ wsX8_below := by decide +kernel
  have hl := lv_entry ([.ref mo]) (n := 1) (Nat.le_of_ble_eq_true rfl)
  rw [lg_entry_eq]
  generalize (lg_sl ([.ref mo]) ++ List.replicate (1 - (lg_sl ([.ref mo])).length) Slot.unset).toArray = ls at hl ⊢
  have hl : lv_has ls 1 [(0, .ref mo)] := hl
  refine lv_aload_n hx hb dX8_below_0 rfl (lv_at hl 0 rfl) ?_
  refine va_get (D := (dC, dI)) (ci := 8) (v := .long kb) (C := RX8) (T := TX8) (N := 17) hx hb hts hiX8 hown hK hP 0 rfl rfl 5 (by decide) (hts (.fieldLink RX8 20 "MadeItSoModel" "below" "J") (by decide +kernel)) (fun _ h9 => h9) rfl dX8_below_1 ?_
  refine W.widen (k := 0) (n := 0) (Nat.le_of_ble_eq_true rfl) (Nat.le_of_ble_eq_true rfl) ?_
  exact W.lret (v := kb) hx hb hr (fun t ht hW => ⟨⟨kb, (), rfl, rfl, ht⟩, hS.F ht⟩) hS.2.2 dX8_below_4
set_option maxHeartbeats 1000000 in
set_option maxRecDepth 100000 in
theorem mz_n_x_chance (l : Launch) (dC : Nat → ClassId) (dI : Nat → Nat → Nat) (cI cJ cZ : ClassId) (mx : Nat) (dr : Nat) (th : Nat) (bk : Nat) (wt : Nat) (tt : Nat) (lh : Nat) (la : Nat) (sh : Int32) (ab : Int64) (be : Int64) (dp : Nat) (dc : Nat) (n : Nat) (fp : Nat → Int32) (bp : Nat) (fb : Nat → Int32) (wo : Nat) (ev : Int32) (fw : Nat → Int64) (p1 : Int32) (p2 : Int32) (p3 : Int32) (sz : Nat) (hn : n ≤ 8) (ha : mz_acy n fp) (hself : ∀ k, k < n → ∀ on, mz_rw (fp k) on 8 < 128) (hbo : mz_bo n fb) (hq1 : mz_stg n p1) (hq2 : mz_stg n p2) (hq3 : mz_stg n p3) : Met l yX7_chance wsX7_chance ({ frames := 4, cells := 0, slots := 0, locals := 98 }) (va_Pc [.ref mx, .int p1, .int p2, .int p3] (fun U => U.heap.size = sz ∧ va_P (dC, dI) vwCl [(mx, .inr (7, [.ref dr, .ref th, .ref bk, .ref wt, .ref tt, .ref lh, .ref la, .int sh, .long ab, .long be])), (dr, .inr (2, [.ref dp, .ref dc, .int (nI n)])), (dp, .inl (cI, 8, .inl fp)), (bk, .inr (1, [.ref bp])), (bp, .inl (cI, 1024, .inl fb)), (wt, .inr (6, [.ref wo, .int ev])), (wo, .inl (cJ, 256, .inr (.inl fw)))] U.heap ∧ va_K (dC, dI) vwCl [(cI, FieldType.int), (cJ, FieldType.long), (cZ, FieldType.boolean)] U ∧ va_D (fun _ => True) [(mx, .inr (7, [.ref dr, .ref th, .ref bk, .ref wt, .ref tt, .ref lh, .ref la, .int sh, .long ab, .long be])), (dr, .inr (2, [.ref dp, .ref dc, .int (nI n)])), (dp, .inl (cI, 8, .inl fp)), (bk, .inr (1, [.ref bp])), (bp, .inl (cI, 1024, .inl fb)), (wt, .inr (6, [.ref wo, .int ev])), (wo, .inl (cJ, 256, .inr (.inl fw)))] ∧ mz_N U)) (va_Qi (fun (r : Int32) (_ : Unit) => (r = 1 ∧ ¬ (mz_cs (mz_wt n fp fb p3) (p2 &&& 255) ((p2 >>> (8 &&& 31)) &&& 255) n) = 0) ∨ (r = 0 ∧ (mz_cs (mz_wt n fp fb p3) (p2 &&& 255) ((p2 >>> (8 &&& 31)) &&& 255) n) = 0)) (fun _ t => ∃ (gab : Int64), ∃ (gbe : Int64), ∃ (gev : Int32), ∃ (gw : Nat → Int64), ((mz_cs (mz_wt n fp fb p3) (p2 &&& 255) ((p2 >>> (8 &&& 31)) &&& 255) n) = 0 → gab = 0 ∧ gbe = 1) ∧ (¬ (mz_cs (mz_wt n fp fb p3) (p2 &&& 255) ((p2 >>> (8 &&& 31)) &&& 255) n) = 0 → gab = (mz_c2 (mz_wt n fp fb p3) (p1 &&& 255) ((p1 >>> (8 &&& 31)) &&& 255) (p2 &&& 255) ((p2 >>> (8 &&& 31)) &&& 255) n) / (mz_gl (mz_cs (mz_wt n fp fb p3) (p2 &&& 255) ((p2 >>> (8 &&& 31)) &&& 255) n) (mz_c2 (mz_wt n fp fb p3) (p1 &&& 255) ((p1 >>> (8 &&& 31)) &&& 255) (p2 &&& 255) ((p2 >>> (8 &&& 31)) &&& 255) n)) ∧ gbe = (mz_cs (mz_wt n fp fb p3) (p2 &&& 255) ((p2 >>> (8 &&& 31)) &&& 255) n) / (mz_gl (mz_cs (mz_wt n fp fb p3) (p2 &&& 255) ((p2 >>> (8 &&& 31)) &&& 255) n) (mz_c2 (mz_wt n fp fb p3) (p1 &&& 255) ((p1 >>> (8 &&& 31)) &&& 255) (p2 &&& 255) ((p2 >>> (8 &&& 31)) &&& 255) n))) ∧ va_P (dC, dI) vwCl [(mx, .inr (7, [.ref dr, .ref th, .ref bk, .ref wt, .ref tt, .ref lh, .ref la, .int sh, .long gab, .long gbe])), (dr, .inr (2, [.ref dp, .ref dc, .int (nI n)])), (dp, .inl (cI, 8, .inl fp)), (bk, .inr (1, [.ref bp])), (bp, .inl (cI, 1024, .inl fb)), (wt, .inr (6, [.ref wo, .int gev])), (wo, .inl (cJ, 256, .inr (.inl gw)))] t.heap ∧ va_D (va_A [(mx, .inr (7, [.ref dr, .ref th, .ref bk, .ref wt, .ref tt, .ref lh, .ref la, .int sh, .long ab, .long be])), (dr, .inr (2, [.ref dp, .ref dc, .int (nI n)])), (dp, .inl (cI, 8, .inl fp)), (bk, .inr (1, [.ref bp])), (bp, .inl (cI, 1024, .inl fb)), (wt, .inr (6, [.ref wo, .int ev])), (wo, .inl (cJ, 256, .inr (.inl fw)))] sz) [(mx, .inr (7, [.ref dr, .ref th, .ref bk, .ref wt, .ref tt, .ref lh, .ref la, .int sh, .long gab, .long gbe])), (dr, .inr (2, [.ref dp, .ref dc, .int (nI n)])), (dp, .inl (cI, 8, .inl fp)), (bk, .inr (1, [.ref bp])), (bp, .inl (cI, 1024, .inl fb)), (wt, .inr (6, [.ref wo, .int gev])), (wo, .inl (cJ, 256, .inr (.inl gw)))]) (va_A [(mx, .inr (7, [.ref dr, .ref th, .ref bk, .ref wt, .ref tt, .ref lh, .ref la, .int sh, .long ab, .long be])), (dr, .inr (2, [.ref dp, .ref dc, .int (nI n)])), (dp, .inl (cI, 8, .inl fp)), (bk, .inr (1, [.ref bp])), (bp, .inl (cI, 1024, .inl fb)), (wt, .inr (6, [.ref wo, .int ev])), (wo, .inl (cJ, 256, .inr (.inl fw)))] sz)) 0 0 (va_A [(mx, .inr (7, [.ref dr, .ref th, .ref bk, .ref wt, .ref tt, .ref lh, .ref la, .int sh, .long ab, .long be])), (dr, .inr (2, [.ref dp, .ref dc, .int (nI n)])), (dp, .inl (cI, 8, .inl fp)), (bk, .inr (1, [.ref bp])), (bp, .inl (cI, 1024, .inl fb)), (wt, .inr (6, [.ref wo, .int ev])), (wo, .inl (cJ, 256, .inr (.inl fw)))] sz) := by
  refine Met.ofW (cc := cX7_chance) (maxL := 10) (ret := (some .int)) (by decide) rfl ?_
  intro p e s m args below meth c s₁ B hml hv
  obtain ⟨rfl, hsz, hP, hK, hD0, hN⟩ := hv
  subst hsz
  have hx := B.exec
  have hb := B.bytes
  have hr := B.returns
  have hts := atoms_spec (ws := wsX7_chance) B.pre
  have hown : s.vm.findClass RX7 = some m.cls := findClass_of_methodNamed B.named
  have hlocks := B.notSynchronized
  have hD := hD0.self (sz := s.heap.size)
  generalize hAe : va_A [(mx, .inr (7, [.ref dr, .ref th, .ref bk, .ref wt, .ref tt, .ref lh, .ref la, .int sh, .long ab, .long be])), (dr, .inr (2, [.ref dp, .ref dc, .int (nI n)])), (dp, .inl (cI, 8, .inl fp)), (bk, .inr (1, [.ref bp])), (bp, .inl (cI, 1024, .inl fb)), (wt, .inr (6, [.ref wo, .int ev])), (wo, .inl (cJ, 256, .inr (.inl fw)))] s.heap.size = A at hD ⊢
  have hA : ∀ q : Nat, s.heap.size ≤ q → A q := fun q h => by rw [← hAe]; exact Or.inr h
  have hS : va_S A s.heap s.heap [] := va_S.rf
  have hiX7 : ∀ w ∈ u_ws RX7 TX7 10, w ∈ wsX7_chance := by decide +kernel
  have hl := lv_entry ([.ref mx, .int p1, .int p2, .int p3]) (n := 10) (Nat.le_of_ble_eq_true rfl)
  rw [lg_entry_eq]
  generalize (lg_sl ([.ref mx, .int p1, .int p2, .int p3]) ++ List.replicate (10 - (lg_sl ([.ref mx, .int p1, .int p2, .int p3])).length) Slot.unset).toArray = ls at hl ⊢
  have hl : lv_has ls 10 [(0, .ref mx), (1, .int p1), (2, .int p2), (3, .int p3)] := hl
  refine lv_aload_n hx hb dX7_chance_0 rfl (lv_at hl 0 rfl) ?_
  refine lv_lconst (v := 0) hx hb dX7_chance_1 (by decide +kernel) ?_
  refine va_put (D := (dC, dI)) (ci := 7) (v := .long 0) (ty := .long) (C := RX7) (T := TX7) (N := 10) hx hb hts hiX7 tyX7 tyX7_ok nmX7 hown hK hP hD hS 0 rfl rfl 8 (by decide) (hts (.fieldLink RX7 58 "MadeItSo" "aboveLine" "J") (by decide +kernel)) (fun _ h9 => h9) rfl (by decide +kernel) rfl rfl (Nat.le_of_ble_eq_true rfl) dX7_chance_2 (fun H locs hP hD hS => ?_)
  have hP : va_P (dC, dI) vwCl [(mx, .inr (7, [.ref dr, .ref th, .ref bk, .ref wt, .ref tt, .ref lh, .ref la, .int sh, .long 0, .long be])), (dr, .inr (2, [.ref dp, .ref dc, .int (nI n)])), (dp, .inl (cI, 8, .inl fp)), (bk, .inr (1, [.ref bp])), (bp, .inl (cI, 1024, .inl fb)), (wt, .inr (6, [.ref wo, .int ev])), (wo, .inl (cJ, 256, .inr (.inl fw)))] H := hP
  have hD : va_D A [(mx, .inr (7, [.ref dr, .ref th, .ref bk, .ref wt, .ref tt, .ref lh, .ref la, .int sh, .long 0, .long be])), (dr, .inr (2, [.ref dp, .ref dc, .int (nI n)])), (dp, .inl (cI, 8, .inl fp)), (bk, .inr (1, [.ref bp])), (bp, .inl (cI, 1024, .inl fb)), (wt, .inr (6, [.ref wo, .int ev])), (wo, .inl (cJ, 256, .inr (.inl fw)))] := hD
  refine lv_aload_n hx hb dX7_chance_5 rfl (lv_at hl 0 rfl) ?_
  refine lv_lconst (v := 1) hx hb dX7_chance_6 (by decide +kernel) ?_
  refine va_put (D := (dC, dI)) (ci := 7) (v := .long 1) (ty := .long) (C := RX7) (T := TX7) (N := 10) hx hb hts hiX7 tyX7 tyX7_ok nmX7 hown hK hP hD hS 0 rfl rfl 9 (by decide) (hts (.fieldLink RX7 62 "MadeItSo" "belowLine" "J") (by decide +kernel)) (fun _ h9 => h9) rfl (by decide +kernel) rfl rfl (Nat.le_of_ble_eq_true rfl) dX7_chance_7 (fun H locs hP hD hS => ?_)
  have hP : va_P (dC, dI) vwCl [(mx, .inr (7, [.ref dr, .ref th, .ref bk, .ref wt, .ref tt, .ref lh, .ref la, .int sh, .long 0, .long 1])), (dr, .inr (2, [.ref dp, .ref dc, .int (nI n)])), (dp, .inl (cI, 8, .inl fp)), (bk, .inr (1, [.ref bp])), (bp, .inl (cI, 1024, .inl fb)), (wt, .inr (6, [.ref wo, .int ev])), (wo, .inl (cJ, 256, .inr (.inl fw)))] H := hP
  have hD : va_D A [(mx, .inr (7, [.ref dr, .ref th, .ref bk, .ref wt, .ref tt, .ref lh, .ref la, .int sh, .long 0, .long 1])), (dr, .inr (2, [.ref dp, .ref dc, .int (nI n)])), (dp, .inl (cI, 8, .inl fp)), (bk, .inr (1, [.ref bp])), (bp, .inl (cI, 1024, .inl fb)), (wt, .inr (6, [.ref wo, .int ev])), (wo, .inl (cJ, 256, .inr (.inl fw)))] := hD
  refine lv_aload_n hx hb dX7_chance_10 rfl (lv_at hl 0 rfl) ?_
  refine lv_iload_n hx hb dX7_chance_11 rfl (lv_at hl 1 rfl) ?_
  have hPc := hP.sub (ws' := [(mx, .inr (7, [.ref dr, .ref th, .ref bk, .ref wt, .ref tt, .ref lh, .ref la, .int sh, .long 0, .long 1])), (dr, .inr (2, [.ref dp, .ref dc, .int (nI n)]))]) [0, 1] rfl
  refine va_calli (va_runV (As := [.int p1]) (rest := []) ⟨hx, hb, hml, hown, hts⟩ (mz_h_x_isSetting l dC dI cI cJ cZ mx dr th bk wt tt lh la sh 0 1 dp dc n p1 H (by first | assumption | omega)) (cwV 1 hts gX7_chance_X7_isSetting rfl rfl rfl (by decide +kernel) ⟨Nat.le_of_ble_eq_true rfl, Nat.le_of_ble_eq_true rfl⟩) ⟨fun a U g mk q => mz_blP q, va_recv hK hPc (ci := 7) (q0 := 0) rfl rfl, fun U hU hW => ⟨rfl, hU, hPc, va_K.moved hW.alike hK, mz_nw hW hN⟩⟩ rfl rfl hl.1 rfl (lv_room (Nat.le_of_ble_eq_true rfl)) dX7_chance_12 ⟨Nat.le_of_ble_eq_true rfl, Nat.le_of_ble_eq_true rfl⟩) hS (fun q _ h => h.elim) (fun q h => h.elim) (fun r_12 u t H1 locs ht hvm hw_12 hB hz1 hk1 hS => ?_)
  have hE : H = H1 := hB.symm.trans ht
  subst hE
  rcases (show (r_12 = 1 ∧ mz_stg n p1) ∨ (r_12 = 0 ∧ ¬ mz_stg n p1) from hw_12) with ⟨rfl, hc_12⟩ | ⟨rfl, hc_12⟩
  · skip
    refine lv_if_eq (tgt := 34) hx hb dX7_chance_15 (by decide) (fun c_15 => absurd c_15 (by decide +kernel)) (fun _ => ?_)
    refine lv_aload_n hx hb dX7_chance_18 rfl (lv_at hl 0 rfl) ?_
    refine lv_iload_n hx hb dX7_chance_19 rfl (lv_at hl 2 rfl) ?_
    have hPc := hP.sub (ws' := [(mx, .inr (7, [.ref dr, .ref th, .ref bk, .ref wt, .ref tt, .ref lh, .ref la, .int sh, .long 0, .long 1])), (dr, .inr (2, [.ref dp, .ref dc, .int (nI n)]))]) [0, 1] rfl
    refine va_calli (va_runV (As := [.int p2]) (rest := []) ⟨hx, hb, hml, hown, hts⟩ (mz_h_x_isSetting l dC dI cI cJ cZ mx dr th bk wt tt lh la sh 0 1 dp dc n p2 H (by first | assumption | omega)) (cwV 1 hts gX7_chance_X7_isSetting rfl rfl rfl (by decide +kernel) ⟨Nat.le_of_ble_eq_true rfl, Nat.le_of_ble_eq_true rfl⟩) ⟨fun a U g mk q => mz_blP q, va_recv hK hPc (ci := 7) (q0 := 0) rfl rfl, fun U hU hW => ⟨rfl, hU, hPc, va_K.moved hW.alike hK, mz_nw hW hN⟩⟩ rfl rfl hl.1 rfl (lv_room (Nat.le_of_ble_eq_true rfl)) dX7_chance_20 ⟨Nat.le_of_ble_eq_true rfl, Nat.le_of_ble_eq_true rfl⟩) hS (fun q _ h => h.elim) (fun q h => h.elim) (fun r_20 u t H1 locs ht hvm hw_20 hB hz1 hk1 hS => ?_)
    have hE : H = H1 := hB.symm.trans ht
    subst hE
    rcases (show (r_20 = 1 ∧ mz_stg n p2) ∨ (r_20 = 0 ∧ ¬ mz_stg n p2) from hw_20) with ⟨rfl, hc_20⟩ | ⟨rfl, hc_20⟩
    · skip
      refine lv_if_eq (tgt := 34) hx hb dX7_chance_23 (by decide) (fun c_23 => absurd c_23 (by decide +kernel)) (fun _ => ?_)
      refine lv_aload_n hx hb dX7_chance_26 rfl (lv_at hl 0 rfl) ?_
      refine lv_iload_n hx hb dX7_chance_27 rfl (lv_at hl 3 rfl) ?_
      have hPc := hP.sub (ws' := [(mx, .inr (7, [.ref dr, .ref th, .ref bk, .ref wt, .ref tt, .ref lh, .ref la, .int sh, .long 0, .long 1])), (dr, .inr (2, [.ref dp, .ref dc, .int (nI n)]))]) [0, 1] rfl
      refine va_calli (va_runV (As := [.int p3]) (rest := []) ⟨hx, hb, hml, hown, hts⟩ (mz_h_x_isSetting l dC dI cI cJ cZ mx dr th bk wt tt lh la sh 0 1 dp dc n p3 H (by first | assumption | omega)) (cwV 1 hts gX7_chance_X7_isSetting rfl rfl rfl (by decide +kernel) ⟨Nat.le_of_ble_eq_true rfl, Nat.le_of_ble_eq_true rfl⟩) ⟨fun a U g mk q => mz_blP q, va_recv hK hPc (ci := 7) (q0 := 0) rfl rfl, fun U hU hW => ⟨rfl, hU, hPc, va_K.moved hW.alike hK, mz_nw hW hN⟩⟩ rfl rfl hl.1 rfl (lv_room (Nat.le_of_ble_eq_true rfl)) dX7_chance_28 ⟨Nat.le_of_ble_eq_true rfl, Nat.le_of_ble_eq_true rfl⟩) hS (fun q _ h => h.elim) (fun q h => h.elim) (fun r_28 u t H1 locs ht hvm hw_28 hB hz1 hk1 hS => ?_)
      have hE : H = H1 := hB.symm.trans ht
      subst hE
      rcases (show (r_28 = 1 ∧ mz_stg n p3) ∨ (r_28 = 0 ∧ ¬ mz_stg n p3) from hw_28) with ⟨rfl, hc_28⟩ | ⟨rfl, hc_28⟩
      · skip
        refine lv_if_ne (tgt := 36) hx hb dX7_chance_31 (by decide) (fun _ => ?_) (fun c_31 => absurd c_31 (by decide +kernel))
        refine lv_aload_n hx hb dX7_chance_36 rfl (lv_at hl 0 rfl) ?_
        refine va_get (D := (dC, dI)) (ci := 7) (v := .ref wt) (C := RX7) (T := TX7) (N := 10) hx hb hts hiX7 hown hK hP 0 rfl rfl 3 (by decide) (hts (.fieldLink RX7 29 "MadeItSo" "weights" "LMadeItSo$Weights;") (by decide +kernel)) (fun _ h9 => h9) rfl dX7_chance_37 ?_
        refine lv_aload_n hx hb dX7_chance_40 rfl (lv_at hl 0 rfl) ?_
        refine va_get (D := (dC, dI)) (ci := 7) (v := .ref dr) (C := RX7) (T := TX7) (N := 10) hx hb hts hiX7 hown hK hP 0 rfl rfl 0 (by decide) (hts (.fieldLink RX7 12 "MadeItSo" "drawing" "LMadeItSo$Drawing;") (by decide +kernel)) (fun _ h9 => h9) rfl dX7_chance_41 ?_
        refine lv_aload_n hx hb dX7_chance_44 rfl (lv_at hl 0 rfl) ?_
        refine va_get (D := (dC, dI)) (ci := 7) (v := .ref bk) (C := RX7) (T := TX7) (N := 10) hx hb hts hiX7 hown hK hP 0 rfl rfl 2 (by decide) (hts (.fieldLink RX7 22 "MadeItSo" "books" "LMadeItSo$Books;") (by decide +kernel)) (fun _ h9 => h9) rfl dX7_chance_45 ?_
        refine lv_iload_n hx hb dX7_chance_48 rfl (lv_at hl 3 rfl) ?_
        have hPc := hP.sub (ws' := [(wt, .inr (6, [.ref wo, .int ev])), (wo, .inl (cJ, 256, .inr (.inl fw))), (dr, .inr (2, [.ref dp, .ref dc, .int (nI n)])), (dp, .inl (cI, 8, .inl fp)), (bk, .inr (1, [.ref bp])), (bp, .inl (cI, 1024, .inl fb))]) [5, 6, 1, 2, 3, 4] rfl
        have hDc := hD.sub (ws' := [(wt, .inr (6, [.ref wo, .int ev])), (wo, .inl (cJ, 256, .inr (.inl fw))), (dr, .inr (2, [.ref dp, .ref dc, .int (nI n)])), (dp, .inl (cI, 8, .inl fp)), (bk, .inr (1, [.ref bp])), (bp, .inl (cI, 1024, .inl fb))]) [5, 6, 1, 2, 3, 4] (by decide) rfl
        have hFc := va_free (wc := [(wt, .inr (6, [.ref wo, .int ev])), (wo, .inl (cJ, 256, .inr (.inl fw))), (dr, .inr (2, [.ref dp, .ref dc, .int (nI n)])), (dp, .inl (cI, 8, .inl fp)), (bk, .inr (1, [.ref bp])), (bp, .inl (cI, 1024, .inl fb))]) hD hS hA [5, 6, 1, 2, 3, 4] rfl
        refine va_callv (va_runV (As := [.ref dr, .ref bk, .int p3]) (rest := []) ⟨hx, hb, hml, hown, hts⟩ (mz_k_weigh l dC dI cI cJ cZ wt wo ev fw dr dp dc n fp bk bp fb p3 H.size (by first | assumption | omega) (by first | assumption | omega) (by first | assumption | omega)) (cwV 3 hts gX7_chance_X6_weigh rfl rfl rfl (by decide +kernel) ⟨Nat.le_of_ble_eq_true rfl, Nat.le_of_ble_eq_true rfl⟩) ⟨fun a U g mk q => mz_blI q, va_recv hK hPc (ci := 6) (q0 := 0) rfl rfl, fun U hU hW => ⟨rfl, by rw [hU], by rw [hU]; exact hPc, va_K.moved hW.alike hK, hDc.weaken (fun _ _ _ _ => trivial), mz_nw hW hN⟩⟩ rfl rfl hl.1 rfl (lv_room (Nat.le_of_ble_eq_true rfl)) dX7_chance_49 ⟨Nat.le_of_ble_eq_true rfl, Nat.le_of_ble_eq_true rfl⟩) hS (fun q _ h => hFc q h) hFc (fun u t H1 locs ht hvm hw_49 hB hz1 hk1 hS => ?_)
        obtain ⟨gw_49, hx0_49, hP1, hD1⟩ := hB
        rw [ht] at hP1
        obtain ⟨hP, hD⟩ := va_join (wr := [(mx, .inr (7, [.ref dr, .ref th, .ref bk, .ref wt, .ref tt, .ref lh, .ref la, .int sh, .long 0, .long 1]))]) (w1 := [(wt, .inr (6, [.ref wo, .int (nI ((2 ^ n - 1)))])), (wo, .inl (cJ, 256, .inr (.inl gw_49))), (dr, .inr (2, [.ref dp, .ref dc, .int (nI n)])), (dp, .inl (cI, 8, .inl fp)), (bk, .inr (1, [.ref bp])), (bp, .inl (cI, 1024, .inl fb))]) hP hD [5, 6, 1, 2, 3, 4] [0] rfl rfl (by decide) (by decide) hk1 hFc hP1 hD1
        generalize H1 = H at hP hS ⊢
        have hP : va_P (dC, dI) vwCl [(mx, .inr (7, [.ref dr, .ref th, .ref bk, .ref wt, .ref tt, .ref lh, .ref la, .int sh, .long 0, .long 1])), (wt, .inr (6, [.ref wo, .int (nI ((2 ^ n - 1)))])), (wo, .inl (cJ, 256, .inr (.inl gw_49))), (dr, .inr (2, [.ref dp, .ref dc, .int (nI n)])), (dp, .inl (cI, 8, .inl fp)), (bk, .inr (1, [.ref bp])), (bp, .inl (cI, 1024, .inl fb))] H := hP
        have hD : va_D A [(mx, .inr (7, [.ref dr, .ref th, .ref bk, .ref wt, .ref tt, .ref lh, .ref la, .int sh, .long 0, .long 1])), (wt, .inr (6, [.ref wo, .int (nI ((2 ^ n - 1)))])), (wo, .inl (cJ, 256, .inr (.inl gw_49))), (dr, .inr (2, [.ref dp, .ref dc, .int (nI n)])), (dp, .inl (cI, 8, .inl fp)), (bk, .inr (1, [.ref bp])), (bp, .inl (cI, 1024, .inl fb))] := hD
        refine lv_aload_n hx hb dX7_chance_52 rfl (lv_at hl 0 rfl) ?_
        refine va_get (D := (dC, dI)) (ci := 7) (v := .ref wt) (C := RX7) (T := TX7) (N := 10) hx hb hts hiX7 hown hK hP 0 rfl rfl 3 (by decide) (hts (.fieldLink RX7 29 "MadeItSo" "weights" "LMadeItSo$Weights;") (by decide +kernel)) (fun _ h9 => h9) rfl dX7_chance_53 ?_
        refine lv_iload_n hx hb dX7_chance_56 rfl (lv_at hl 2 rfl) ?_
        have hPc := hP.sub (ws' := []) [] rfl
        refine va_calli (va_runS (As := [.int p2]) (rest := [.ref wt]) ⟨hx, hb, hml, hown, hts⟩ (mz_h_heapOf l dC dI cI cJ cZ p2 H ) (va_cwS 1 hts gX7_chance_X7_heapOf rfl rfl rfl (by decide +kernel) ⟨Nat.le_of_ble_eq_true rfl, Nat.le_of_ble_eq_true rfl⟩) ⟨fun a U g mk q => mz_blP q, fun U hU hW => ⟨rfl, hU, hPc, va_K.moved hW.alike hK, mz_nw hW hN⟩⟩ rfl rfl hl.1 rfl (lv_room (Nat.le_of_ble_eq_true rfl)) dX7_chance_57 ⟨Nat.le_of_ble_eq_true rfl, Nat.le_of_ble_eq_true rfl⟩) hS (fun q _ h => h.elim) (fun q h => h.elim) (fun r_57 u t H1 locs ht hvm hw_57 hB hz1 hk1 hS => ?_)
        have hE : H = H1 := hB.symm.trans ht
        subst hE
        obtain rfl : r_57 = (p2 &&& 255) := hw_57
        refine lv_iload_n hx hb dX7_chance_60 rfl (lv_at hl 2 rfl) ?_
        have hPc := hP.sub (ws' := []) [] rfl
        refine va_calli (va_runS (As := [.int p2]) (rest := [.int (p2 &&& 255), .ref wt]) ⟨hx, hb, hml, hown, hts⟩ (mz_h_onesOf l dC dI cI cJ cZ p2 H ) (va_cwS 1 hts gX7_chance_X7_onesOf rfl rfl rfl (by decide +kernel) ⟨Nat.le_of_ble_eq_true rfl, Nat.le_of_ble_eq_true rfl⟩) ⟨fun a U g mk q => mz_blP q, fun U hU hW => ⟨rfl, hU, hPc, va_K.moved hW.alike hK, mz_nw hW hN⟩⟩ rfl rfl hl.1 rfl (lv_room (Nat.le_of_ble_eq_true rfl)) dX7_chance_61 ⟨Nat.le_of_ble_eq_true rfl, Nat.le_of_ble_eq_true rfl⟩) hS (fun q _ h => h.elim) (fun q h => h.elim) (fun r_61 u t H1 locs ht hvm hw_61 hB hz1 hk1 hS => ?_)
        have hE : H = H1 := hB.symm.trans ht
        subst hE
        obtain rfl : r_61 = ((p2 >>> (8 &&& 31)) &&& 255) := hw_61
        have hPc := hP.sub (ws' := [(wt, .inr (6, [.ref wo, .int (nI ((2 ^ n - 1)))])), (wo, .inl (cJ, 256, .inr (.inl gw_49)))]) [1, 2] rfl
        refine va_calll (va_runV (As := [.int (p2 &&& 255), .int ((p2 >>> (8 &&& 31)) &&& 255)]) (rest := []) ⟨hx, hb, hml, hown, hts⟩ (mz_k_having l dC dI cI cJ cZ wt wo (2 ^ n - 1) gw_49 (p2 &&& 255) ((p2 >>> (8 &&& 31)) &&& 255) H (by have := mz_2n hn; omega)) (cwV 2 hts gX7_chance_X6_having rfl rfl rfl (by decide +kernel) ⟨Nat.le_of_ble_eq_true rfl, Nat.le_of_ble_eq_true rfl⟩) ⟨fun a U g mk q => mz_blP q, va_recv hK hPc (ci := 6) (q0 := 0) rfl rfl, fun U hU hW => ⟨rfl, hU, hPc, va_K.moved hW.alike hK, mz_nw hW hN⟩⟩ rfl rfl hl.1 rfl (lv_room (Nat.le_of_ble_eq_true rfl)) dX7_chance_64 ⟨Nat.le_of_ble_eq_true rfl, Nat.le_of_ble_eq_true rfl⟩) hS (fun q _ h => h.elim) (fun q h => h.elim) (fun r_64 u t H1 locs ht hvm hw_64 hB hz1 hk1 hS => ?_)
        have hE : H = H1 := hB.symm.trans ht
        subst hE
        obtain rfl : r_64 = (mz_hv (nI (2 ^ n - 1)) gw_49 (p2 &&& 255) ((p2 >>> (8 &&& 31)) &&& 255)) := hw_64
        refine mz_tl (y := (mz_cs (mz_wt n fp fb p3) (p2 &&& 255) ((p2 >>> (8 &&& 31)) &&& 255) n)) (mz_hv_wt hn hq2 hx0_49) ?_
        obtain ⟨a_, ha_, eA_⟩ : ∃ a : Nat, a < 2 ^ 62 ∧ (mz_cs (mz_wt n fp fb p3) (p2 &&& 255) ((p2 >>> (8 &&& 31)) &&& 255) n) = lN a := mz_cs_b hn hbo hself
        obtain ⟨b_, hb_, eB_⟩ : ∃ b : Nat, b < 2 ^ 62 ∧ (mz_c2 (mz_wt n fp fb p3) (p1 &&& 255) ((p1 >>> (8 &&& 31)) &&& 255) (p2 &&& 255) ((p2 >>> (8 &&& 31)) &&& 255) n) = lN b := mz_c2_b hn hbo hself
        refine lv_lstore (lv' := [(4, .long (mz_cs (mz_wt n fp fb p3) (p2 &&& 255) ((p2 >>> (8 &&& 31)) &&& 255) n)), (0, .ref mx), (1, .int p1), (2, .int p2), (3, .int p3)]) hx hb dX7_chance_67 hl (by decide) rfl (fun ls hl => ?_)
        refine lv_lload hx hb dX7_chance_69 (lv_at hl 0 rfl) ?_
        refine lv_lconst (v := 0) hx hb dX7_chance_71 (by decide +kernel) ?_
        refine W.lcmp hx hb dX7_chance_72 ?_
        refine lv_if_gt (tgt := 78) hx hb dX7_chance_73 (by decide) (fun c_73 => ?_) (fun c_73 => ?_)
        · skip
          have hA0_ := mz_pos0 eA_ (by omega) c_73
          have hG0_ := mz_gl_0 eA_ eB_ (by omega) (by omega) hA0_
          refine lv_lconst (v := 0) hx hb dX7_chance_78 (by decide +kernel) ?_
          refine lv_lstore (lv' := [(6, .long 0), (4, .long (mz_cs (mz_wt n fp fb p3) (p2 &&& 255) ((p2 >>> (8 &&& 31)) &&& 255) n)), (0, .ref mx), (1, .int p1), (2, .int p2), (3, .int p3)]) hx hb dX7_chance_79 hl (by decide) rfl (fun ls hl => ?_)
          refine lv_iload_n hx hb dX7_chance_81 rfl (lv_at hl 3 rfl) ?_
          refine lv_iload_n hx hb dX7_chance_82 rfl (lv_at hl 4 rfl) ?_
          have hPc := hP.sub (ws' := []) [] rfl
          refine va_calli (va_runS (As := [.int p1, .int p2]) (rest := []) ⟨hx, hb, hml, hown, hts⟩ (mz_n_clash l dC dI cI cJ cZ p1 p2 H ) (va_cwS 2 hts gX7_chance_X7_clash rfl rfl rfl (by decide +kernel) ⟨Nat.le_of_ble_eq_true rfl, Nat.le_of_ble_eq_true rfl⟩) ⟨fun a U g mk q => mz_blP q, fun U hU hW => ⟨rfl, hU, hPc, va_K.moved hW.alike hK, mz_nw hW hN⟩⟩ rfl rfl hl.1 rfl (lv_room (Nat.le_of_ble_eq_true rfl)) dX7_chance_83 ⟨Nat.le_of_ble_eq_true rfl, Nat.le_of_ble_eq_true rfl⟩) hS (fun q _ h => h.elim) (fun q h => h.elim) (fun r_83 u t H1 locs ht hvm hw_83 hB hz1 hk1 hS => ?_)
          have hE : H = H1 := hB.symm.trans ht
          subst hE
          rcases (show (r_83 = 1 ∧ mz_clx p1 p2) ∨ (r_83 = 0 ∧ ¬ mz_clx p1 p2) from hw_83) with ⟨rfl, hc_83⟩ | ⟨rfl, hc_83⟩
          · skip
            refine lv_if_ne (tgt := 110) hx hb dX7_chance_86 (by decide) (fun _ => ?_) (fun c_86 => absurd c_86 (by decide +kernel))
            refine lv_lload hx hb dX7_chance_110 (lv_at hl 1 rfl) ?_
            refine lv_lload hx hb dX7_chance_112 (lv_at hl 0 rfl) ?_
            refine mz_tl (y := (mz_c2 (mz_wt n fp fb p3) (p1 &&& 255) ((p1 >>> (8 &&& 31)) &&& 255) (p2 &&& 255) ((p2 >>> (8 &&& 31)) &&& 255) n)) (mz_both_0 hn hq1 hc_83).symm ?_
            have hPc := hP.sub (ws' := []) [] rfl
            refine va_calll (va_runS (As := [.long (mz_cs (mz_wt n fp fb p3) (p2 &&& 255) ((p2 >>> (8 &&& 31)) &&& 255) n), .long (mz_c2 (mz_wt n fp fb p3) (p1 &&& 255) ((p1 >>> (8 &&& 31)) &&& 255) (p2 &&& 255) ((p2 >>> (8 &&& 31)) &&& 255) n)]) (rest := []) ⟨hx, hb, hml, hown, hts⟩ (mz_n_common l dC dI cI cJ cZ (mz_cs (mz_wt n fp fb p3) (p2 &&& 255) ((p2 >>> (8 &&& 31)) &&& 255) n) (mz_c2 (mz_wt n fp fb p3) (p1 &&& 255) ((p1 >>> (8 &&& 31)) &&& 255) (p2 &&& 255) ((p2 >>> (8 &&& 31)) &&& 255) n) a_ b_ H eA_ eB_ (by omega) (by omega)) (va_cwS 2 hts gX7_chance_X7_commonDivisor rfl rfl rfl (by decide +kernel) ⟨Nat.le_of_ble_eq_true rfl, Nat.le_of_ble_eq_true rfl⟩) ⟨fun a U g mk q => mz_blP q, fun U hU hW => ⟨rfl, hU, hPc, va_K.moved hW.alike hK, mz_nw hW hN⟩⟩ rfl rfl hl.1 rfl (lv_room (Nat.le_of_ble_eq_true rfl)) dX7_chance_114 ⟨Nat.le_of_ble_eq_true rfl, Nat.le_of_ble_eq_true rfl⟩) hS (fun q _ h => h.elim) (fun q h => h.elim) (fun r_114 u t H1 locs ht hvm hw_114 hB hz1 hk1 hS => ?_)
            have hE : H = H1 := hB.symm.trans ht
            subst hE
            obtain rfl : r_114 = (if lN (Nat.gcd a_ b_) < 1 then 1 else lN (Nat.gcd a_ b_)) := hw_114
            refine mz_tl (y := (mz_gl (mz_cs (mz_wt n fp fb p3) (p2 &&& 255) ((p2 >>> (8 &&& 31)) &&& 255) n) (mz_c2 (mz_wt n fp fb p3) (p1 &&& 255) ((p1 >>> (8 &&& 31)) &&& 255) (p2 &&& 255) ((p2 >>> (8 &&& 31)) &&& 255) n))) (mz_gl_1 eA_ eB_ (by omega) (by omega) hA0_) ?_
            refine lv_lstore (lv' := [(8, .long (mz_gl (mz_cs (mz_wt n fp fb p3) (p2 &&& 255) ((p2 >>> (8 &&& 31)) &&& 255) n) (mz_c2 (mz_wt n fp fb p3) (p1 &&& 255) ((p1 >>> (8 &&& 31)) &&& 255) (p2 &&& 255) ((p2 >>> (8 &&& 31)) &&& 255) n))), (6, .long 0), (4, .long (mz_cs (mz_wt n fp fb p3) (p2 &&& 255) ((p2 >>> (8 &&& 31)) &&& 255) n)), (0, .ref mx), (1, .int p1), (2, .int p2), (3, .int p3)]) hx hb dX7_chance_117 hl (by decide) rfl (fun ls hl => ?_)
            refine lv_aload_n hx hb dX7_chance_119 rfl (lv_at hl 3 rfl) ?_
            refine lv_lload hx hb dX7_chance_120 (lv_at hl 1 rfl) ?_
            refine lv_lload hx hb dX7_chance_122 (lv_at hl 0 rfl) ?_
            refine lv_ldiv hx hb dX7_chance_124 hG0_ ?_
            refine lv_topl (fun v_124 ev_124 => ?_)
            refine va_put (D := (dC, dI)) (ci := 7) (v := .long v_124) (ty := .long) (C := RX7) (T := TX7) (N := 10) hx hb hts hiX7 tyX7 tyX7_ok nmX7 hown hK hP hD hS 0 rfl rfl 8 (by decide) (hts (.fieldLink RX7 58 "MadeItSo" "aboveLine" "J") (by decide +kernel)) (fun _ h9 => h9) rfl (by decide +kernel) rfl rfl (Nat.le_of_ble_eq_true rfl) dX7_chance_125 (fun H locs hP hD hS => ?_)
            have hP : va_P (dC, dI) vwCl [(mx, .inr (7, [.ref dr, .ref th, .ref bk, .ref wt, .ref tt, .ref lh, .ref la, .int sh, .long v_124, .long 1])), (wt, .inr (6, [.ref wo, .int (nI ((2 ^ n - 1)))])), (wo, .inl (cJ, 256, .inr (.inl gw_49))), (dr, .inr (2, [.ref dp, .ref dc, .int (nI n)])), (dp, .inl (cI, 8, .inl fp)), (bk, .inr (1, [.ref bp])), (bp, .inl (cI, 1024, .inl fb))] H := hP
            have hD : va_D A [(mx, .inr (7, [.ref dr, .ref th, .ref bk, .ref wt, .ref tt, .ref lh, .ref la, .int sh, .long v_124, .long 1])), (wt, .inr (6, [.ref wo, .int (nI ((2 ^ n - 1)))])), (wo, .inl (cJ, 256, .inr (.inl gw_49))), (dr, .inr (2, [.ref dp, .ref dc, .int (nI n)])), (dp, .inl (cI, 8, .inl fp)), (bk, .inr (1, [.ref bp])), (bp, .inl (cI, 1024, .inl fb))] := hD
            refine lv_aload_n hx hb dX7_chance_128 rfl (lv_at hl 3 rfl) ?_
            refine lv_lload hx hb dX7_chance_129 (lv_at hl 2 rfl) ?_
            refine lv_lload hx hb dX7_chance_131 (lv_at hl 0 rfl) ?_
            refine lv_ldiv hx hb dX7_chance_133 hG0_ ?_
            refine lv_topl (fun v_133 ev_133 => ?_)
            refine va_put (D := (dC, dI)) (ci := 7) (v := .long v_133) (ty := .long) (C := RX7) (T := TX7) (N := 10) hx hb hts hiX7 tyX7 tyX7_ok nmX7 hown hK hP hD hS 0 rfl rfl 9 (by decide) (hts (.fieldLink RX7 62 "MadeItSo" "belowLine" "J") (by decide +kernel)) (fun _ h9 => h9) rfl (by decide +kernel) rfl rfl (Nat.le_of_ble_eq_true rfl) dX7_chance_134 (fun H locs hP hD hS => ?_)
            have hP : va_P (dC, dI) vwCl [(mx, .inr (7, [.ref dr, .ref th, .ref bk, .ref wt, .ref tt, .ref lh, .ref la, .int sh, .long v_124, .long v_133])), (wt, .inr (6, [.ref wo, .int (nI ((2 ^ n - 1)))])), (wo, .inl (cJ, 256, .inr (.inl gw_49))), (dr, .inr (2, [.ref dp, .ref dc, .int (nI n)])), (dp, .inl (cI, 8, .inl fp)), (bk, .inr (1, [.ref bp])), (bp, .inl (cI, 1024, .inl fb))] H := hP
            have hD : va_D A [(mx, .inr (7, [.ref dr, .ref th, .ref bk, .ref wt, .ref tt, .ref lh, .ref la, .int sh, .long v_124, .long v_133])), (wt, .inr (6, [.ref wo, .int (nI ((2 ^ n - 1)))])), (wo, .inl (cJ, 256, .inr (.inl gw_49))), (dr, .inr (2, [.ref dp, .ref dc, .int (nI n)])), (dp, .inl (cI, 8, .inl fp)), (bk, .inr (1, [.ref bp])), (bp, .inl (cI, 1024, .inl fb))] := hD
            refine lv_iconst (v := 1) hx hb dX7_chance_137 (by decide +kernel) ?_
            have hP9 := hP.sub (ws' := [(mx, .inr (7, [.ref dr, .ref th, .ref bk, .ref wt, .ref tt, .ref lh, .ref la, .int sh, .long v_124, .long v_133])), (dr, .inr (2, [.ref dp, .ref dc, .int (nI n)])), (dp, .inl (cI, 8, .inl fp)), (bk, .inr (1, [.ref bp])), (bp, .inl (cI, 1024, .inl fb)), (wt, .inr (6, [.ref wo, .int (nI ((2 ^ n - 1)))])), (wo, .inl (cJ, 256, .inr (.inl gw_49)))]) [0, 3, 4, 5, 6, 1, 2] rfl
            have hD9 := hD.sub (ws' := [(mx, .inr (7, [.ref dr, .ref th, .ref bk, .ref wt, .ref tt, .ref lh, .ref la, .int sh, .long v_124, .long v_133])), (dr, .inr (2, [.ref dp, .ref dc, .int (nI n)])), (dp, .inl (cI, 8, .inl fp)), (bk, .inr (1, [.ref bp])), (bp, .inl (cI, 1024, .inl fb)), (wt, .inr (6, [.ref wo, .int (nI ((2 ^ n - 1)))])), (wo, .inl (cJ, 256, .inr (.inl gw_49)))]) [0, 3, 4, 5, 6, 1, 2] (by decide) rfl
            refine W.widen (k := 0) (n := 0) (Nat.le_of_ble_eq_true rfl) (Nat.le_of_ble_eq_true rfl) ?_
            exact W.iret (v := 1) hx hb hr (fun t ht hW => ⟨⟨1, (), rfl, Or.inl ⟨rfl, hA0_⟩, v_124, v_133, (nI ((2 ^ n - 1))), gw_49, (fun h => absurd h hA0_), (fun _ => ⟨by rw [ev_124, mz_both_0 hn hq1 hc_83], by rw [ev_133]⟩), by rw [ht]; exact hP9, hD9⟩, hS.F ht⟩) hS.2.2 dX7_chance_138
          · skip
            refine lv_if_ne (tgt := 110) hx hb dX7_chance_86 (by decide) (fun c_86 => absurd (by decide +kernel) c_86) (fun _ => ?_)
            refine lv_aload_n hx hb dX7_chance_89 rfl (lv_at hl 2 rfl) ?_
            refine va_get (D := (dC, dI)) (ci := 7) (v := .ref wt) (C := RX7) (T := TX7) (N := 10) hx hb hts hiX7 hown hK hP 0 rfl rfl 3 (by decide) (hts (.fieldLink RX7 29 "MadeItSo" "weights" "LMadeItSo$Weights;") (by decide +kernel)) (fun _ h9 => h9) rfl dX7_chance_90 ?_
            refine lv_iload_n hx hb dX7_chance_93 rfl (lv_at hl 3 rfl) ?_
            refine lv_iload_n hx hb dX7_chance_94 rfl (lv_at hl 4 rfl) ?_
            refine lv_ior hx hb dX7_chance_95 ?_
            have hPc := hP.sub (ws' := []) [] rfl
            refine va_calli (va_runS (As := [.int (p1 ||| p2)]) (rest := [.ref wt]) ⟨hx, hb, hml, hown, hts⟩ (mz_h_heapOf l dC dI cI cJ cZ (p1 ||| p2) H ) (va_cwS 1 hts gX7_chance_X7_heapOf rfl rfl rfl (by decide +kernel) ⟨Nat.le_of_ble_eq_true rfl, Nat.le_of_ble_eq_true rfl⟩) ⟨fun a U g mk q => mz_blP q, fun U hU hW => ⟨rfl, hU, hPc, va_K.moved hW.alike hK, mz_nw hW hN⟩⟩ rfl rfl hl.1 rfl (lv_room (Nat.le_of_ble_eq_true rfl)) dX7_chance_96 ⟨Nat.le_of_ble_eq_true rfl, Nat.le_of_ble_eq_true rfl⟩) hS (fun q _ h => h.elim) (fun q h => h.elim) (fun r_96 u t H1 locs ht hvm hw_96 hB hz1 hk1 hS => ?_)
            have hE : H = H1 := hB.symm.trans ht
            subst hE
            obtain rfl : r_96 = ((p1 ||| p2) &&& 255) := hw_96
            refine lv_iload_n hx hb dX7_chance_99 rfl (lv_at hl 3 rfl) ?_
            refine lv_iload_n hx hb dX7_chance_100 rfl (lv_at hl 4 rfl) ?_
            refine lv_ior hx hb dX7_chance_101 ?_
            have hPc := hP.sub (ws' := []) [] rfl
            refine va_calli (va_runS (As := [.int (p1 ||| p2)]) (rest := [.int ((p1 ||| p2) &&& 255), .ref wt]) ⟨hx, hb, hml, hown, hts⟩ (mz_h_onesOf l dC dI cI cJ cZ (p1 ||| p2) H ) (va_cwS 1 hts gX7_chance_X7_onesOf rfl rfl rfl (by decide +kernel) ⟨Nat.le_of_ble_eq_true rfl, Nat.le_of_ble_eq_true rfl⟩) ⟨fun a U g mk q => mz_blP q, fun U hU hW => ⟨rfl, hU, hPc, va_K.moved hW.alike hK, mz_nw hW hN⟩⟩ rfl rfl hl.1 rfl (lv_room (Nat.le_of_ble_eq_true rfl)) dX7_chance_102 ⟨Nat.le_of_ble_eq_true rfl, Nat.le_of_ble_eq_true rfl⟩) hS (fun q _ h => h.elim) (fun q h => h.elim) (fun r_102 u t H1 locs ht hvm hw_102 hB hz1 hk1 hS => ?_)
            have hE : H = H1 := hB.symm.trans ht
            subst hE
            obtain rfl : r_102 = (((p1 ||| p2) >>> (8 &&& 31)) &&& 255) := hw_102
            have hPc := hP.sub (ws' := [(wt, .inr (6, [.ref wo, .int (nI ((2 ^ n - 1)))])), (wo, .inl (cJ, 256, .inr (.inl gw_49)))]) [1, 2] rfl
            refine va_calll (va_runV (As := [.int ((p1 ||| p2) &&& 255), .int (((p1 ||| p2) >>> (8 &&& 31)) &&& 255)]) (rest := []) ⟨hx, hb, hml, hown, hts⟩ (mz_k_having l dC dI cI cJ cZ wt wo (2 ^ n - 1) gw_49 ((p1 ||| p2) &&& 255) (((p1 ||| p2) >>> (8 &&& 31)) &&& 255) H (by have := mz_2n hn; omega)) (cwV 2 hts gX7_chance_X6_having rfl rfl rfl (by decide +kernel) ⟨Nat.le_of_ble_eq_true rfl, Nat.le_of_ble_eq_true rfl⟩) ⟨fun a U g mk q => mz_blP q, va_recv hK hPc (ci := 6) (q0 := 0) rfl rfl, fun U hU hW => ⟨rfl, hU, hPc, va_K.moved hW.alike hK, mz_nw hW hN⟩⟩ rfl rfl hl.1 rfl (lv_room (Nat.le_of_ble_eq_true rfl)) dX7_chance_105 ⟨Nat.le_of_ble_eq_true rfl, Nat.le_of_ble_eq_true rfl⟩) hS (fun q _ h => h.elim) (fun q h => h.elim) (fun r_105 u t H1 locs ht hvm hw_105 hB hz1 hk1 hS => ?_)
            have hE : H = H1 := hB.symm.trans ht
            subst hE
            obtain rfl : r_105 = (mz_hv (nI (2 ^ n - 1)) gw_49 ((p1 ||| p2) &&& 255) (((p1 ||| p2) >>> (8 &&& 31)) &&& 255)) := hw_105
            refine mz_tl (y := (mz_c2 (mz_wt n fp fb p3) (p1 &&& 255) ((p1 >>> (8 &&& 31)) &&& 255) (p2 &&& 255) ((p2 >>> (8 &&& 31)) &&& 255) n)) (by rw [mz_hv_wt hn (mz_set_or hq1 hq2) hx0_49]; exact mz_both_1 hn hq1 hq2 hc_83) ?_
            refine lv_lstore (lv' := [(6, .long (mz_c2 (mz_wt n fp fb p3) (p1 &&& 255) ((p1 >>> (8 &&& 31)) &&& 255) (p2 &&& 255) ((p2 >>> (8 &&& 31)) &&& 255) n)), (4, .long (mz_cs (mz_wt n fp fb p3) (p2 &&& 255) ((p2 >>> (8 &&& 31)) &&& 255) n)), (0, .ref mx), (1, .int p1), (2, .int p2), (3, .int p3)]) hx hb dX7_chance_108 hl (by decide) rfl (fun ls hl => ?_)
            refine lv_lload hx hb dX7_chance_110 (lv_at hl 1 rfl) ?_
            refine lv_lload hx hb dX7_chance_112 (lv_at hl 0 rfl) ?_
            have hPc := hP.sub (ws' := []) [] rfl
            refine va_calll (va_runS (As := [.long (mz_cs (mz_wt n fp fb p3) (p2 &&& 255) ((p2 >>> (8 &&& 31)) &&& 255) n), .long (mz_c2 (mz_wt n fp fb p3) (p1 &&& 255) ((p1 >>> (8 &&& 31)) &&& 255) (p2 &&& 255) ((p2 >>> (8 &&& 31)) &&& 255) n)]) (rest := []) ⟨hx, hb, hml, hown, hts⟩ (mz_n_common l dC dI cI cJ cZ (mz_cs (mz_wt n fp fb p3) (p2 &&& 255) ((p2 >>> (8 &&& 31)) &&& 255) n) (mz_c2 (mz_wt n fp fb p3) (p1 &&& 255) ((p1 >>> (8 &&& 31)) &&& 255) (p2 &&& 255) ((p2 >>> (8 &&& 31)) &&& 255) n) a_ b_ H eA_ eB_ (by omega) (by omega)) (va_cwS 2 hts gX7_chance_X7_commonDivisor rfl rfl rfl (by decide +kernel) ⟨Nat.le_of_ble_eq_true rfl, Nat.le_of_ble_eq_true rfl⟩) ⟨fun a U g mk q => mz_blP q, fun U hU hW => ⟨rfl, hU, hPc, va_K.moved hW.alike hK, mz_nw hW hN⟩⟩ rfl rfl hl.1 rfl (lv_room (Nat.le_of_ble_eq_true rfl)) dX7_chance_114 ⟨Nat.le_of_ble_eq_true rfl, Nat.le_of_ble_eq_true rfl⟩) hS (fun q _ h => h.elim) (fun q h => h.elim) (fun r_114 u t H1 locs ht hvm hw_114 hB hz1 hk1 hS => ?_)
            have hE : H = H1 := hB.symm.trans ht
            subst hE
            obtain rfl : r_114 = (if lN (Nat.gcd a_ b_) < 1 then 1 else lN (Nat.gcd a_ b_)) := hw_114
            refine mz_tl (y := (mz_gl (mz_cs (mz_wt n fp fb p3) (p2 &&& 255) ((p2 >>> (8 &&& 31)) &&& 255) n) (mz_c2 (mz_wt n fp fb p3) (p1 &&& 255) ((p1 >>> (8 &&& 31)) &&& 255) (p2 &&& 255) ((p2 >>> (8 &&& 31)) &&& 255) n))) (mz_gl_1 eA_ eB_ (by omega) (by omega) hA0_) ?_
            refine lv_lstore (lv' := [(8, .long (mz_gl (mz_cs (mz_wt n fp fb p3) (p2 &&& 255) ((p2 >>> (8 &&& 31)) &&& 255) n) (mz_c2 (mz_wt n fp fb p3) (p1 &&& 255) ((p1 >>> (8 &&& 31)) &&& 255) (p2 &&& 255) ((p2 >>> (8 &&& 31)) &&& 255) n))), (6, .long (mz_c2 (mz_wt n fp fb p3) (p1 &&& 255) ((p1 >>> (8 &&& 31)) &&& 255) (p2 &&& 255) ((p2 >>> (8 &&& 31)) &&& 255) n)), (4, .long (mz_cs (mz_wt n fp fb p3) (p2 &&& 255) ((p2 >>> (8 &&& 31)) &&& 255) n)), (0, .ref mx), (1, .int p1), (2, .int p2), (3, .int p3)]) hx hb dX7_chance_117 hl (by decide) rfl (fun ls hl => ?_)
            refine lv_aload_n hx hb dX7_chance_119 rfl (lv_at hl 3 rfl) ?_
            refine lv_lload hx hb dX7_chance_120 (lv_at hl 1 rfl) ?_
            refine lv_lload hx hb dX7_chance_122 (lv_at hl 0 rfl) ?_
            refine lv_ldiv hx hb dX7_chance_124 hG0_ ?_
            refine lv_topl (fun v_124 ev_124 => ?_)
            refine va_put (D := (dC, dI)) (ci := 7) (v := .long v_124) (ty := .long) (C := RX7) (T := TX7) (N := 10) hx hb hts hiX7 tyX7 tyX7_ok nmX7 hown hK hP hD hS 0 rfl rfl 8 (by decide) (hts (.fieldLink RX7 58 "MadeItSo" "aboveLine" "J") (by decide +kernel)) (fun _ h9 => h9) rfl (by decide +kernel) rfl rfl (Nat.le_of_ble_eq_true rfl) dX7_chance_125 (fun H locs hP hD hS => ?_)
            have hP : va_P (dC, dI) vwCl [(mx, .inr (7, [.ref dr, .ref th, .ref bk, .ref wt, .ref tt, .ref lh, .ref la, .int sh, .long v_124, .long 1])), (wt, .inr (6, [.ref wo, .int (nI ((2 ^ n - 1)))])), (wo, .inl (cJ, 256, .inr (.inl gw_49))), (dr, .inr (2, [.ref dp, .ref dc, .int (nI n)])), (dp, .inl (cI, 8, .inl fp)), (bk, .inr (1, [.ref bp])), (bp, .inl (cI, 1024, .inl fb))] H := hP
            have hD : va_D A [(mx, .inr (7, [.ref dr, .ref th, .ref bk, .ref wt, .ref tt, .ref lh, .ref la, .int sh, .long v_124, .long 1])), (wt, .inr (6, [.ref wo, .int (nI ((2 ^ n - 1)))])), (wo, .inl (cJ, 256, .inr (.inl gw_49))), (dr, .inr (2, [.ref dp, .ref dc, .int (nI n)])), (dp, .inl (cI, 8, .inl fp)), (bk, .inr (1, [.ref bp])), (bp, .inl (cI, 1024, .inl fb))] := hD
            refine lv_aload_n hx hb dX7_chance_128 rfl (lv_at hl 3 rfl) ?_
            refine lv_lload hx hb dX7_chance_129 (lv_at hl 2 rfl) ?_
            refine lv_lload hx hb dX7_chance_131 (lv_at hl 0 rfl) ?_
            refine lv_ldiv hx hb dX7_chance_133 hG0_ ?_
            refine lv_topl (fun v_133 ev_133 => ?_)
            refine va_put (D := (dC, dI)) (ci := 7) (v := .long v_133) (ty := .long) (C := RX7) (T := TX7) (N := 10) hx hb hts hiX7 tyX7 tyX7_ok nmX7 hown hK hP hD hS 0 rfl rfl 9 (by decide) (hts (.fieldLink RX7 62 "MadeItSo" "belowLine" "J") (by decide +kernel)) (fun _ h9 => h9) rfl (by decide +kernel) rfl rfl (Nat.le_of_ble_eq_true rfl) dX7_chance_134 (fun H locs hP hD hS => ?_)
            have hP : va_P (dC, dI) vwCl [(mx, .inr (7, [.ref dr, .ref th, .ref bk, .ref wt, .ref tt, .ref lh, .ref la, .int sh, .long v_124, .long v_133])), (wt, .inr (6, [.ref wo, .int (nI ((2 ^ n - 1)))])), (wo, .inl (cJ, 256, .inr (.inl gw_49))), (dr, .inr (2, [.ref dp, .ref dc, .int (nI n)])), (dp, .inl (cI, 8, .inl fp)), (bk, .inr (1, [.ref bp])), (bp, .inl (cI, 1024, .inl fb))] H := hP
            have hD : va_D A [(mx, .inr (7, [.ref dr, .ref th, .ref bk, .ref wt, .ref tt, .ref lh, .ref la, .int sh, .long v_124, .long v_133])), (wt, .inr (6, [.ref wo, .int (nI ((2 ^ n - 1)))])), (wo, .inl (cJ, 256, .inr (.inl gw_49))), (dr, .inr (2, [.ref dp, .ref dc, .int (nI n)])), (dp, .inl (cI, 8, .inl fp)), (bk, .inr (1, [.ref bp])), (bp, .inl (cI, 1024, .inl fb))] := hD
            refine lv_iconst (v := 1) hx hb dX7_chance_137 (by decide +kernel) ?_
            have hP9 := hP.sub (ws' := [(mx, .inr (7, [.ref dr, .ref th, .ref bk, .ref wt, .ref tt, .ref lh, .ref la, .int sh, .long v_124, .long v_133])), (dr, .inr (2, [.ref dp, .ref dc, .int (nI n)])), (dp, .inl (cI, 8, .inl fp)), (bk, .inr (1, [.ref bp])), (bp, .inl (cI, 1024, .inl fb)), (wt, .inr (6, [.ref wo, .int (nI ((2 ^ n - 1)))])), (wo, .inl (cJ, 256, .inr (.inl gw_49)))]) [0, 3, 4, 5, 6, 1, 2] rfl
            have hD9 := hD.sub (ws' := [(mx, .inr (7, [.ref dr, .ref th, .ref bk, .ref wt, .ref tt, .ref lh, .ref la, .int sh, .long v_124, .long v_133])), (dr, .inr (2, [.ref dp, .ref dc, .int (nI n)])), (dp, .inl (cI, 8, .inl fp)), (bk, .inr (1, [.ref bp])), (bp, .inl (cI, 1024, .inl fb)), (wt, .inr (6, [.ref wo, .int (nI ((2 ^ n - 1)))])), (wo, .inl (cJ, 256, .inr (.inl gw_49)))]) [0, 3, 4, 5, 6, 1, 2] (by decide) rfl
            refine W.widen (k := 0) (n := 0) (Nat.le_of_ble_eq_true rfl) (Nat.le_of_ble_eq_true rfl) ?_
            exact W.iret (v := 1) hx hb hr (fun t ht hW => ⟨⟨1, (), rfl, Or.inl ⟨rfl, hA0_⟩, v_124, v_133, (nI ((2 ^ n - 1))), gw_49, (fun h => absurd h hA0_), (fun _ => ⟨by rw [ev_124], by rw [ev_133]⟩), by rw [ht]; exact hP9, hD9⟩, hS.F ht⟩) hS.2.2 dX7_chance_138
        · skip
          refine lv_iconst (v := 0) hx hb dX7_chance_76 (by decide +kernel) ?_
          have hP9 := hP.sub (ws' := [(mx, .inr (7, [.ref dr, .ref th, .ref bk, .ref wt, .ref tt, .ref lh, .ref la, .int sh, .long 0, .long 1])), (dr, .inr (2, [.ref dp, .ref dc, .int (nI n)])), (dp, .inl (cI, 8, .inl fp)), (bk, .inr (1, [.ref bp])), (bp, .inl (cI, 1024, .inl fb)), (wt, .inr (6, [.ref wo, .int (nI ((2 ^ n - 1)))])), (wo, .inl (cJ, 256, .inr (.inl gw_49)))]) [0, 3, 4, 5, 6, 1, 2] rfl
          have hD9 := hD.sub (ws' := [(mx, .inr (7, [.ref dr, .ref th, .ref bk, .ref wt, .ref tt, .ref lh, .ref la, .int sh, .long 0, .long 1])), (dr, .inr (2, [.ref dp, .ref dc, .int (nI n)])), (dp, .inl (cI, 8, .inl fp)), (bk, .inr (1, [.ref bp])), (bp, .inl (cI, 1024, .inl fb)), (wt, .inr (6, [.ref wo, .int (nI ((2 ^ n - 1)))])), (wo, .inl (cJ, 256, .inr (.inl gw_49)))]) [0, 3, 4, 5, 6, 1, 2] (by decide) rfl
          refine W.widen (k := 0) (n := 0) (Nat.le_of_ble_eq_true rfl) (Nat.le_of_ble_eq_true rfl) ?_
          exact W.iret (v := 0) hx hb hr (fun t ht hW => ⟨⟨0, (), rfl, Or.inr ⟨rfl, mz_npos0 eA_ (by omega) c_73⟩, 0, 1, (nI ((2 ^ n - 1))), gw_49, (fun _ => ⟨rfl, rfl⟩), (fun h => absurd (mz_npos0 eA_ (by omega) c_73) h), by rw [ht]; exact hP9, hD9⟩, hS.F ht⟩) hS.2.2 dX7_chance_77
      · skip
        refine lv_if_ne (tgt := 36) hx hb dX7_chance_31 (by decide) (fun c_31 => absurd (by decide +kernel) c_31) (fun _ => ?_)
        first | exact absurd hq1 hc_12 | exact absurd hq2 hc_20 | exact absurd hq3 hc_28
    · skip
      refine lv_if_eq (tgt := 34) hx hb dX7_chance_23 (by decide) (fun _ => ?_) (fun c_23 => absurd (by decide +kernel) c_23)
      first | exact absurd hq1 hc_12 | exact absurd hq2 hc_20 | exact absurd hq3 hc_28
  · skip
    refine lv_if_eq (tgt := 34) hx hb dX7_chance_15 (by decide) (fun _ => ?_) (fun c_15 => absurd (by decide +kernel) c_15)
    first | exact absurd hq1 hc_12 | exact absurd hq2 hc_20 | exact absurd hq3 hc_28
set_option maxHeartbeats 1000000 in
set_option maxRecDepth 100000 in
theorem mz_n_x_chance_out (l : Launch) (dC : Nat → ClassId) (dI : Nat → Nat → Nat) (cI cJ cZ : ClassId) (mx : Nat) (dr : Nat) (th : Nat) (bk : Nat) (wt : Nat) (tt : Nat) (lh : Nat) (la : Nat) (sh : Int32) (ab : Int64) (be : Int64) (dp : Nat) (dc : Nat) (n : Nat) (p1 : Int32) (p2 : Int32) (p3 : Int32) (sz : Nat) (hn : n ≤ 8) (hnq : ¬ (mz_stg n p1 ∧ mz_stg n p2 ∧ mz_stg n p3)) : Met l yX7_chance wsX7_chance ({ frames := 3, cells := 0, slots := 0, locals := 62 }) (va_Pc [.ref mx, .int p1, .int p2, .int p3] (fun U => U.heap.size = sz ∧ va_P (dC, dI) vwCl [(mx, .inr (7, [.ref dr, .ref th, .ref bk, .ref wt, .ref tt, .ref lh, .ref la, .int sh, .long ab, .long be])), (dr, .inr (2, [.ref dp, .ref dc, .int (nI n)]))] U.heap ∧ va_K (dC, dI) vwCl [(cI, FieldType.int), (cJ, FieldType.long), (cZ, FieldType.boolean)] U ∧ va_D (fun _ => True) [(mx, .inr (7, [.ref dr, .ref th, .ref bk, .ref wt, .ref tt, .ref lh, .ref la, .int sh, .long ab, .long be])), (dr, .inr (2, [.ref dp, .ref dc, .int (nI n)]))] ∧ mz_N U)) (va_Qi (fun (r : Int32) (_ : Unit) => r = (-1)) (fun _ t => ∃ (gab : Int64), ∃ (gbe : Int64), (gab = 0) ∧ (gbe = 1) ∧ va_P (dC, dI) vwCl [(mx, .inr (7, [.ref dr, .ref th, .ref bk, .ref wt, .ref tt, .ref lh, .ref la, .int sh, .long gab, .long gbe])), (dr, .inr (2, [.ref dp, .ref dc, .int (nI n)]))] t.heap ∧ va_D (va_A [(mx, .inr (7, [.ref dr, .ref th, .ref bk, .ref wt, .ref tt, .ref lh, .ref la, .int sh, .long ab, .long be])), (dr, .inr (2, [.ref dp, .ref dc, .int (nI n)]))] sz) [(mx, .inr (7, [.ref dr, .ref th, .ref bk, .ref wt, .ref tt, .ref lh, .ref la, .int sh, .long gab, .long gbe])), (dr, .inr (2, [.ref dp, .ref dc, .int (nI n)]))]) (va_A [(mx, .inr (7, [.ref dr, .ref th, .ref bk, .ref wt, .ref tt, .ref lh, .ref la, .int sh, .long ab, .long be])), (dr, .inr (2, [.ref dp, .ref dc, .int (nI n)]))] sz)) 0 0 (va_A [(mx, .inr (7, [.ref dr, .ref th, .ref bk, .ref wt, .ref tt, .ref lh, .ref la, .int sh, .long ab, .long be])), (dr, .inr (2, [.ref dp, .ref dc, .int (nI n)]))] sz) := by
  refine Met.ofW (cc := cX7_chance) (maxL := 10) (ret := (some .int)) (by decide) rfl ?_
  intro p e s m args below meth c s₁ B hml hv
  obtain ⟨rfl, hsz, hP, hK, hD0, hN⟩ := hv
  subst hsz
  have hx := B.exec
  have hb := B.bytes
  have hr := B.returns
  have hts := atoms_spec (ws := wsX7_chance) B.pre
  have hown : s.vm.findClass RX7 = some m.cls := findClass_of_methodNamed B.named
  have hlocks := B.notSynchronized
  have hD := hD0.self (sz := s.heap.size)
  generalize hAe : va_A [(mx, .inr (7, [.ref dr, .ref th, .ref bk, .ref wt, .ref tt, .ref lh, .ref la, .int sh, .long ab, .long be])), (dr, .inr (2, [.ref dp, .ref dc, .int (nI n)]))] s.heap.size = A at hD ⊢
  have hA : ∀ q : Nat, s.heap.size ≤ q → A q := fun q h => by rw [← hAe]; exact Or.inr h
  have hS : va_S A s.heap s.heap [] := va_S.rf
  have hiX7 : ∀ w ∈ u_ws RX7 TX7 10, w ∈ wsX7_chance := by decide +kernel
  have hl := lv_entry ([.ref mx, .int p1, .int p2, .int p3]) (n := 10) (Nat.le_of_ble_eq_true rfl)
  rw [lg_entry_eq]
  generalize (lg_sl ([.ref mx, .int p1, .int p2, .int p3]) ++ List.replicate (10 - (lg_sl ([.ref mx, .int p1, .int p2, .int p3])).length) Slot.unset).toArray = ls at hl ⊢
  have hl : lv_has ls 10 [(0, .ref mx), (1, .int p1), (2, .int p2), (3, .int p3)] := hl
  refine lv_aload_n hx hb dX7_chance_0 rfl (lv_at hl 0 rfl) ?_
  refine lv_lconst (v := 0) hx hb dX7_chance_1 (by decide +kernel) ?_
  refine va_put (D := (dC, dI)) (ci := 7) (v := .long 0) (ty := .long) (C := RX7) (T := TX7) (N := 10) hx hb hts hiX7 tyX7 tyX7_ok nmX7 hown hK hP hD hS 0 rfl rfl 8 (by decide) (hts (.fieldLink RX7 58 "MadeItSo" "aboveLine" "J") (by decide +kernel)) (fun _ h9 => h9) rfl (by decide +kernel) rfl rfl (Nat.le_of_ble_eq_true rfl) dX7_chance_2 (fun H locs hP hD hS => ?_)
  have hP : va_P (dC, dI) vwCl [(mx, .inr (7, [.ref dr, .ref th, .ref bk, .ref wt, .ref tt, .ref lh, .ref la, .int sh, .long 0, .long be])), (dr, .inr (2, [.ref dp, .ref dc, .int (nI n)]))] H := hP
  have hD : va_D A [(mx, .inr (7, [.ref dr, .ref th, .ref bk, .ref wt, .ref tt, .ref lh, .ref la, .int sh, .long 0, .long be])), (dr, .inr (2, [.ref dp, .ref dc, .int (nI n)]))] := hD
  refine lv_aload_n hx hb dX7_chance_5 rfl (lv_at hl 0 rfl) ?_
  refine lv_lconst (v := 1) hx hb dX7_chance_6 (by decide +kernel) ?_
  refine va_put (D := (dC, dI)) (ci := 7) (v := .long 1) (ty := .long) (C := RX7) (T := TX7) (N := 10) hx hb hts hiX7 tyX7 tyX7_ok nmX7 hown hK hP hD hS 0 rfl rfl 9 (by decide) (hts (.fieldLink RX7 62 "MadeItSo" "belowLine" "J") (by decide +kernel)) (fun _ h9 => h9) rfl (by decide +kernel) rfl rfl (Nat.le_of_ble_eq_true rfl) dX7_chance_7 (fun H locs hP hD hS => ?_)
  have hP : va_P (dC, dI) vwCl [(mx, .inr (7, [.ref dr, .ref th, .ref bk, .ref wt, .ref tt, .ref lh, .ref la, .int sh, .long 0, .long 1])), (dr, .inr (2, [.ref dp, .ref dc, .int (nI n)]))] H := hP
  have hD : va_D A [(mx, .inr (7, [.ref dr, .ref th, .ref bk, .ref wt, .ref tt, .ref lh, .ref la, .int sh, .long 0, .long 1])), (dr, .inr (2, [.ref dp, .ref dc, .int (nI n)]))] := hD
  refine lv_aload_n hx hb dX7_chance_10 rfl (lv_at hl 0 rfl) ?_
  refine lv_iload_n hx hb dX7_chance_11 rfl (lv_at hl 1 rfl) ?_
  have hPc := hP.sub (ws' := [(mx, .inr (7, [.ref dr, .ref th, .ref bk, .ref wt, .ref tt, .ref lh, .ref la, .int sh, .long 0, .long 1])), (dr, .inr (2, [.ref dp, .ref dc, .int (nI n)]))]) [0, 1] rfl
  refine va_calli (va_runV (As := [.int p1]) (rest := []) ⟨hx, hb, hml, hown, hts⟩ (mz_h_x_isSetting l dC dI cI cJ cZ mx dr th bk wt tt lh la sh 0 1 dp dc n p1 H (by first | assumption | omega)) (cwV 1 hts gX7_chance_X7_isSetting rfl rfl rfl (by decide +kernel) ⟨Nat.le_of_ble_eq_true rfl, Nat.le_of_ble_eq_true rfl⟩) ⟨fun a U g mk q => mz_blP q, va_recv hK hPc (ci := 7) (q0 := 0) rfl rfl, fun U hU hW => ⟨rfl, hU, hPc, va_K.moved hW.alike hK, mz_nw hW hN⟩⟩ rfl rfl hl.1 rfl (lv_room (Nat.le_of_ble_eq_true rfl)) dX7_chance_12 ⟨Nat.le_of_ble_eq_true rfl, Nat.le_of_ble_eq_true rfl⟩) hS (fun q _ h => h.elim) (fun q h => h.elim) (fun r_12 u t H1 locs ht hvm hw_12 hB hz1 hk1 hS => ?_)
  have hE : H = H1 := hB.symm.trans ht
  subst hE
  rcases (show (r_12 = 1 ∧ mz_stg n p1) ∨ (r_12 = 0 ∧ ¬ mz_stg n p1) from hw_12) with ⟨rfl, hc_12⟩ | ⟨rfl, hc_12⟩
  · skip
    refine lv_if_eq (tgt := 34) hx hb dX7_chance_15 (by decide) (fun c_15 => absurd c_15 (by decide +kernel)) (fun _ => ?_)
    refine lv_aload_n hx hb dX7_chance_18 rfl (lv_at hl 0 rfl) ?_
    refine lv_iload_n hx hb dX7_chance_19 rfl (lv_at hl 2 rfl) ?_
    have hPc := hP.sub (ws' := [(mx, .inr (7, [.ref dr, .ref th, .ref bk, .ref wt, .ref tt, .ref lh, .ref la, .int sh, .long 0, .long 1])), (dr, .inr (2, [.ref dp, .ref dc, .int (nI n)]))]) [0, 1] rfl
    refine va_calli (va_runV (As := [.int p2]) (rest := []) ⟨hx, hb, hml, hown, hts⟩ (mz_h_x_isSetting l dC dI cI cJ cZ mx dr th bk wt tt lh la sh 0 1 dp dc n p2 H (by first | assumption | omega)) (cwV 1 hts gX7_chance_X7_isSetting rfl rfl rfl (by decide +kernel) ⟨Nat.le_of_ble_eq_true rfl, Nat.le_of_ble_eq_true rfl⟩) ⟨fun a U g mk q => mz_blP q, va_recv hK hPc (ci := 7) (q0 := 0) rfl rfl, fun U hU hW => ⟨rfl, hU, hPc, va_K.moved hW.alike hK, mz_nw hW hN⟩⟩ rfl rfl hl.1 rfl (lv_room (Nat.le_of_ble_eq_true rfl)) dX7_chance_20 ⟨Nat.le_of_ble_eq_true rfl, Nat.le_of_ble_eq_true rfl⟩) hS (fun q _ h => h.elim) (fun q h => h.elim) (fun r_20 u t H1 locs ht hvm hw_20 hB hz1 hk1 hS => ?_)
    have hE : H = H1 := hB.symm.trans ht
    subst hE
    rcases (show (r_20 = 1 ∧ mz_stg n p2) ∨ (r_20 = 0 ∧ ¬ mz_stg n p2) from hw_20) with ⟨rfl, hc_20⟩ | ⟨rfl, hc_20⟩
    · skip
      refine lv_if_eq (tgt := 34) hx hb dX7_chance_23 (by decide) (fun c_23 => absurd c_23 (by decide +kernel)) (fun _ => ?_)
      refine lv_aload_n hx hb dX7_chance_26 rfl (lv_at hl 0 rfl) ?_
      refine lv_iload_n hx hb dX7_chance_27 rfl (lv_at hl 3 rfl) ?_
      have hPc := hP.sub (ws' := [(mx, .inr (7, [.ref dr, .ref th, .ref bk, .ref wt, .ref tt, .ref lh, .ref la, .int sh, .long 0, .long 1])), (dr, .inr (2, [.ref dp, .ref dc, .int (nI n)]))]) [0, 1] rfl
      refine va_calli (va_runV (As := [.int p3]) (rest := []) ⟨hx, hb, hml, hown, hts⟩ (mz_h_x_isSetting l dC dI cI cJ cZ mx dr th bk wt tt lh la sh 0 1 dp dc n p3 H (by first | assumption | omega)) (cwV 1 hts gX7_chance_X7_isSetting rfl rfl rfl (by decide +kernel) ⟨Nat.le_of_ble_eq_true rfl, Nat.le_of_ble_eq_true rfl⟩) ⟨fun a U g mk q => mz_blP q, va_recv hK hPc (ci := 7) (q0 := 0) rfl rfl, fun U hU hW => ⟨rfl, hU, hPc, va_K.moved hW.alike hK, mz_nw hW hN⟩⟩ rfl rfl hl.1 rfl (lv_room (Nat.le_of_ble_eq_true rfl)) dX7_chance_28 ⟨Nat.le_of_ble_eq_true rfl, Nat.le_of_ble_eq_true rfl⟩) hS (fun q _ h => h.elim) (fun q h => h.elim) (fun r_28 u t H1 locs ht hvm hw_28 hB hz1 hk1 hS => ?_)
      have hE : H = H1 := hB.symm.trans ht
      subst hE
      rcases (show (r_28 = 1 ∧ mz_stg n p3) ∨ (r_28 = 0 ∧ ¬ mz_stg n p3) from hw_28) with ⟨rfl, hc_28⟩ | ⟨rfl, hc_28⟩
      · skip
        refine lv_if_ne (tgt := 36) hx hb dX7_chance_31 (by decide) (fun _ => ?_) (fun c_31 => absurd c_31 (by decide +kernel))
        exact absurd ⟨hc_12, hc_20, hc_28⟩ hnq
      · skip
        refine lv_if_ne (tgt := 36) hx hb dX7_chance_31 (by decide) (fun c_31 => absurd (by decide +kernel) c_31) (fun _ => ?_)
        refine lv_iconst (v := (-1)) hx hb dX7_chance_34 (by decide +kernel) ?_
        have hP9 := hP.sub (ws' := [(mx, .inr (7, [.ref dr, .ref th, .ref bk, .ref wt, .ref tt, .ref lh, .ref la, .int sh, .long 0, .long 1])), (dr, .inr (2, [.ref dp, .ref dc, .int (nI n)]))]) [0, 1] rfl
        have hD9 := hD.sub (ws' := [(mx, .inr (7, [.ref dr, .ref th, .ref bk, .ref wt, .ref tt, .ref lh, .ref la, .int sh, .long 0, .long 1])), (dr, .inr (2, [.ref dp, .ref dc, .int (nI n)]))]) [0, 1] (by decide) rfl
        refine W.widen (k := 0) (n := 0) (Nat.le_of_ble_eq_true rfl) (Nat.le_of_ble_eq_true rfl) ?_
        exact W.iret (v := (-1)) hx hb hr (fun t ht hW => ⟨⟨(-1), (), rfl, rfl, 0, 1, rfl, rfl, by rw [ht]; exact hP9, hD9⟩, hS.F ht⟩) hS.2.2 dX7_chance_35
    · skip
      refine lv_if_eq (tgt := 34) hx hb dX7_chance_23 (by decide) (fun _ => ?_) (fun c_23 => absurd (by decide +kernel) c_23)
      refine lv_iconst (v := (-1)) hx hb dX7_chance_34 (by decide +kernel) ?_
      have hP9 := hP.sub (ws' := [(mx, .inr (7, [.ref dr, .ref th, .ref bk, .ref wt, .ref tt, .ref lh, .ref la, .int sh, .long 0, .long 1])), (dr, .inr (2, [.ref dp, .ref dc, .int (nI n)]))]) [0, 1] rfl
      have hD9 := hD.sub (ws' := [(mx, .inr (7, [.ref dr, .ref th, .ref bk, .ref wt, .ref tt, .ref lh, .ref la, .int sh, .long 0, .long 1])), (dr, .inr (2, [.ref dp, .ref dc, .int (nI n)]))]) [0, 1] (by decide) rfl
      refine W.widen (k := 0) (n := 0) (Nat.le_of_ble_eq_true rfl) (Nat.le_of_ble_eq_true rfl) ?_
      exact W.iret (v := (-1)) hx hb hr (fun t ht hW => ⟨⟨(-1), (), rfl, rfl, 0, 1, rfl, rfl, by rw [ht]; exact hP9, hD9⟩, hS.F ht⟩) hS.2.2 dX7_chance_35
  · skip
    refine lv_if_eq (tgt := 34) hx hb dX7_chance_15 (by decide) (fun _ => ?_) (fun c_15 => absurd (by decide +kernel) c_15)
    refine lv_iconst (v := (-1)) hx hb dX7_chance_34 (by decide +kernel) ?_
    have hP9 := hP.sub (ws' := [(mx, .inr (7, [.ref dr, .ref th, .ref bk, .ref wt, .ref tt, .ref lh, .ref la, .int sh, .long 0, .long 1])), (dr, .inr (2, [.ref dp, .ref dc, .int (nI n)]))]) [0, 1] rfl
    have hD9 := hD.sub (ws' := [(mx, .inr (7, [.ref dr, .ref th, .ref bk, .ref wt, .ref tt, .ref lh, .ref la, .int sh, .long 0, .long 1])), (dr, .inr (2, [.ref dp, .ref dc, .int (nI n)]))]) [0, 1] (by decide) rfl
    refine W.widen (k := 0) (n := 0) (Nat.le_of_ble_eq_true rfl) (Nat.le_of_ble_eq_true rfl) ?_
    exact W.iret (v := (-1)) hx hb hr (fun t ht hW => ⟨⟨(-1), (), rfl, rfl, 0, 1, rfl, rfl, by rw [ht]; exact hP9, hD9⟩, hS.F ht⟩) hS.2.2 dX7_chance_35
set_option maxHeartbeats 1000000 in
set_option maxRecDepth 100000 in
theorem mz_n_m_chance (l : Launch) (dC : Nat → ClassId) (dI : Nat → Nat → Nat) (cI cJ cZ : ClassId) (mo : Nat) (m1 : Nat) (m2 : Nat) (m3 : Nat) (m6 : Nat) (m7 : Nat) (m8 : Nat) (m9 : Nat) (m10 : Nat) (m11 : Nat) (m12 : Nat) (m13 : Nat) (m14 : Nat) (m15 : Nat) (m16 : Nat) (n : Nat) (ka : Int64) (kb : Int64) (fp : Nat → Int32) (fb : Nat → Int32) (p1 : Int32) (p2 : Int32) (p3 : Int32) (sz : Nat) (hn : n ≤ 8) (hself : ∀ k, k < n → ∀ on, mz_rw (fp k) on 8 < 128) (hgb : ∀ k, k < n → ∀ j, j < 32 → mz_t (fp k) j = true → j < n) (hbo : mz_bo n fb) (hq1 : mz_stg n p1) (hq2 : mz_stg n p2) (hq3 : mz_stg n p3) : Met l yX8_chance wsX8_chance ({ frames := 3, cells := 0, slots := 0, locals := 76 }) (va_Pc [.ref mo, .int p1, .int p2, .int p3] (fun U => U.heap.size = sz ∧ va_P (dC, dI) vwCl [(mo, .inr (8, [.int (nI n), .ref m1, .ref m2, .ref m3, .long ka, .long kb, .ref m6, .ref m7, .ref m8, .ref m9, .ref m10, .ref m11, .ref m12, .ref m13, .ref m14, .ref m15, .ref m16])), (m2, .inl (cI, 8, .inl fp)), (m3, .inl (cI, 1024, .inl fb))] U.heap ∧ va_K (dC, dI) vwCl [(cI, FieldType.int), (cJ, FieldType.long), (cZ, FieldType.boolean)] U ∧ va_D (fun _ => True) [(mo, .inr (8, [.int (nI n), .ref m1, .ref m2, .ref m3, .long ka, .long kb, .ref m6, .ref m7, .ref m8, .ref m9, .ref m10, .ref m11, .ref m12, .ref m13, .ref m14, .ref m15, .ref m16])), (m2, .inl (cI, 8, .inl fp)), (m3, .inl (cI, 1024, .inl fb))] ∧ mz_N U)) (va_Qi (fun (r : Int32) (_ : Unit) => (r = 1 ∧ ¬ (mz_cs (mz_wt n fp fb p3) (p2 &&& 255) ((p2 >>> (8 &&& 31)) &&& 255) n) = 0) ∨ (r = 0 ∧ (mz_cs (mz_wt n fp fb p3) (p2 &&& 255) ((p2 >>> (8 &&& 31)) &&& 255) n) = 0)) (fun _ t => ∃ (gka : Int64), ∃ (gkb : Int64), ((mz_cs (mz_wt n fp fb p3) (p2 &&& 255) ((p2 >>> (8 &&& 31)) &&& 255) n) = 0 → gka = 0 ∧ gkb = 1) ∧ (¬ (mz_cs (mz_wt n fp fb p3) (p2 &&& 255) ((p2 >>> (8 &&& 31)) &&& 255) n) = 0 → gka = (mz_c2 (mz_wt n fp fb p3) (p1 &&& 255) ((p1 >>> (8 &&& 31)) &&& 255) (p2 &&& 255) ((p2 >>> (8 &&& 31)) &&& 255) n) / (mz_gl (mz_cs (mz_wt n fp fb p3) (p2 &&& 255) ((p2 >>> (8 &&& 31)) &&& 255) n) (mz_c2 (mz_wt n fp fb p3) (p1 &&& 255) ((p1 >>> (8 &&& 31)) &&& 255) (p2 &&& 255) ((p2 >>> (8 &&& 31)) &&& 255) n)) ∧ gkb = (mz_cs (mz_wt n fp fb p3) (p2 &&& 255) ((p2 >>> (8 &&& 31)) &&& 255) n) / (mz_gl (mz_cs (mz_wt n fp fb p3) (p2 &&& 255) ((p2 >>> (8 &&& 31)) &&& 255) n) (mz_c2 (mz_wt n fp fb p3) (p1 &&& 255) ((p1 >>> (8 &&& 31)) &&& 255) (p2 &&& 255) ((p2 >>> (8 &&& 31)) &&& 255) n))) ∧ va_P (dC, dI) vwCl [(mo, .inr (8, [.int (nI n), .ref m1, .ref m2, .ref m3, .long gka, .long gkb, .ref m6, .ref m7, .ref m8, .ref m9, .ref m10, .ref m11, .ref m12, .ref m13, .ref m14, .ref m15, .ref m16])), (m2, .inl (cI, 8, .inl fp)), (m3, .inl (cI, 1024, .inl fb))] t.heap ∧ va_D (va_A [(mo, .inr (8, [.int (nI n), .ref m1, .ref m2, .ref m3, .long ka, .long kb, .ref m6, .ref m7, .ref m8, .ref m9, .ref m10, .ref m11, .ref m12, .ref m13, .ref m14, .ref m15, .ref m16])), (m2, .inl (cI, 8, .inl fp)), (m3, .inl (cI, 1024, .inl fb))] sz) [(mo, .inr (8, [.int (nI n), .ref m1, .ref m2, .ref m3, .long gka, .long gkb, .ref m6, .ref m7, .ref m8, .ref m9, .ref m10, .ref m11, .ref m12, .ref m13, .ref m14, .ref m15, .ref m16])), (m2, .inl (cI, 8, .inl fp)), (m3, .inl (cI, 1024, .inl fb))]) (va_A [(mo, .inr (8, [.int (nI n), .ref m1, .ref m2, .ref m3, .long ka, .long kb, .ref m6, .ref m7, .ref m8, .ref m9, .ref m10, .ref m11, .ref m12, .ref m13, .ref m14, .ref m15, .ref m16])), (m2, .inl (cI, 8, .inl fp)), (m3, .inl (cI, 1024, .inl fb))] sz)) 0 0 (va_A [(mo, .inr (8, [.int (nI n), .ref m1, .ref m2, .ref m3, .long ka, .long kb, .ref m6, .ref m7, .ref m8, .ref m9, .ref m10, .ref m11, .ref m12, .ref m13, .ref m14, .ref m15, .ref m16])), (m2, .inl (cI, 8, .inl fp)), (m3, .inl (cI, 1024, .inl fb))] sz) := by
  refine Met.ofW (cc := cX8_chance) (maxL := 10) (ret := (some .int)) (by decide) rfl ?_
  intro p e s m args below meth c s₁ B hml hv
  obtain ⟨rfl, hsz, hP, hK, hD0, hN⟩ := hv
  subst hsz
  have hx := B.exec
  have hb := B.bytes
  have hr := B.returns
  have hts := atoms_spec (ws := wsX8_chance) B.pre
  have hown : s.vm.findClass RX8 = some m.cls := findClass_of_methodNamed B.named
  have hlocks := B.notSynchronized
  have hD := hD0.self (sz := s.heap.size)
  generalize hAe : va_A [(mo, .inr (8, [.int (nI n), .ref m1, .ref m2, .ref m3, .long ka, .long kb, .ref m6, .ref m7, .ref m8, .ref m9, .ref m10, .ref m11, .ref m12, .ref m13, .ref m14, .ref m15, .ref m16])), (m2, .inl (cI, 8, .inl fp)), (m3, .inl (cI, 1024, .inl fb))] s.heap.size = A at hD ⊢
  have hA : ∀ q : Nat, s.heap.size ≤ q → A q := fun q h => by rw [← hAe]; exact Or.inr h
  have hS : va_S A s.heap s.heap [] := va_S.rf
  have hiX8 : ∀ w ∈ u_ws RX8 TX8 17, w ∈ wsX8_chance := by decide +kernel
  have hl := lv_entry ([.ref mo, .int p1, .int p2, .int p3]) (n := 10) (Nat.le_of_ble_eq_true rfl)
  rw [lg_entry_eq]
  generalize (lg_sl ([.ref mo, .int p1, .int p2, .int p3]) ++ List.replicate (10 - (lg_sl ([.ref mo, .int p1, .int p2, .int p3])).length) Slot.unset).toArray = ls at hl ⊢
  have hl : lv_has ls 10 [(0, .ref mo), (1, .int p1), (2, .int p2), (3, .int p3)] := hl
  obtain ⟨N2, hN2⟩ : ∃ k : Nat, k = 2 ^ n := ⟨_, rfl⟩
  have h2n : N2 ≤ 256 := by rw [hN2]; exact mz_2n hn
  refine lv_aload_n hx hb dX8_chance_0 rfl (lv_at hl 0 rfl) ?_
  refine lv_lconst (v := 0) hx hb dX8_chance_1 (by decide +kernel) ?_
  refine va_put (D := (dC, dI)) (ci := 8) (v := .long 0) (ty := .long) (C := RX8) (T := TX8) (N := 17) hx hb hts hiX8 tyX8 tyX8_ok nmX8 hown hK hP hD hS 0 rfl rfl 4 (by decide) (hts (.fieldLink RX8 110 "MadeItSoModel" "above" "J") (by decide +kernel)) (fun _ h9 => h9) rfl (by decide +kernel) rfl rfl (Nat.le_of_ble_eq_true rfl) dX8_chance_2 (fun H locs hP hD hS => ?_)
  have hP : va_P (dC, dI) vwCl [(mo, .inr (8, [.int (nI n), .ref m1, .ref m2, .ref m3, .long 0, .long kb, .ref m6, .ref m7, .ref m8, .ref m9, .ref m10, .ref m11, .ref m12, .ref m13, .ref m14, .ref m15, .ref m16])), (m2, .inl (cI, 8, .inl fp)), (m3, .inl (cI, 1024, .inl fb))] H := hP
  have hD : va_D A [(mo, .inr (8, [.int (nI n), .ref m1, .ref m2, .ref m3, .long 0, .long kb, .ref m6, .ref m7, .ref m8, .ref m9, .ref m10, .ref m11, .ref m12, .ref m13, .ref m14, .ref m15, .ref m16])), (m2, .inl (cI, 8, .inl fp)), (m3, .inl (cI, 1024, .inl fb))] := hD
  refine lv_aload_n hx hb dX8_chance_5 rfl (lv_at hl 0 rfl) ?_
  refine lv_lconst (v := 1) hx hb dX8_chance_6 (by decide +kernel) ?_
  refine va_put (D := (dC, dI)) (ci := 8) (v := .long 1) (ty := .long) (C := RX8) (T := TX8) (N := 17) hx hb hts hiX8 tyX8 tyX8_ok nmX8 hown hK hP hD hS 0 rfl rfl 5 (by decide) (hts (.fieldLink RX8 20 "MadeItSoModel" "below" "J") (by decide +kernel)) (fun _ h9 => h9) rfl (by decide +kernel) rfl rfl (Nat.le_of_ble_eq_true rfl) dX8_chance_7 (fun H locs hP hD hS => ?_)
  have hP : va_P (dC, dI) vwCl [(mo, .inr (8, [.int (nI n), .ref m1, .ref m2, .ref m3, .long 0, .long 1, .ref m6, .ref m7, .ref m8, .ref m9, .ref m10, .ref m11, .ref m12, .ref m13, .ref m14, .ref m15, .ref m16])), (m2, .inl (cI, 8, .inl fp)), (m3, .inl (cI, 1024, .inl fb))] H := hP
  have hD : va_D A [(mo, .inr (8, [.int (nI n), .ref m1, .ref m2, .ref m3, .long 0, .long 1, .ref m6, .ref m7, .ref m8, .ref m9, .ref m10, .ref m11, .ref m12, .ref m13, .ref m14, .ref m15, .ref m16])), (m2, .inl (cI, 8, .inl fp)), (m3, .inl (cI, 1024, .inl fb))] := hD
  refine lv_aload_n hx hb dX8_chance_10 rfl (lv_at hl 0 rfl) ?_
  refine lv_iload_n hx hb dX8_chance_11 rfl (lv_at hl 1 rfl) ?_
  have hPc := hP.sub (ws' := [(mo, .inr (8, [.int (nI n), .ref m1, .ref m2, .ref m3, .long 0, .long 1, .ref m6, .ref m7, .ref m8, .ref m9, .ref m10, .ref m11, .ref m12, .ref m13, .ref m14, .ref m15, .ref m16]))]) [0] rfl
  refine va_calli (va_runV (As := [.int p1]) (rest := []) ⟨hx, hb, hml, hown, hts⟩ (mz_h_m_isSetting l dC dI cI cJ cZ mo m1 m2 m3 m6 m7 m8 m9 m10 m11 m12 m13 m14 m15 m16 n 0 1 p1 H (by first | assumption | omega)) (cwV 1 hts gX8_chance_X8_isSetting rfl rfl rfl (by decide +kernel) ⟨Nat.le_of_ble_eq_true rfl, Nat.le_of_ble_eq_true rfl⟩) ⟨fun a U g mk q => mz_blP q, va_recv hK hPc (ci := 8) (q0 := 0) rfl rfl, fun U hU hW => ⟨rfl, hU, hPc, va_K.moved hW.alike hK, mz_nw hW hN⟩⟩ rfl rfl hl.1 rfl (lv_room (Nat.le_of_ble_eq_true rfl)) dX8_chance_12 ⟨Nat.le_of_ble_eq_true rfl, Nat.le_of_ble_eq_true rfl⟩) hS (fun q _ h => h.elim) (fun q h => h.elim) (fun r_12 u t H1 locs ht hvm hw_12 hB hz1 hk1 hS => ?_)
  have hE : H = H1 := hB.symm.trans ht
  subst hE
  rcases (show (r_12 = 1 ∧ mz_stg n p1) ∨ (r_12 = 0 ∧ ¬ mz_stg n p1) from hw_12) with ⟨rfl, hc_12⟩ | ⟨rfl, hc_12⟩
  · skip
    refine lv_if_eq (tgt := 34) hx hb dX8_chance_15 (by decide) (fun c_15 => absurd c_15 (by decide +kernel)) (fun _ => ?_)
    refine lv_aload_n hx hb dX8_chance_18 rfl (lv_at hl 0 rfl) ?_
    refine lv_iload_n hx hb dX8_chance_19 rfl (lv_at hl 2 rfl) ?_
    have hPc := hP.sub (ws' := [(mo, .inr (8, [.int (nI n), .ref m1, .ref m2, .ref m3, .long 0, .long 1, .ref m6, .ref m7, .ref m8, .ref m9, .ref m10, .ref m11, .ref m12, .ref m13, .ref m14, .ref m15, .ref m16]))]) [0] rfl
    refine va_calli (va_runV (As := [.int p2]) (rest := []) ⟨hx, hb, hml, hown, hts⟩ (mz_h_m_isSetting l dC dI cI cJ cZ mo m1 m2 m3 m6 m7 m8 m9 m10 m11 m12 m13 m14 m15 m16 n 0 1 p2 H (by first | assumption | omega)) (cwV 1 hts gX8_chance_X8_isSetting rfl rfl rfl (by decide +kernel) ⟨Nat.le_of_ble_eq_true rfl, Nat.le_of_ble_eq_true rfl⟩) ⟨fun a U g mk q => mz_blP q, va_recv hK hPc (ci := 8) (q0 := 0) rfl rfl, fun U hU hW => ⟨rfl, hU, hPc, va_K.moved hW.alike hK, mz_nw hW hN⟩⟩ rfl rfl hl.1 rfl (lv_room (Nat.le_of_ble_eq_true rfl)) dX8_chance_20 ⟨Nat.le_of_ble_eq_true rfl, Nat.le_of_ble_eq_true rfl⟩) hS (fun q _ h => h.elim) (fun q h => h.elim) (fun r_20 u t H1 locs ht hvm hw_20 hB hz1 hk1 hS => ?_)
    have hE : H = H1 := hB.symm.trans ht
    subst hE
    rcases (show (r_20 = 1 ∧ mz_stg n p2) ∨ (r_20 = 0 ∧ ¬ mz_stg n p2) from hw_20) with ⟨rfl, hc_20⟩ | ⟨rfl, hc_20⟩
    · skip
      refine lv_if_eq (tgt := 34) hx hb dX8_chance_23 (by decide) (fun c_23 => absurd c_23 (by decide +kernel)) (fun _ => ?_)
      refine lv_aload_n hx hb dX8_chance_26 rfl (lv_at hl 0 rfl) ?_
      refine lv_iload_n hx hb dX8_chance_27 rfl (lv_at hl 3 rfl) ?_
      have hPc := hP.sub (ws' := [(mo, .inr (8, [.int (nI n), .ref m1, .ref m2, .ref m3, .long 0, .long 1, .ref m6, .ref m7, .ref m8, .ref m9, .ref m10, .ref m11, .ref m12, .ref m13, .ref m14, .ref m15, .ref m16]))]) [0] rfl
      refine va_calli (va_runV (As := [.int p3]) (rest := []) ⟨hx, hb, hml, hown, hts⟩ (mz_h_m_isSetting l dC dI cI cJ cZ mo m1 m2 m3 m6 m7 m8 m9 m10 m11 m12 m13 m14 m15 m16 n 0 1 p3 H (by first | assumption | omega)) (cwV 1 hts gX8_chance_X8_isSetting rfl rfl rfl (by decide +kernel) ⟨Nat.le_of_ble_eq_true rfl, Nat.le_of_ble_eq_true rfl⟩) ⟨fun a U g mk q => mz_blP q, va_recv hK hPc (ci := 8) (q0 := 0) rfl rfl, fun U hU hW => ⟨rfl, hU, hPc, va_K.moved hW.alike hK, mz_nw hW hN⟩⟩ rfl rfl hl.1 rfl (lv_room (Nat.le_of_ble_eq_true rfl)) dX8_chance_28 ⟨Nat.le_of_ble_eq_true rfl, Nat.le_of_ble_eq_true rfl⟩) hS (fun q _ h => h.elim) (fun q h => h.elim) (fun r_28 u t H1 locs ht hvm hw_28 hB hz1 hk1 hS => ?_)
      have hE : H = H1 := hB.symm.trans ht
      subst hE
      rcases (show (r_28 = 1 ∧ mz_stg n p3) ∨ (r_28 = 0 ∧ ¬ mz_stg n p3) from hw_28) with ⟨rfl, hc_28⟩ | ⟨rfl, hc_28⟩
      · skip
        refine lv_if_ne (tgt := 36) hx hb dX8_chance_31 (by decide) (fun _ => ?_) (fun c_31 => absurd c_31 (by decide +kernel))
        refine lv_aload_n hx hb dX8_chance_36 rfl (lv_at hl 0 rfl) ?_
        refine lv_iload_n hx hb dX8_chance_37 rfl (lv_at hl 2 rfl) ?_
        refine lv_iload_n hx hb dX8_chance_38 rfl (lv_at hl 3 rfl) ?_
        have hPc := hP.sub (ws' := [(mo, .inr (8, [.int (nI n), .ref m1, .ref m2, .ref m3, .long 0, .long 1, .ref m6, .ref m7, .ref m8, .ref m9, .ref m10, .ref m11, .ref m12, .ref m13, .ref m14, .ref m15, .ref m16])), (m2, .inl (cI, 8, .inl fp)), (m3, .inl (cI, 1024, .inl fb))]) [0, 1, 2] rfl
        refine va_calll (va_runV (As := [.int p2, .int p3]) (rest := []) ⟨hx, hb, hml, hown, hts⟩ (mz_k_m_sum l dC dI cI cJ cZ mo m1 m2 m3 m6 m7 m8 m9 m10 m11 m12 m13 m14 m15 m16 n 0 1 fp fb p2 p3 H (by first | assumption | omega) (by first | assumption | omega) (by first | assumption | omega) hq2 hq3) (cwV 2 hts gX8_chance_X8_sum rfl rfl rfl (by decide +kernel) ⟨Nat.le_of_ble_eq_true rfl, Nat.le_of_ble_eq_true rfl⟩) ⟨fun a U g mk q => mz_blP q, va_recv hK hPc (ci := 8) (q0 := 0) rfl rfl, fun U hU hW => ⟨rfl, hU, hPc, va_K.moved hW.alike hK, mz_nw hW hN⟩⟩ rfl rfl hl.1 rfl (lv_room (Nat.le_of_ble_eq_true rfl)) dX8_chance_39 ⟨Nat.le_of_ble_eq_true rfl, Nat.le_of_ble_eq_true rfl⟩) hS (fun q _ h => h.elim) (fun q h => h.elim) (fun r_39 u t H1 locs ht hvm hw_39 hB hz1 hk1 hS => ?_)
        have hE : H = H1 := hB.symm.trans ht
        subst hE
        obtain rfl : r_39 = (mz_cs (mz_wt n fp fb p3) (p2 &&& 255) ((p2 >>> (8 &&& 31)) &&& 255) n) := hw_39
        obtain ⟨a_, ha_, eA_⟩ : ∃ a : Nat, a < 2 ^ 62 ∧ (mz_cs (mz_wt n fp fb p3) (p2 &&& 255) ((p2 >>> (8 &&& 31)) &&& 255) n) = lN a := mz_cs_b hn hbo hself
        obtain ⟨b_, hb_, eB_⟩ : ∃ b : Nat, b < 2 ^ 62 ∧ (mz_c2 (mz_wt n fp fb p3) (p1 &&& 255) ((p1 >>> (8 &&& 31)) &&& 255) (p2 &&& 255) ((p2 >>> (8 &&& 31)) &&& 255) n) = lN b := mz_c2_b hn hbo hself
        refine lv_lstore (lv' := [(4, .long (mz_cs (mz_wt n fp fb p3) (p2 &&& 255) ((p2 >>> (8 &&& 31)) &&& 255) n)), (0, .ref mo), (1, .int p1), (2, .int p2), (3, .int p3)]) hx hb dX8_chance_42 hl (by decide) rfl (fun ls hl => ?_)
        refine lv_lload hx hb dX8_chance_44 (lv_at hl 0 rfl) ?_
        refine lv_lconst (v := 0) hx hb dX8_chance_46 (by decide +kernel) ?_
        refine W.lcmp hx hb dX8_chance_47 ?_
        refine lv_if_ne (tgt := 53) hx hb dX8_chance_48 (by decide) (fun c_48 => ?_) (fun c_48 => ?_)
        · skip
          have d_48 := mz_lc0 c_48
          have hG0_ := mz_gl_0 eA_ eB_ (by omega) (by omega) d_48
          refine lv_lconst (v := 0) hx hb dX8_chance_53 (by decide +kernel) ?_
          refine lv_lstore (lv' := [(6, .long 0), (4, .long (mz_cs (mz_wt n fp fb p3) (p2 &&& 255) ((p2 >>> (8 &&& 31)) &&& 255) n)), (0, .ref mo), (1, .int p1), (2, .int p2), (3, .int p3)]) hx hb dX8_chance_54 hl (by decide) rfl (fun ls hl => ?_)
          refine lv_iconst (v := 0) hx hb dX8_chance_56 (by decide +kernel) ?_
          refine lv_istore (lv' := [(8, .int 0), (6, .long 0), (4, .long (mz_cs (mz_wt n fp fb p3) (p2 &&& 255) ((p2 >>> (8 &&& 31)) &&& 255) n)), (0, .ref mo), (1, .int p1), (2, .int p2), (3, .int p3)]) hx hb dX8_chance_57 hl (by decide) rfl (fun ls hl => ?_)
          refine mz_loopU (fun k H locs ls => ∃ (i_59 : Nat), ∃ (x6_59 : Int64), i_59 ≤ N2 ∧ (x6_59 = mz_su (fun c => if (mz_mtc (p1 &&& 255) ((p1 >>> (8 &&& 31)) &&& 255) c n && mz_mtc (p2 &&& 255) ((p2 >>> (8 &&& 31)) &&& 255) c n) = true then mz_wt n fp fb p3 c else 0) i_59) ∧ va_P (dC, dI) vwCl [(mo, .inr (8, [.int (nI n), .ref m1, .ref m2, .ref m3, .long 0, .long 1, .ref m6, .ref m7, .ref m8, .ref m9, .ref m10, .ref m11, .ref m12, .ref m13, .ref m14, .ref m15, .ref m16])), (m2, .inl (cI, 8, .inl fp)), (m3, .inl (cI, 1024, .inl fb))] H ∧ va_D A [(mo, .inr (8, [.int (nI n), .ref m1, .ref m2, .ref m3, .long 0, .long 1, .ref m6, .ref m7, .ref m8, .ref m9, .ref m10, .ref m11, .ref m12, .ref m13, .ref m14, .ref m15, .ref m16])), (m2, .inl (cI, 8, .inl fp)), (m3, .inl (cI, 1024, .inl fb))] ∧ va_S A s.heap H locs ∧ lv_has ls 10 [(8, .int (nI i_59)), (6, .long x6_59), (4, .long (mz_cs (mz_wt n fp fb p3) (p2 &&& 255) ((p2 >>> (8 &&& 31)) &&& 255) n)), (0, .ref mo), (1, .int p1), (2, .int p2), (3, .int p3)] ∧ k = N2 - i_59) ?_ _ _ _ _ ⟨0, 0, by omega, rfl, hP, hD, hS, lv_sub hl [0, 1, 2, 3, 4, 5, 6] rfl, rfl⟩
          intro k_59 H locs ls hI_59 ih_59
          obtain ⟨i_59, x6_59, hi_59, hs_59, hP, hD, hS, hl, hk_59⟩ := hI_59
          refine lv_iload hx hb dX8_chance_59 (lv_at hl 0 rfl) ?_
          refine lv_iconst (v := 1) hx hb dX8_chance_61 (by decide +kernel) ?_
          refine lv_aload_n hx hb dX8_chance_62 rfl (lv_at hl 3 rfl) ?_
          refine va_get (D := (dC, dI)) (ci := 8) (v := .int (nI n)) (C := RX8) (T := TX8) (N := 17) hx hb hts hiX8 hown hK hP 0 rfl rfl 0 (by decide) (hts (.fieldLink RX8 58 "MadeItSoModel" "many" "I") (by decide +kernel)) (fun _ h9 => h9) rfl dX8_chance_63 ?_
          refine lv_ishl hx hb dX8_chance_66 ?_
          refine mz_ti (y := (nI N2)) (by rw [hN2]; exact mz_sh1 (by omega)) ?_
          refine lv_icmp_ge (tgt := 132) hx hb dX8_chance_67 (by decide) (fun c_67 => ?_) (fun c_67 => ?_)
          · skip
            have d_67 : N2 ≤ i_59 := (nI_leI (a := N2) (b := i_59) (by omega) (by omega)).mp c_67
            refine lv_lload hx hb dX8_chance_132 (lv_at hl 1 rfl) ?_
            refine lv_lload hx hb dX8_chance_134 (lv_at hl 2 rfl) ?_
            have hPc := hP.sub (ws' := []) [] rfl
            refine va_calll (va_runS (As := [.long x6_59, .long (mz_cs (mz_wt n fp fb p3) (p2 &&& 255) ((p2 >>> (8 &&& 31)) &&& 255) n)]) (rest := []) ⟨hx, hb, hml, hown, hts⟩ (mz_n_shared l dC dI cI cJ cZ x6_59 (mz_cs (mz_wt n fp fb p3) (p2 &&& 255) ((p2 >>> (8 &&& 31)) &&& 255) n) b_ a_ H (by rw [hs_59, show i_59 = N2 by omega, hN2]; exact eB_) eA_ (by omega) (by omega)) (va_cwS 2 hts gX8_chance_X8_shared rfl rfl rfl (by decide +kernel) ⟨Nat.le_of_ble_eq_true rfl, Nat.le_of_ble_eq_true rfl⟩) ⟨fun a U g mk q => mz_blP q, fun U hU hW => ⟨rfl, hU, hPc, va_K.moved hW.alike hK, mz_nw hW hN⟩⟩ rfl rfl hl.1 rfl (lv_room (Nat.le_of_ble_eq_true rfl)) dX8_chance_136 ⟨Nat.le_of_ble_eq_true rfl, Nat.le_of_ble_eq_true rfl⟩) hS (fun q _ h => h.elim) (fun q h => h.elim) (fun r_136 u t H1 locs ht hvm hw_136 hB hz1 hk1 hS => ?_)
            have hE : H = H1 := hB.symm.trans ht
            subst hE
            obtain rfl : r_136 = (lN (Nat.gcd b_ a_)) := hw_136
            refine mz_tl (y := (mz_gl (mz_cs (mz_wt n fp fb p3) (p2 &&& 255) ((p2 >>> (8 &&& 31)) &&& 255) n) (mz_c2 (mz_wt n fp fb p3) (p1 &&& 255) ((p1 >>> (8 &&& 31)) &&& 255) (p2 &&& 255) ((p2 >>> (8 &&& 31)) &&& 255) n))) (mz_gl_2 eA_ eB_ (by omega) (by omega)) ?_
            refine lv_lstore (lv' := [(8, .long (mz_gl (mz_cs (mz_wt n fp fb p3) (p2 &&& 255) ((p2 >>> (8 &&& 31)) &&& 255) n) (mz_c2 (mz_wt n fp fb p3) (p1 &&& 255) ((p1 >>> (8 &&& 31)) &&& 255) (p2 &&& 255) ((p2 >>> (8 &&& 31)) &&& 255) n))), (6, .long x6_59), (4, .long (mz_cs (mz_wt n fp fb p3) (p2 &&& 255) ((p2 >>> (8 &&& 31)) &&& 255) n)), (0, .ref mo), (1, .int p1), (2, .int p2), (3, .int p3)]) hx hb dX8_chance_139 hl (by decide) rfl (fun ls hl => ?_)
            refine lv_aload_n hx hb dX8_chance_141 rfl (lv_at hl 3 rfl) ?_
            refine lv_lload hx hb dX8_chance_142 (lv_at hl 1 rfl) ?_
            refine lv_lload hx hb dX8_chance_144 (lv_at hl 0 rfl) ?_
            refine lv_ldiv hx hb dX8_chance_146 hG0_ ?_
            refine lv_topl (fun v_146 ev_146 => ?_)
            refine va_put (D := (dC, dI)) (ci := 8) (v := .long v_146) (ty := .long) (C := RX8) (T := TX8) (N := 17) hx hb hts hiX8 tyX8 tyX8_ok nmX8 hown hK hP hD hS 0 rfl rfl 4 (by decide) (hts (.fieldLink RX8 110 "MadeItSoModel" "above" "J") (by decide +kernel)) (fun _ h9 => h9) rfl (by decide +kernel) rfl rfl (Nat.le_of_ble_eq_true rfl) dX8_chance_147 (fun H locs hP hD hS => ?_)
            have hP : va_P (dC, dI) vwCl [(mo, .inr (8, [.int (nI n), .ref m1, .ref m2, .ref m3, .long v_146, .long 1, .ref m6, .ref m7, .ref m8, .ref m9, .ref m10, .ref m11, .ref m12, .ref m13, .ref m14, .ref m15, .ref m16])), (m2, .inl (cI, 8, .inl fp)), (m3, .inl (cI, 1024, .inl fb))] H := hP
            have hD : va_D A [(mo, .inr (8, [.int (nI n), .ref m1, .ref m2, .ref m3, .long v_146, .long 1, .ref m6, .ref m7, .ref m8, .ref m9, .ref m10, .ref m11, .ref m12, .ref m13, .ref m14, .ref m15, .ref m16])), (m2, .inl (cI, 8, .inl fp)), (m3, .inl (cI, 1024, .inl fb))] := hD
            refine lv_aload_n hx hb dX8_chance_150 rfl (lv_at hl 3 rfl) ?_
            refine lv_lload hx hb dX8_chance_151 (lv_at hl 2 rfl) ?_
            refine lv_lload hx hb dX8_chance_153 (lv_at hl 0 rfl) ?_
            refine lv_ldiv hx hb dX8_chance_155 hG0_ ?_
            refine lv_topl (fun v_155 ev_155 => ?_)
            refine va_put (D := (dC, dI)) (ci := 8) (v := .long v_155) (ty := .long) (C := RX8) (T := TX8) (N := 17) hx hb hts hiX8 tyX8 tyX8_ok nmX8 hown hK hP hD hS 0 rfl rfl 5 (by decide) (hts (.fieldLink RX8 20 "MadeItSoModel" "below" "J") (by decide +kernel)) (fun _ h9 => h9) rfl (by decide +kernel) rfl rfl (Nat.le_of_ble_eq_true rfl) dX8_chance_156 (fun H locs hP hD hS => ?_)
            have hP : va_P (dC, dI) vwCl [(mo, .inr (8, [.int (nI n), .ref m1, .ref m2, .ref m3, .long v_146, .long v_155, .ref m6, .ref m7, .ref m8, .ref m9, .ref m10, .ref m11, .ref m12, .ref m13, .ref m14, .ref m15, .ref m16])), (m2, .inl (cI, 8, .inl fp)), (m3, .inl (cI, 1024, .inl fb))] H := hP
            have hD : va_D A [(mo, .inr (8, [.int (nI n), .ref m1, .ref m2, .ref m3, .long v_146, .long v_155, .ref m6, .ref m7, .ref m8, .ref m9, .ref m10, .ref m11, .ref m12, .ref m13, .ref m14, .ref m15, .ref m16])), (m2, .inl (cI, 8, .inl fp)), (m3, .inl (cI, 1024, .inl fb))] := hD
            refine lv_iconst (v := 1) hx hb dX8_chance_159 (by decide +kernel) ?_
            have hP9 := hP.sub (ws' := [(mo, .inr (8, [.int (nI n), .ref m1, .ref m2, .ref m3, .long v_146, .long v_155, .ref m6, .ref m7, .ref m8, .ref m9, .ref m10, .ref m11, .ref m12, .ref m13, .ref m14, .ref m15, .ref m16])), (m2, .inl (cI, 8, .inl fp)), (m3, .inl (cI, 1024, .inl fb))]) [0, 1, 2] rfl
            have hD9 := hD.sub (ws' := [(mo, .inr (8, [.int (nI n), .ref m1, .ref m2, .ref m3, .long v_146, .long v_155, .ref m6, .ref m7, .ref m8, .ref m9, .ref m10, .ref m11, .ref m12, .ref m13, .ref m14, .ref m15, .ref m16])), (m2, .inl (cI, 8, .inl fp)), (m3, .inl (cI, 1024, .inl fb))]) [0, 1, 2] (by decide) rfl
            refine W.widen (k := 0) (n := 0) (Nat.le_of_ble_eq_true rfl) (Nat.le_of_ble_eq_true rfl) ?_
            exact W.iret (v := 1) hx hb hr (fun t ht hW => ⟨⟨1, (), rfl, Or.inl ⟨rfl, d_48⟩, v_146, v_155, (fun h => absurd h d_48), (fun _ => ⟨by rw [ev_146, hs_59, show i_59 = N2 by omega, hN2]; rfl, by rw [ev_155]⟩), by rw [ht]; exact hP9, hD9⟩, hS.F ht⟩) hS.2.2 dX8_chance_160
          · skip
            have d_67 : ¬ N2 ≤ i_59 := fun h => c_67 ((nI_leI (a := N2) (b := i_59) (by omega) (by omega)).mpr h)
            refine lv_iload hx hb dX8_chance_70 (lv_at hl 0 rfl) ?_
            refine lv_iload_n hx hb dX8_chance_72 rfl (lv_at hl 4 rfl) ?_
            refine lv_bipush (v := 8) hx hb dX8_chance_73 (by decide +kernel) ?_
            refine lv_ishr hx hb dX8_chance_75 ?_
            refine lv_ixor hx hb dX8_chance_76 ?_
            refine lv_iload_n hx hb dX8_chance_77 rfl (lv_at hl 4 rfl) ?_
            refine lv_iand hx hb dX8_chance_78 ?_
            refine lv_sipush (v := 255) hx hb dX8_chance_79 (by decide +kernel) ?_
            refine lv_iand hx hb dX8_chance_82 ?_
            refine lv_if_ne (tgt := 106) hx hb dX8_chance_83 (by decide) (fun c_83 => ?_) (fun c_83 => ?_)
            · skip
              refine lv_iconst (v := 0) hx hb dX8_chance_106 (by decide +kernel) ?_
              refine lv_istore (lv' := [(9, .int 0), (8, .int (nI i_59)), (6, .long x6_59), (4, .long (mz_cs (mz_wt n fp fb p3) (p2 &&& 255) ((p2 >>> (8 &&& 31)) &&& 255) n)), (0, .ref mo), (1, .int p1), (2, .int p2), (3, .int p3)]) hx hb dX8_chance_107 hl (by decide) rfl (fun ls hl => ?_)
              refine lv_iload hx hb dX8_chance_109 (lv_at hl 0 rfl) ?_
              refine lv_if_eq (tgt := 126) hx hb dX8_chance_111 (by decide) (fun _ => ?_) (fun c_111 => absurd (by decide +kernel) c_111)
              refine lv_iinc (v := (nI (i_59 + 1))) (lv' := [(8, .int (nI (i_59 + 1))), (9, .int 0), (6, .long x6_59), (4, .long (mz_cs (mz_wt n fp fb p3) (p2 &&& 255) ((p2 >>> (8 &&& 31)) &&& 255) n)), (0, .ref mo), (1, .int p1), (2, .int p2), (3, .int p3)]) hx hb dX8_chance_126 hl (k := 1) rfl (nI_1 _) (by decide) rfl (fun ls hl => ?_)
              refine lv_goto (tgt := 59) hx hb dX8_chance_129 (by decide) ?_
              exact ih_59 _ (by omega) _ _ _ ⟨(i_59 + 1), x6_59, by omega, (mz_su_n (P := (fun c => (mz_mtc (p1 &&& 255) ((p1 >>> (8 &&& 31)) &&& 255) c n && mz_mtc (p2 &&& 255) ((p2 >>> (8 &&& 31)) &&& 255) c n))) hs_59 (show ¬ (mz_mtc (p1 &&& 255) ((p1 >>> (8 &&& 31)) &&& 255) i_59 n && mz_mtc (p2 &&& 255) ((p2 >>> (8 &&& 31)) &&& 255) i_59 n) = true by rw [mz_c2_cond hn (by rw [← hN2]; omega) hq1 c_83, Bool.false_and]; decide)), hP, hD, hS, lv_sub hl [0, 2, 3, 4, 5, 6, 7] rfl, rfl⟩
            · skip
              refine lv_iload hx hb dX8_chance_86 (lv_at hl 0 rfl) ?_
              refine lv_iload_n hx hb dX8_chance_88 rfl (lv_at hl 5 rfl) ?_
              refine lv_bipush (v := 8) hx hb dX8_chance_89 (by decide +kernel) ?_
              refine lv_ishr hx hb dX8_chance_91 ?_
              refine lv_ixor hx hb dX8_chance_92 ?_
              refine lv_iload_n hx hb dX8_chance_93 rfl (lv_at hl 5 rfl) ?_
              refine lv_iand hx hb dX8_chance_94 ?_
              refine lv_sipush (v := 255) hx hb dX8_chance_95 (by decide +kernel) ?_
              refine lv_iand hx hb dX8_chance_98 ?_
              refine lv_if_ne (tgt := 106) hx hb dX8_chance_99 (by decide) (fun c_99 => ?_) (fun c_99 => ?_)
              · skip
                refine lv_iconst (v := 0) hx hb dX8_chance_106 (by decide +kernel) ?_
                refine lv_istore (lv' := [(9, .int 0), (8, .int (nI i_59)), (6, .long x6_59), (4, .long (mz_cs (mz_wt n fp fb p3) (p2 &&& 255) ((p2 >>> (8 &&& 31)) &&& 255) n)), (0, .ref mo), (1, .int p1), (2, .int p2), (3, .int p3)]) hx hb dX8_chance_107 hl (by decide) rfl (fun ls hl => ?_)
                refine lv_iload hx hb dX8_chance_109 (lv_at hl 0 rfl) ?_
                refine lv_if_eq (tgt := 126) hx hb dX8_chance_111 (by decide) (fun _ => ?_) (fun c_111 => absurd (by decide +kernel) c_111)
                refine lv_iinc (v := (nI (i_59 + 1))) (lv' := [(8, .int (nI (i_59 + 1))), (9, .int 0), (6, .long x6_59), (4, .long (mz_cs (mz_wt n fp fb p3) (p2 &&& 255) ((p2 >>> (8 &&& 31)) &&& 255) n)), (0, .ref mo), (1, .int p1), (2, .int p2), (3, .int p3)]) hx hb dX8_chance_126 hl (k := 1) rfl (nI_1 _) (by decide) rfl (fun ls hl => ?_)
                refine lv_goto (tgt := 59) hx hb dX8_chance_129 (by decide) ?_
                exact ih_59 _ (by omega) _ _ _ ⟨(i_59 + 1), x6_59, by omega, (mz_su_n (P := (fun c => (mz_mtc (p1 &&& 255) ((p1 >>> (8 &&& 31)) &&& 255) c n && mz_mtc (p2 &&& 255) ((p2 >>> (8 &&& 31)) &&& 255) c n))) hs_59 (show ¬ (mz_mtc (p1 &&& 255) ((p1 >>> (8 &&& 31)) &&& 255) i_59 n && mz_mtc (p2 &&& 255) ((p2 >>> (8 &&& 31)) &&& 255) i_59 n) = true by rw [mz_c2_cond hn (by rw [← hN2]; omega) hq2 c_99, Bool.and_false]; decide)), hP, hD, hS, lv_sub hl [0, 2, 3, 4, 5, 6, 7] rfl, rfl⟩
              · skip
                refine lv_iconst (v := 1) hx hb dX8_chance_102 (by decide +kernel) ?_
                refine lv_goto (tgt := 107) hx hb dX8_chance_103 (by decide) ?_
                refine lv_istore (lv' := [(9, .int 1), (8, .int (nI i_59)), (6, .long x6_59), (4, .long (mz_cs (mz_wt n fp fb p3) (p2 &&& 255) ((p2 >>> (8 &&& 31)) &&& 255) n)), (0, .ref mo), (1, .int p1), (2, .int p2), (3, .int p3)]) hx hb dX8_chance_107 hl (by decide) rfl (fun ls hl => ?_)
                refine lv_iload hx hb dX8_chance_109 (lv_at hl 0 rfl) ?_
                refine lv_if_eq (tgt := 126) hx hb dX8_chance_111 (by decide) (fun c_111 => absurd c_111 (by decide +kernel)) (fun _ => ?_)
                refine lv_lload hx hb dX8_chance_114 (lv_at hl 2 rfl) ?_
                refine lv_aload_n hx hb dX8_chance_116 rfl (lv_at hl 4 rfl) ?_
                refine lv_iload hx hb dX8_chance_117 (lv_at hl 1 rfl) ?_
                refine lv_iload_n hx hb dX8_chance_119 rfl (lv_at hl 7 rfl) ?_
                have hPc := hP.sub (ws' := [(mo, .inr (8, [.int (nI n), .ref m1, .ref m2, .ref m3, .long 0, .long 1, .ref m6, .ref m7, .ref m8, .ref m9, .ref m10, .ref m11, .ref m12, .ref m13, .ref m14, .ref m15, .ref m16])), (m2, .inl (cI, 8, .inl fp)), (m3, .inl (cI, 1024, .inl fb))]) [0, 1, 2] rfl
                refine va_calll (va_runV (As := [.int (nI i_59), .int p3]) (rest := [.long x6_59]) ⟨hx, hb, hml, hown, hts⟩ (mz_k_m_weightOf l dC dI cI cJ cZ mo m1 m2 m3 m6 m7 m8 m9 m10 m11 m12 m13 m14 m15 m16 n 0 1 fp fb i_59 p3 H (by first | assumption | omega) (by first | assumption | omega) (by first | assumption | omega) (by rw [← hN2]; omega) hq3) (cwV 2 hts gX8_chance_X8_weightOf rfl rfl rfl (by decide +kernel) ⟨Nat.le_of_ble_eq_true rfl, Nat.le_of_ble_eq_true rfl⟩) ⟨fun a U g mk q => mz_blP q, va_recv hK hPc (ci := 8) (q0 := 0) rfl rfl, fun U hU hW => ⟨rfl, hU, hPc, va_K.moved hW.alike hK, mz_nw hW hN⟩⟩ rfl rfl hl.1 rfl (lv_room (Nat.le_of_ble_eq_true rfl)) dX8_chance_120 ⟨Nat.le_of_ble_eq_true rfl, Nat.le_of_ble_eq_true rfl⟩) hS (fun q _ h => h.elim) (fun q h => h.elim) (fun r_120 u t H1 locs ht hvm hw_120 hB hz1 hk1 hS => ?_)
                have hE : H = H1 := hB.symm.trans ht
                subst hE
                obtain rfl : r_120 = (mz_wt n fp fb p3 i_59) := hw_120
                refine lv_ladd hx hb dX8_chance_123 ?_
                refine lv_topl (fun v_123 ev_123 => ?_)
                refine lv_lstore (lv' := [(6, .long v_123), (9, .int 1), (8, .int (nI i_59)), (4, .long (mz_cs (mz_wt n fp fb p3) (p2 &&& 255) ((p2 >>> (8 &&& 31)) &&& 255) n)), (0, .ref mo), (1, .int p1), (2, .int p2), (3, .int p3)]) hx hb dX8_chance_124 hl (by decide) rfl (fun ls hl => ?_)
                refine lv_iinc (v := (nI (i_59 + 1))) (lv' := [(8, .int (nI (i_59 + 1))), (6, .long v_123), (9, .int 1), (4, .long (mz_cs (mz_wt n fp fb p3) (p2 &&& 255) ((p2 >>> (8 &&& 31)) &&& 255) n)), (0, .ref mo), (1, .int p1), (2, .int p2), (3, .int p3)]) hx hb dX8_chance_126 hl (k := 2) rfl (nI_1 _) (by decide) rfl (fun ls hl => ?_)
                refine lv_goto (tgt := 59) hx hb dX8_chance_129 (by decide) ?_
                exact ih_59 _ (by omega) _ _ _ ⟨(i_59 + 1), v_123, by omega, (by rw [ev_123]; exact mz_su_y (P := (fun c => (mz_mtc (p1 &&& 255) ((p1 >>> (8 &&& 31)) &&& 255) c n && mz_mtc (p2 &&& 255) ((p2 >>> (8 &&& 31)) &&& 255) c n))) hs_59 (show (mz_mtc (p1 &&& 255) ((p1 >>> (8 &&& 31)) &&& 255) i_59 n && mz_mtc (p2 &&& 255) ((p2 >>> (8 &&& 31)) &&& 255) i_59 n) = true by rw [(mz_cond hn (by rw [← hN2]; omega) hq1).mp c_83, (mz_cond hn (by rw [← hN2]; omega) hq2).mp c_99]; rfl) rfl), hP, hD, hS, lv_sub hl [0, 1, 3, 4, 5, 6, 7] rfl, rfl⟩
        · skip
          have d_48 := mz_lc1 c_48
          refine lv_iconst (v := 0) hx hb dX8_chance_51 (by decide +kernel) ?_
          have hP9 := hP.sub (ws' := [(mo, .inr (8, [.int (nI n), .ref m1, .ref m2, .ref m3, .long 0, .long 1, .ref m6, .ref m7, .ref m8, .ref m9, .ref m10, .ref m11, .ref m12, .ref m13, .ref m14, .ref m15, .ref m16])), (m2, .inl (cI, 8, .inl fp)), (m3, .inl (cI, 1024, .inl fb))]) [0, 1, 2] rfl
          have hD9 := hD.sub (ws' := [(mo, .inr (8, [.int (nI n), .ref m1, .ref m2, .ref m3, .long 0, .long 1, .ref m6, .ref m7, .ref m8, .ref m9, .ref m10, .ref m11, .ref m12, .ref m13, .ref m14, .ref m15, .ref m16])), (m2, .inl (cI, 8, .inl fp)), (m3, .inl (cI, 1024, .inl fb))]) [0, 1, 2] (by decide) rfl
          refine W.widen (k := 0) (n := 0) (Nat.le_of_ble_eq_true rfl) (Nat.le_of_ble_eq_true rfl) ?_
          exact W.iret (v := 0) hx hb hr (fun t ht hW => ⟨⟨0, (), rfl, Or.inr ⟨rfl, d_48⟩, 0, 1, (fun _ => ⟨rfl, rfl⟩), (fun h => absurd d_48 h), by rw [ht]; exact hP9, hD9⟩, hS.F ht⟩) hS.2.2 dX8_chance_52
      · skip
        refine lv_if_ne (tgt := 36) hx hb dX8_chance_31 (by decide) (fun c_31 => absurd (by decide +kernel) c_31) (fun _ => ?_)
        first | exact absurd hq1 hc_12 | exact absurd hq2 hc_20 | exact absurd hq3 hc_28
    · skip
      refine lv_if_eq (tgt := 34) hx hb dX8_chance_23 (by decide) (fun _ => ?_) (fun c_23 => absurd (by decide +kernel) c_23)
      first | exact absurd hq1 hc_12 | exact absurd hq2 hc_20 | exact absurd hq3 hc_28
  · skip
    refine lv_if_eq (tgt := 34) hx hb dX8_chance_15 (by decide) (fun _ => ?_) (fun c_15 => absurd (by decide +kernel) c_15)
    first | exact absurd hq1 hc_12 | exact absurd hq2 hc_20 | exact absurd hq3 hc_28
set_option maxHeartbeats 1000000 in
set_option maxRecDepth 100000 in
theorem mz_n_m_chance_out (l : Launch) (dC : Nat → ClassId) (dI : Nat → Nat → Nat) (cI cJ cZ : ClassId) (mo : Nat) (m1 : Nat) (m2 : Nat) (m3 : Nat) (m6 : Nat) (m7 : Nat) (m8 : Nat) (m9 : Nat) (m10 : Nat) (m11 : Nat) (m12 : Nat) (m13 : Nat) (m14 : Nat) (m15 : Nat) (m16 : Nat) (n : Nat) (ka : Int64) (kb : Int64) (p1 : Int32) (p2 : Int32) (p3 : Int32) (sz : Nat) (hn : n ≤ 8) (hnq : ¬ (mz_stg n p1 ∧ mz_stg n p2 ∧ mz_stg n p3)) : Met l yX8_chance wsX8_chance ({ frames := 2, cells := 0, slots := 0, locals := 42 }) (va_Pc [.ref mo, .int p1, .int p2, .int p3] (fun U => U.heap.size = sz ∧ va_P (dC, dI) vwCl [(mo, .inr (8, [.int (nI n), .ref m1, .ref m2, .ref m3, .long ka, .long kb, .ref m6, .ref m7, .ref m8, .ref m9, .ref m10, .ref m11, .ref m12, .ref m13, .ref m14, .ref m15, .ref m16]))] U.heap ∧ va_K (dC, dI) vwCl [(cI, FieldType.int), (cJ, FieldType.long), (cZ, FieldType.boolean)] U ∧ va_D (fun _ => True) [(mo, .inr (8, [.int (nI n), .ref m1, .ref m2, .ref m3, .long ka, .long kb, .ref m6, .ref m7, .ref m8, .ref m9, .ref m10, .ref m11, .ref m12, .ref m13, .ref m14, .ref m15, .ref m16]))] ∧ mz_N U)) (va_Qi (fun (r : Int32) (_ : Unit) => r = (-1)) (fun _ t => ∃ (gka : Int64), ∃ (gkb : Int64), (gka = 0) ∧ (gkb = 1) ∧ va_P (dC, dI) vwCl [(mo, .inr (8, [.int (nI n), .ref m1, .ref m2, .ref m3, .long gka, .long gkb, .ref m6, .ref m7, .ref m8, .ref m9, .ref m10, .ref m11, .ref m12, .ref m13, .ref m14, .ref m15, .ref m16]))] t.heap ∧ va_D (va_A [(mo, .inr (8, [.int (nI n), .ref m1, .ref m2, .ref m3, .long ka, .long kb, .ref m6, .ref m7, .ref m8, .ref m9, .ref m10, .ref m11, .ref m12, .ref m13, .ref m14, .ref m15, .ref m16]))] sz) [(mo, .inr (8, [.int (nI n), .ref m1, .ref m2, .ref m3, .long gka, .long gkb, .ref m6, .ref m7, .ref m8, .ref m9, .ref m10, .ref m11, .ref m12, .ref m13, .ref m14, .ref m15, .ref m16]))]) (va_A [(mo, .inr (8, [.int (nI n), .ref m1, .ref m2, .ref m3, .long ka, .long kb, .ref m6, .ref m7, .ref m8, .ref m9, .ref m10, .ref m11, .ref m12, .ref m13, .ref m14, .ref m15, .ref m16]))] sz)) 0 0 (va_A [(mo, .inr (8, [.int (nI n), .ref m1, .ref m2, .ref m3, .long ka, .long kb, .ref m6, .ref m7, .ref m8, .ref m9, .ref m10, .ref m11, .ref m12, .ref m13, .ref m14, .ref m15, .ref m16]))] sz) := by
  refine Met.ofW (cc := cX8_chance) (maxL := 10) (ret := (some .int)) (by decide) rfl ?_
  intro p e s m args below meth c s₁ B hml hv
  obtain ⟨rfl, hsz, hP, hK, hD0, hN⟩ := hv
  subst hsz
  have hx := B.exec
  have hb := B.bytes
  have hr := B.returns
  have hts := atoms_spec (ws := wsX8_chance) B.pre
  have hown : s.vm.findClass RX8 = some m.cls := findClass_of_methodNamed B.named
  have hlocks := B.notSynchronized
  have hD := hD0.self (sz := s.heap.size)
  generalize hAe : va_A [(mo, .inr (8, [.int (nI n), .ref m1, .ref m2, .ref m3, .long ka, .long kb, .ref m6, .ref m7, .ref m8, .ref m9, .ref m10, .ref m11, .ref m12, .ref m13, .ref m14, .ref m15, .ref m16]))] s.heap.size = A at hD ⊢
  have hA : ∀ q : Nat, s.heap.size ≤ q → A q := fun q h => by rw [← hAe]; exact Or.inr h
  have hS : va_S A s.heap s.heap [] := va_S.rf
  have hiX8 : ∀ w ∈ u_ws RX8 TX8 17, w ∈ wsX8_chance := by decide +kernel
  have hl := lv_entry ([.ref mo, .int p1, .int p2, .int p3]) (n := 10) (Nat.le_of_ble_eq_true rfl)
  rw [lg_entry_eq]
  generalize (lg_sl ([.ref mo, .int p1, .int p2, .int p3]) ++ List.replicate (10 - (lg_sl ([.ref mo, .int p1, .int p2, .int p3])).length) Slot.unset).toArray = ls at hl ⊢
  have hl : lv_has ls 10 [(0, .ref mo), (1, .int p1), (2, .int p2), (3, .int p3)] := hl
  refine lv_aload_n hx hb dX8_chance_0 rfl (lv_at hl 0 rfl) ?_
  refine lv_lconst (v := 0) hx hb dX8_chance_1 (by decide +kernel) ?_
  refine va_put (D := (dC, dI)) (ci := 8) (v := .long 0) (ty := .long) (C := RX8) (T := TX8) (N := 17) hx hb hts hiX8 tyX8 tyX8_ok nmX8 hown hK hP hD hS 0 rfl rfl 4 (by decide) (hts (.fieldLink RX8 110 "MadeItSoModel" "above" "J") (by decide +kernel)) (fun _ h9 => h9) rfl (by decide +kernel) rfl rfl (Nat.le_of_ble_eq_true rfl) dX8_chance_2 (fun H locs hP hD hS => ?_)
  have hP : va_P (dC, dI) vwCl [(mo, .inr (8, [.int (nI n), .ref m1, .ref m2, .ref m3, .long 0, .long kb, .ref m6, .ref m7, .ref m8, .ref m9, .ref m10, .ref m11, .ref m12, .ref m13, .ref m14, .ref m15, .ref m16]))] H := hP
  have hD : va_D A [(mo, .inr (8, [.int (nI n), .ref m1, .ref m2, .ref m3, .long 0, .long kb, .ref m6, .ref m7, .ref m8, .ref m9, .ref m10, .ref m11, .ref m12, .ref m13, .ref m14, .ref m15, .ref m16]))] := hD
  refine lv_aload_n hx hb dX8_chance_5 rfl (lv_at hl 0 rfl) ?_
  refine lv_lconst (v := 1) hx hb dX8_chance_6 (by decide +kernel) ?_
  refine va_put (D := (dC, dI)) (ci := 8) (v := .long 1) (ty := .long) (C := RX8) (T := TX8) (N := 17) hx hb hts hiX8 tyX8 tyX8_ok nmX8 hown hK hP hD hS 0 rfl rfl 5 (by decide) (hts (.fieldLink RX8 20 "MadeItSoModel" "below" "J") (by decide +kernel)) (fun _ h9 => h9) rfl (by decide +kernel) rfl rfl (Nat.le_of_ble_eq_true rfl) dX8_chance_7 (fun H locs hP hD hS => ?_)
  have hP : va_P (dC, dI) vwCl [(mo, .inr (8, [.int (nI n), .ref m1, .ref m2, .ref m3, .long 0, .long 1, .ref m6, .ref m7, .ref m8, .ref m9, .ref m10, .ref m11, .ref m12, .ref m13, .ref m14, .ref m15, .ref m16]))] H := hP
  have hD : va_D A [(mo, .inr (8, [.int (nI n), .ref m1, .ref m2, .ref m3, .long 0, .long 1, .ref m6, .ref m7, .ref m8, .ref m9, .ref m10, .ref m11, .ref m12, .ref m13, .ref m14, .ref m15, .ref m16]))] := hD
  refine lv_aload_n hx hb dX8_chance_10 rfl (lv_at hl 0 rfl) ?_
  refine lv_iload_n hx hb dX8_chance_11 rfl (lv_at hl 1 rfl) ?_
  have hPc := hP.sub (ws' := [(mo, .inr (8, [.int (nI n), .ref m1, .ref m2, .ref m3, .long 0, .long 1, .ref m6, .ref m7, .ref m8, .ref m9, .ref m10, .ref m11, .ref m12, .ref m13, .ref m14, .ref m15, .ref m16]))]) [0] rfl
  refine va_calli (va_runV (As := [.int p1]) (rest := []) ⟨hx, hb, hml, hown, hts⟩ (mz_h_m_isSetting l dC dI cI cJ cZ mo m1 m2 m3 m6 m7 m8 m9 m10 m11 m12 m13 m14 m15 m16 n 0 1 p1 H (by first | assumption | omega)) (cwV 1 hts gX8_chance_X8_isSetting rfl rfl rfl (by decide +kernel) ⟨Nat.le_of_ble_eq_true rfl, Nat.le_of_ble_eq_true rfl⟩) ⟨fun a U g mk q => mz_blP q, va_recv hK hPc (ci := 8) (q0 := 0) rfl rfl, fun U hU hW => ⟨rfl, hU, hPc, va_K.moved hW.alike hK, mz_nw hW hN⟩⟩ rfl rfl hl.1 rfl (lv_room (Nat.le_of_ble_eq_true rfl)) dX8_chance_12 ⟨Nat.le_of_ble_eq_true rfl, Nat.le_of_ble_eq_true rfl⟩) hS (fun q _ h => h.elim) (fun q h => h.elim) (fun r_12 u t H1 locs ht hvm hw_12 hB hz1 hk1 hS => ?_)
  have hE : H = H1 := hB.symm.trans ht
  subst hE
  rcases (show (r_12 = 1 ∧ mz_stg n p1) ∨ (r_12 = 0 ∧ ¬ mz_stg n p1) from hw_12) with ⟨rfl, hc_12⟩ | ⟨rfl, hc_12⟩
  · skip
    refine lv_if_eq (tgt := 34) hx hb dX8_chance_15 (by decide) (fun c_15 => absurd c_15 (by decide +kernel)) (fun _ => ?_)
    refine lv_aload_n hx hb dX8_chance_18 rfl (lv_at hl 0 rfl) ?_
    refine lv_iload_n hx hb dX8_chance_19 rfl (lv_at hl 2 rfl) ?_
    have hPc := hP.sub (ws' := [(mo, .inr (8, [.int (nI n), .ref m1, .ref m2, .ref m3, .long 0, .long 1, .ref m6, .ref m7, .ref m8, .ref m9, .ref m10, .ref m11, .ref m12, .ref m13, .ref m14, .ref m15, .ref m16]))]) [0] rfl
    refine va_calli (va_runV (As := [.int p2]) (rest := []) ⟨hx, hb, hml, hown, hts⟩ (mz_h_m_isSetting l dC dI cI cJ cZ mo m1 m2 m3 m6 m7 m8 m9 m10 m11 m12 m13 m14 m15 m16 n 0 1 p2 H (by first | assumption | omega)) (cwV 1 hts gX8_chance_X8_isSetting rfl rfl rfl (by decide +kernel) ⟨Nat.le_of_ble_eq_true rfl, Nat.le_of_ble_eq_true rfl⟩) ⟨fun a U g mk q => mz_blP q, va_recv hK hPc (ci := 8) (q0 := 0) rfl rfl, fun U hU hW => ⟨rfl, hU, hPc, va_K.moved hW.alike hK, mz_nw hW hN⟩⟩ rfl rfl hl.1 rfl (lv_room (Nat.le_of_ble_eq_true rfl)) dX8_chance_20 ⟨Nat.le_of_ble_eq_true rfl, Nat.le_of_ble_eq_true rfl⟩) hS (fun q _ h => h.elim) (fun q h => h.elim) (fun r_20 u t H1 locs ht hvm hw_20 hB hz1 hk1 hS => ?_)
    have hE : H = H1 := hB.symm.trans ht
    subst hE
    rcases (show (r_20 = 1 ∧ mz_stg n p2) ∨ (r_20 = 0 ∧ ¬ mz_stg n p2) from hw_20) with ⟨rfl, hc_20⟩ | ⟨rfl, hc_20⟩
    · skip
      refine lv_if_eq (tgt := 34) hx hb dX8_chance_23 (by decide) (fun c_23 => absurd c_23 (by decide +kernel)) (fun _ => ?_)
      refine lv_aload_n hx hb dX8_chance_26 rfl (lv_at hl 0 rfl) ?_
      refine lv_iload_n hx hb dX8_chance_27 rfl (lv_at hl 3 rfl) ?_
      have hPc := hP.sub (ws' := [(mo, .inr (8, [.int (nI n), .ref m1, .ref m2, .ref m3, .long 0, .long 1, .ref m6, .ref m7, .ref m8, .ref m9, .ref m10, .ref m11, .ref m12, .ref m13, .ref m14, .ref m15, .ref m16]))]) [0] rfl
      refine va_calli (va_runV (As := [.int p3]) (rest := []) ⟨hx, hb, hml, hown, hts⟩ (mz_h_m_isSetting l dC dI cI cJ cZ mo m1 m2 m3 m6 m7 m8 m9 m10 m11 m12 m13 m14 m15 m16 n 0 1 p3 H (by first | assumption | omega)) (cwV 1 hts gX8_chance_X8_isSetting rfl rfl rfl (by decide +kernel) ⟨Nat.le_of_ble_eq_true rfl, Nat.le_of_ble_eq_true rfl⟩) ⟨fun a U g mk q => mz_blP q, va_recv hK hPc (ci := 8) (q0 := 0) rfl rfl, fun U hU hW => ⟨rfl, hU, hPc, va_K.moved hW.alike hK, mz_nw hW hN⟩⟩ rfl rfl hl.1 rfl (lv_room (Nat.le_of_ble_eq_true rfl)) dX8_chance_28 ⟨Nat.le_of_ble_eq_true rfl, Nat.le_of_ble_eq_true rfl⟩) hS (fun q _ h => h.elim) (fun q h => h.elim) (fun r_28 u t H1 locs ht hvm hw_28 hB hz1 hk1 hS => ?_)
      have hE : H = H1 := hB.symm.trans ht
      subst hE
      rcases (show (r_28 = 1 ∧ mz_stg n p3) ∨ (r_28 = 0 ∧ ¬ mz_stg n p3) from hw_28) with ⟨rfl, hc_28⟩ | ⟨rfl, hc_28⟩
      · skip
        refine lv_if_ne (tgt := 36) hx hb dX8_chance_31 (by decide) (fun _ => ?_) (fun c_31 => absurd c_31 (by decide +kernel))
        exact absurd ⟨hc_12, hc_20, hc_28⟩ hnq
      · skip
        refine lv_if_ne (tgt := 36) hx hb dX8_chance_31 (by decide) (fun c_31 => absurd (by decide +kernel) c_31) (fun _ => ?_)
        refine lv_iconst (v := (-1)) hx hb dX8_chance_34 (by decide +kernel) ?_
        have hP9 := hP.sub (ws' := [(mo, .inr (8, [.int (nI n), .ref m1, .ref m2, .ref m3, .long 0, .long 1, .ref m6, .ref m7, .ref m8, .ref m9, .ref m10, .ref m11, .ref m12, .ref m13, .ref m14, .ref m15, .ref m16]))]) [0] rfl
        have hD9 := hD.sub (ws' := [(mo, .inr (8, [.int (nI n), .ref m1, .ref m2, .ref m3, .long 0, .long 1, .ref m6, .ref m7, .ref m8, .ref m9, .ref m10, .ref m11, .ref m12, .ref m13, .ref m14, .ref m15, .ref m16]))]) [0] (by decide) rfl
        refine W.widen (k := 0) (n := 0) (Nat.le_of_ble_eq_true rfl) (Nat.le_of_ble_eq_true rfl) ?_
        exact W.iret (v := (-1)) hx hb hr (fun t ht hW => ⟨⟨(-1), (), rfl, rfl, 0, 1, rfl, rfl, by rw [ht]; exact hP9, hD9⟩, hS.F ht⟩) hS.2.2 dX8_chance_35
    · skip
      refine lv_if_eq (tgt := 34) hx hb dX8_chance_23 (by decide) (fun _ => ?_) (fun c_23 => absurd (by decide +kernel) c_23)
      refine lv_iconst (v := (-1)) hx hb dX8_chance_34 (by decide +kernel) ?_
      have hP9 := hP.sub (ws' := [(mo, .inr (8, [.int (nI n), .ref m1, .ref m2, .ref m3, .long 0, .long 1, .ref m6, .ref m7, .ref m8, .ref m9, .ref m10, .ref m11, .ref m12, .ref m13, .ref m14, .ref m15, .ref m16]))]) [0] rfl
      have hD9 := hD.sub (ws' := [(mo, .inr (8, [.int (nI n), .ref m1, .ref m2, .ref m3, .long 0, .long 1, .ref m6, .ref m7, .ref m8, .ref m9, .ref m10, .ref m11, .ref m12, .ref m13, .ref m14, .ref m15, .ref m16]))]) [0] (by decide) rfl
      refine W.widen (k := 0) (n := 0) (Nat.le_of_ble_eq_true rfl) (Nat.le_of_ble_eq_true rfl) ?_
      exact W.iret (v := (-1)) hx hb hr (fun t ht hW => ⟨⟨(-1), (), rfl, rfl, 0, 1, rfl, rfl, by rw [ht]; exact hP9, hD9⟩, hS.F ht⟩) hS.2.2 dX8_chance_35
  · skip
    refine lv_if_eq (tgt := 34) hx hb dX8_chance_15 (by decide) (fun _ => ?_) (fun c_15 => absurd (by decide +kernel) c_15)
    refine lv_iconst (v := (-1)) hx hb dX8_chance_34 (by decide +kernel) ?_
    have hP9 := hP.sub (ws' := [(mo, .inr (8, [.int (nI n), .ref m1, .ref m2, .ref m3, .long 0, .long 1, .ref m6, .ref m7, .ref m8, .ref m9, .ref m10, .ref m11, .ref m12, .ref m13, .ref m14, .ref m15, .ref m16]))]) [0] rfl
    have hD9 := hD.sub (ws' := [(mo, .inr (8, [.int (nI n), .ref m1, .ref m2, .ref m3, .long 0, .long 1, .ref m6, .ref m7, .ref m8, .ref m9, .ref m10, .ref m11, .ref m12, .ref m13, .ref m14, .ref m15, .ref m16]))]) [0] (by decide) rfl
    refine W.widen (k := 0) (n := 0) (Nat.le_of_ble_eq_true rfl) (Nat.le_of_ble_eq_true rfl) ?_
    exact W.iret (v := (-1)) hx hb hr (fun t ht hW => ⟨⟨(-1), (), rfl, rfl, 0, 1, rfl, rfl, by rw [ht]; exact hP9, hD9⟩, hS.F ht⟩) hS.2.2 dX8_chance_35
