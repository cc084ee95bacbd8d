/-! exact answers: rows, books, told, count -/
set_option maxHeartbeats 1000000 in
set_option maxRecDepth 100000 in
theorem mz_f_bitCount (l : Launch) (dC : Nat → ClassId) (dI : Nat → Nat → Nat) (cI cJ cZ : ClassId) (p0 : Int32) (Hq : Heap) (hx8 : ∀ j, j < 32 → mz_t p0 j = true → j < 8) : Met l yJ6_bitCount_0f7a4 wsJ6_bitCount_0f7a4 ({ frames := 0, cells := 0, slots := 0, locals := 0 }) (va_Pc [.int p0] (fun U => U.heap = Hq ∧ va_P (dC, dI) vwCl [] Hq ∧ va_K (dC, dI) vwCl [(cI, FieldType.int), (cJ, FieldType.long), (cZ, FieldType.boolean)] U ∧ mz_N U)) (va_Qi (fun (r : Int32) (_ : Unit) => r = (nI (mz_pc p0 8))) (fun _ t => t.heap = Hq) (fun _ : Nat => False)) 0 0 (fun _ : Nat => False) := by
  refine Met.ofW (cc := cJ6_bitCount_0f7a4) (maxL := 1) (ret := (some .int)) (by decide) rfl ?_
  intro p e s m args below meth c s₁ B hml hv
  obtain ⟨rfl, hH, hP, hK, hN⟩ := hv
  subst hH
  have hx := B.exec
  have hb := B.bytes
  have hr := B.returns
  have hts := atoms_spec (ws := wsJ6_bitCount_0f7a4) B.pre
  have hown : s.vm.findClass RJ6 = some m.cls := findClass_of_methodNamed B.named
  have hlocks := B.notSynchronized
  have hS : va_S (fun _ : Nat => False) s.heap s.heap [] := va_S.rf
  have hl := lv_entry ([.int p0]) (n := 1) (Nat.le_of_ble_eq_true rfl)
  rw [lg_entry_eq]
  generalize (lg_sl ([.int p0]) ++ List.replicate (1 - (lg_sl ([.int p0])).length) Slot.unset).toArray = ls at hl ⊢
  have hl : lv_has ls 1 [(0, .int p0)] := hl
  refine lv_iload_n hx hb dJ6_bitCount_0f7a4_0 rfl (lv_at hl 0 rfl) ?_
  refine lv_iload_n hx hb dJ6_bitCount_0f7a4_1 rfl (lv_at hl 0 rfl) ?_
  refine lv_iconst (v := 1) hx hb dJ6_bitCount_0f7a4_2 (by decide +kernel) ?_
  refine lv_iushr hx hb dJ6_bitCount_0f7a4_3 rfl ?_
  refine lv_topi (fun v_3 ev_3 => ?_)
  refine lv_ldcw hx hb hown (hts (.constant RJ6 265 (1431655765)) (by decide +kernel)) dJ6_bitCount_0f7a4_4 ?_
  refine lv_iand hx hb dJ6_bitCount_0f7a4_7 ?_
  refine lv_isub hx hb dJ6_bitCount_0f7a4_8 ?_
  refine lv_istore_n (lv' := [(0, .int (p0 - (v_3 &&& 1431655765)))]) hx hb dJ6_bitCount_0f7a4_9 rfl hl (by decide) rfl (fun ls hl => ?_)
  refine lv_iload_n hx hb dJ6_bitCount_0f7a4_10 rfl (lv_at hl 0 rfl) ?_
  refine lv_ldcw hx hb hown (hts (.constant RJ6 266 (858993459)) (by decide +kernel)) dJ6_bitCount_0f7a4_11 ?_
  refine lv_iand hx hb dJ6_bitCount_0f7a4_14 ?_
  refine lv_iload_n hx hb dJ6_bitCount_0f7a4_15 rfl (lv_at hl 0 rfl) ?_
  refine lv_iconst (v := 2) hx hb dJ6_bitCount_0f7a4_16 (by decide +kernel) ?_
  refine lv_iushr hx hb dJ6_bitCount_0f7a4_17 rfl ?_
  refine lv_topi (fun v_17 ev_17 => ?_)
  refine lv_ldcw hx hb hown (hts (.constant RJ6 266 (858993459)) (by decide +kernel)) dJ6_bitCount_0f7a4_18 ?_
  refine lv_iand hx hb dJ6_bitCount_0f7a4_21 ?_
  refine lv_iadd hx hb dJ6_bitCount_0f7a4_22 ?_
  refine lv_istore_n (lv' := [(0, .int (((p0 - (v_3 &&& 1431655765)) &&& 858993459) + (v_17 &&& 858993459)))]) hx hb dJ6_bitCount_0f7a4_23 rfl hl (by decide) rfl (fun ls hl => ?_)
  refine lv_iload_n hx hb dJ6_bitCount_0f7a4_24 rfl (lv_at hl 0 rfl) ?_
  refine lv_iload_n hx hb dJ6_bitCount_0f7a4_25 rfl (lv_at hl 0 rfl) ?_
  refine lv_iconst (v := 4) hx hb dJ6_bitCount_0f7a4_26 (by decide +kernel) ?_
  refine lv_iushr hx hb dJ6_bitCount_0f7a4_27 rfl ?_
  refine lv_topi (fun v_27 ev_27 => ?_)
  refine lv_iadd hx hb dJ6_bitCount_0f7a4_28 ?_
  refine lv_ldcw hx hb hown (hts (.constant RJ6 267 (252645135)) (by decide +kernel)) dJ6_bitCount_0f7a4_29 ?_
  refine lv_iand hx hb dJ6_bitCount_0f7a4_32 ?_
  refine lv_istore_n (lv' := [(0, .int (((((p0 - (v_3 &&& 1431655765)) &&& 858993459) + (v_17 &&& 858993459)) + v_27) &&& 252645135))]) hx hb dJ6_bitCount_0f7a4_33 rfl hl (by decide) rfl (fun ls hl => ?_)
  refine lv_iload_n hx hb dJ6_bitCount_0f7a4_34 rfl (lv_at hl 0 rfl) ?_
  refine lv_iload_n hx hb dJ6_bitCount_0f7a4_35 rfl (lv_at hl 0 rfl) ?_
  refine lv_bipush (v := 8) hx hb dJ6_bitCount_0f7a4_36 (by decide +kernel) ?_
  refine lv_iushr hx hb dJ6_bitCount_0f7a4_38 rfl ?_
  refine lv_topi (fun v_38 ev_38 => ?_)
  refine lv_iadd hx hb dJ6_bitCount_0f7a4_39 ?_
  refine lv_istore_n (lv' := [(0, .int ((((((p0 - (v_3 &&& 1431655765)) &&& 858993459) + (v_17 &&& 858993459)) + v_27) &&& 252645135) + v_38))]) hx hb dJ6_bitCount_0f7a4_40 rfl hl (by decide) rfl (fun ls hl => ?_)
  refine lv_iload_n hx hb dJ6_bitCount_0f7a4_41 rfl (lv_at hl 0 rfl) ?_
  refine lv_iload_n hx hb dJ6_bitCount_0f7a4_42 rfl (lv_at hl 0 rfl) ?_
  refine lv_bipush (v := 16) hx hb dJ6_bitCount_0f7a4_43 (by decide +kernel) ?_
  refine lv_iushr hx hb dJ6_bitCount_0f7a4_45 rfl ?_
  refine lv_topi (fun v_45 ev_45 => ?_)
  refine lv_iadd hx hb dJ6_bitCount_0f7a4_46 ?_
  refine lv_istore_n (lv' := [(0, .int (((((((p0 - (v_3 &&& 1431655765)) &&& 858993459) + (v_17 &&& 858993459)) + v_27) &&& 252645135) + v_38) + v_45))]) hx hb dJ6_bitCount_0f7a4_47 rfl hl (by decide) rfl (fun ls hl => ?_)
  refine lv_iload_n hx hb dJ6_bitCount_0f7a4_48 rfl (lv_at hl 0 rfl) ?_
  refine lv_bipush (v := 63) hx hb dJ6_bitCount_0f7a4_49 (by decide +kernel) ?_
  refine lv_iand hx hb dJ6_bitCount_0f7a4_51 ?_
  refine W.widen (k := 0) (n := 0) (Nat.le_of_ble_eq_true rfl) (Nat.le_of_ble_eq_true rfl) ?_
  exact W.iret (v := ((((((((p0 - (v_3 &&& 1431655765)) &&& 858993459) + (v_17 &&& 858993459)) + v_27) &&& 252645135) + v_38) + v_45) &&& 63)) hx hb hr (fun t ht hW => ⟨⟨((((((((p0 - (v_3 &&& 1431655765)) &&& 858993459) + (v_17 &&& 858993459)) + v_27) &&& 252645135) + v_38) + v_45) &&& 63), (), rfl, (mz_bc8 hx8 ev_3 ev_17 ev_27 ev_38 ev_45), ht⟩, hS.F ht⟩) hS.2.2 dJ6_bitCount_0f7a4_52
set_option maxHeartbeats 1000000 in
set_option maxRecDepth 100000 in
theorem mz_f_partsOf (l : Launch) (dC : Nat → ClassId) (dI : Nat → Nat → Nat) (cI cJ cZ : ClassId) (p0 : Int32) (Hq : Heap) (hx8 : ∀ j, j < 32 → mz_t p0 j = true → j < 8) : Met l yX7_partsOf wsX7_partsOf ({ frames := 1, cells := 0, slots := 0, locals := 20 }) (va_Pc [.int p0] (fun U => U.heap = Hq ∧ va_P (dC, dI) vwCl [] Hq ∧ va_K (dC, dI) vwCl [(cI, FieldType.int), (cJ, FieldType.long), (cZ, FieldType.boolean)] U ∧ mz_N U)) (va_Qi (fun (r : Int32) (_ : Unit) => r = (nI (2 ^ (mz_pc p0 8)))) (fun _ t => t.heap = Hq) (fun _ : Nat => False)) 0 0 (fun _ : Nat => False) := by
  refine Met.ofW (cc := cX7_partsOf) (maxL := 1) (ret := (some .int)) (by decide) rfl ?_
  intro p e s m args below meth c s₁ B hml hv
  obtain ⟨rfl, hH, hP, hK, hN⟩ := hv
  subst hH
  have hx := B.exec
  have hb := B.bytes
  have hr := B.returns
  have hts := atoms_spec (ws := wsX7_partsOf) B.pre
  have hown : s.vm.findClass RX7 = some m.cls := findClass_of_methodNamed B.named
  have hlocks := B.notSynchronized
  have hS : va_S (fun _ : Nat => False) s.heap s.heap [] := va_S.rf
  have hl := lv_entry ([.int p0]) (n := 1) (Nat.le_of_ble_eq_true rfl)
  rw [lg_entry_eq]
  generalize (lg_sl ([.int p0]) ++ List.replicate (1 - (lg_sl ([.int p0])).length) Slot.unset).toArray = ls at hl ⊢
  have hl : lv_has ls 1 [(0, .int p0)] := hl
  refine lv_iconst (v := 1) hx hb dX7_partsOf_0 (by decide +kernel) ?_
  refine lv_iload_n hx hb dX7_partsOf_1 rfl (lv_at hl 0 rfl) ?_
  have hPc := hP.sub (ws' := []) [] rfl
  refine va_calli (va_runS (As := [.int p0]) (rest := [.int 1]) ⟨hx, hb, hml, hown, hts⟩ (mz_f_bitCount l dC dI cI cJ cZ p0 s.heap (by first | assumption | omega)) (va_cwS 1 hts gX7_partsOf_J6_bitCount_0f7a4 rfl rfl rfl (by decide +kernel) ⟨Nat.le_of_ble_eq_true rfl, Nat.le_of_ble_eq_true rfl⟩) ⟨fun a U g mk q => mz_blP q, fun U hU hW => ⟨rfl, hU, hPc, va_K.moved hW.alike hK, mz_nw hW hN⟩⟩ rfl rfl hl.1 rfl (lv_room (Nat.le_of_ble_eq_true rfl)) dX7_partsOf_2 ⟨Nat.le_of_ble_eq_true rfl, Nat.le_of_ble_eq_true rfl⟩) hS (fun q _ h => h.elim) (fun q h => h.elim) (fun r_2 u t H1 locs ht hvm hw_2 hB hz1 hk1 hS => ?_)
  have hE : s.heap = H1 := hB.symm.trans ht
  subst hE
  obtain rfl : r_2 = (nI (mz_pc p0 8)) := hw_2
  refine lv_ishl hx hb dX7_partsOf_5 ?_
  refine W.widen (k := 0) (n := 0) (Nat.le_of_ble_eq_true rfl) (Nat.le_of_ble_eq_true rfl) ?_
  exact W.iret (v := (1 <<< ((nI (mz_pc p0 8)) &&& 31))) hx hb hr (fun t ht hW => ⟨⟨(1 <<< ((nI (mz_pc p0 8)) &&& 31)), (), rfl, (mz_sh1 (Nat.lt_of_le_of_lt (mz_pc_le _ 8) (by decide))), ht⟩, hS.F ht⟩) hS.2.2 dX7_partsOf_6
set_option maxHeartbeats 1000000 in
set_option maxRecDepth 100000 in
theorem mz_f_arrows (l : Launch) (dC : Nat → ClassId) (dI : Nat → Nat → Nat) (cI cJ cZ : ClassId) (dr : Nat) (dp : Nat) (dc : Nat) (n : Nat) (fp : Nat → Int32) (Hq : Heap) (hn : n ≤ 8) (hb8 : ∀ k, k < n → ∀ q, q < 32 → mz_t (fp k) q = true → q < 8) : Met l yX2_arrows wsX2_arrows ({ frames := 1, cells := 0, slots := 0, locals := 20 }) (va_Pc [.ref dr] (fun U => U.heap = Hq ∧ va_P (dC, dI) vwCl [(dr, .inr (2, [.ref dp, .ref dc, .int (nI n)])), (dp, .inl (cI, 8, .inl fp))] Hq ∧ va_K (dC, dI) vwCl [(cI, FieldType.int), (cJ, FieldType.long), (cZ, FieldType.boolean)] U ∧ mz_N U)) (va_Qi (fun (r : Int32) (_ : Unit) => r = (nI (mz_sm fp n))) (fun _ t => t.heap = Hq) (fun _ : Nat => False)) 0 0 (fun _ : Nat => False) := by
  refine Met.ofW (cc := cX2_arrows) (maxL := 3) (ret := (some .int)) (by decide) rfl ?_
  intro p e s m args below meth c s₁ B hml hv
  obtain ⟨rfl, hH, hP, hK, hN⟩ := hv
  subst hH
  have hx := B.exec
  have hb := B.bytes
  have hr := B.returns
  have hts := atoms_spec (ws := wsX2_arrows) B.pre
  have hown : s.vm.findClass RX2 = some m.cls := findClass_of_methodNamed B.named
  have hlocks := B.notSynchronized
  have hS : va_S (fun _ : Nat => False) s.heap s.heap [] := va_S.rf
  have hiX2 : ∀ w ∈ u_ws RX2 TX2 3, w ∈ wsX2_arrows := by decide +kernel
  have hl := lv_entry ([.ref dr]) (n := 3) (Nat.le_of_ble_eq_true rfl)
  rw [lg_entry_eq]
  generalize (lg_sl ([.ref dr]) ++ List.replicate (3 - (lg_sl ([.ref dr])).length) Slot.unset).toArray = ls at hl ⊢
  have hl : lv_has ls 3 [(0, .ref dr)] := hl
  refine lv_iconst (v := 0) hx hb dX2_arrows_0 (by decide +kernel) ?_
  refine lv_istore_n (lv' := [(1, .int 0), (0, .ref dr)]) hx hb dX2_arrows_1 rfl hl (by decide) rfl (fun ls hl => ?_)
  refine lv_iconst (v := 0) hx hb dX2_arrows_2 (by decide +kernel) ?_
  refine lv_istore_n (lv' := [(2, .int 0), (1, .int 0), (0, .ref dr)]) hx hb dX2_arrows_3 rfl hl (by decide) rfl (fun ls hl => ?_)
  refine mz_loopU (fun k H locs ls => ∃ (i_4 : Nat), ∃ (x1_4 : Int32), i_4 ≤ n ∧ (x1_4 = nI (mz_sm fp i_4)) ∧ H = s.heap ∧ va_S (fun _ : Nat => False) s.heap H locs ∧ lv_has ls 3 [(2, .int (nI i_4)), (1, .int x1_4), (0, .ref dr)] ∧ k = n - i_4) ?_ _ _ _ _ ⟨0, 0, by omega, rfl, rfl, hS, lv_sub hl [0, 1, 2] rfl, rfl⟩
  intro k_4 H locs ls hI_4 ih_4
  obtain ⟨i_4, x1_4, hi_4, hr_4, hH_4, hS, hl, hk_4⟩ := hI_4
  subst hH_4
  refine lv_iload_n hx hb dX2_arrows_4 rfl (lv_at hl 0 rfl) ?_
  refine lv_aload_n hx hb dX2_arrows_5 rfl (lv_at hl 2 rfl) ?_
  refine va_get (D := (dC, dI)) (ci := 2) (v := .int (nI n)) (C := RX2) (T := TX2) (N := 3) hx hb hts hiX2 hown hK hP 0 rfl rfl 2 (by decide) (hts (.fieldLink RX2 18 "MadeItSo$Drawing" "things" "I") (by decide +kernel)) (fun _ h9 => h9) rfl dX2_arrows_6 ?_
  refine lv_icmp_ge (tgt := 30) hx hb dX2_arrows_9 (by decide) (fun c_9 => ?_) (fun c_9 => ?_)
  · skip
    have d_9 : n ≤ i_4 := (nI_leI (a := n) (b := i_4) (by omega) (by omega)).mp c_9
    refine lv_iload_n hx hb dX2_arrows_30 rfl (lv_at hl 1 rfl) ?_
    refine W.widen (k := 0) (n := 0) (Nat.le_of_ble_eq_true rfl) (Nat.le_of_ble_eq_true rfl) ?_
    exact W.iret (v := x1_4) hx hb hr (fun t ht hW => ⟨⟨x1_4, (), rfl, (by obtain rfl : i_4 = n := (by omega); exact hr_4), ht⟩, hS.F ht⟩) hS.2.2 dX2_arrows_31
  · skip
    have d_9 : ¬ n ≤ i_4 := fun h => c_9 ((nI_leI (a := n) (b := i_4) (by omega) (by omega)).mpr h)
    refine lv_iload_n hx hb dX2_arrows_12 rfl (lv_at hl 1 rfl) ?_
    refine lv_aload_n hx hb dX2_arrows_13 rfl (lv_at hl 2 rfl) ?_
    refine va_get (D := (dC, dI)) (ci := 2) (v := .ref dp) (C := RX2) (T := TX2) (N := 3) hx hb hts hiX2 hown hK hP 0 rfl rfl 0 (by decide) (hts (.fieldLink RX2 9 "MadeItSo$Drawing" "parents" "[I") (by decide +kernel)) (fun _ h9 => h9) rfl dX2_arrows_14 ?_
    refine lv_iload_n hx hb dX2_arrows_17 rfl (lv_at hl 0 rfl) ?_
    refine va_iald hx hb hK hP 1 0 rfl rfl (vp_in_nI (by omega) (by omega)) dX2_arrows_18 ?_
    refine mz_ti (y := (fp i_4)) (by rw [mz_cl (by omega)]) ?_
    have hPc := hP.sub (ws' := []) [] rfl
    refine va_calli (va_runS (As := [.int (fp i_4)]) (rest := [.int x1_4]) ⟨hx, hb, hml, hown, hts⟩ (mz_f_bitCount l dC dI cI cJ cZ (fp i_4) s.heap (hb8 i_4 (by omega))) (va_cwS 1 hts gX2_arrows_J6_bitCount_0f7a4 rfl rfl rfl (by decide +kernel) ⟨Nat.le_of_ble_eq_true rfl, Nat.le_of_ble_eq_true rfl⟩) ⟨fun a U g mk q => mz_blP q, fun U hU hW => ⟨rfl, hU, hPc, va_K.moved hW.alike hK, mz_nw hW hN⟩⟩ rfl rfl hl.1 rfl (lv_room (Nat.le_of_ble_eq_true rfl)) dX2_arrows_19 ⟨Nat.le_of_ble_eq_true rfl, Nat.le_of_ble_eq_true rfl⟩) hS (fun q _ h => h.elim) (fun q h => h.elim) (fun r_19 u t H1 locs ht hvm hw_19 hB hz1 hk1 hS => ?_)
    have hE : s.heap = H1 := hB.symm.trans ht
    subst hE
    obtain rfl : r_19 = (nI (mz_pc (fp i_4) 8)) := hw_19
    refine lv_iadd hx hb dX2_arrows_22 ?_
    refine lv_istore_n (lv' := [(1, .int (x1_4 + (nI (mz_pc (fp i_4) 8)))), (2, .int (nI i_4)), (0, .ref dr)]) hx hb dX2_arrows_23 rfl hl (by decide) rfl (fun ls hl => ?_)
    refine lv_iinc (v := (nI (i_4 + 1))) (lv' := [(2, .int (nI (i_4 + 1))), (1, .int (x1_4 + (nI (mz_pc (fp i_4) 8)))), (0, .ref dr)]) hx hb dX2_arrows_24 hl (k := 1) rfl (nI_1 _) (by decide) rfl (fun ls hl => ?_)
    refine lv_goto (tgt := 4) hx hb dX2_arrows_27 (by decide) ?_
    exact ih_4 _ (by omega) _ _ _ ⟨(i_4 + 1), (x1_4 + (nI (mz_pc (fp i_4) 8))), by omega, (mz_sm_s hr_4), rfl, hS, lv_sub hl [0, 1, 2] rfl, rfl⟩
set_option maxHeartbeats 1000000 in
set_option maxRecDepth 100000 in
theorem mz_f_isPlace (l : Launch) (dC : Nat → ClassId) (dI : Nat → Nat → Nat) (cI cJ cZ : ClassId) (i : Nat) (j : Nat) (Hq : Heap) (hi : i < 8) (hj : j < 128) : Met l yX1_isPlace wsX1_isPlace ({ frames := 0, cells := 0, slots := 0, locals := 0 }) (va_Pc [.int (nI i), .int (nI j)] (fun U => U.heap = Hq ∧ va_P (dC, dI) vwCl [] Hq ∧ va_K (dC, dI) vwCl [(cI, FieldType.int), (cJ, FieldType.long), (cZ, FieldType.boolean)] U ∧ mz_N U)) (va_Qi (fun (r : Int32) (_ : Unit) => r = 1) (fun _ t => t.heap = Hq) (fun _ : Nat => False)) 0 0 (fun _ : Nat => False) := by
  refine Met.ofW (cc := cX1_isPlace) (maxL := 2) (ret := (some .boolean)) (by decide) rfl ?_
  intro p e s m args below meth c s₁ B hml hv
  obtain ⟨rfl, hH, hP, hK, hN⟩ := hv
  subst hH
  have hx := B.exec
  have hb := B.bytes
  have hr := B.returns
  have hts := atoms_spec (ws := wsX1_isPlace) B.pre
  have hown : s.vm.findClass RX1 = some m.cls := findClass_of_methodNamed B.named
  have hlocks := B.notSynchronized
  have hS : va_S (fun _ : Nat => False) s.heap s.heap [] := va_S.rf
  have hl := lv_entry ([.int (nI i), .int (nI j)]) (n := 2) (Nat.le_of_ble_eq_true rfl)
  rw [lg_entry_eq]
  generalize (lg_sl ([.int (nI i), .int (nI j)]) ++ List.replicate (2 - (lg_sl ([.int (nI i), .int (nI j)])).length) Slot.unset).toArray = ls at hl ⊢
  have hl : lv_has ls 2 [(0, .int (nI i)), (1, .int (nI j))] := hl
  refine lv_iload_n hx hb dX1_isPlace_0 rfl (lv_at hl 0 rfl) ?_
  refine lv_if_lt (tgt := 25) hx hb dX1_isPlace_1 (by decide) (fun c_1 => absurd c_1 (nI_pos (by omega))) (fun _ => ?_)
  refine lv_iload_n hx hb dX1_isPlace_4 rfl (lv_at hl 0 rfl) ?_
  refine lv_bipush (v := 8) hx hb dX1_isPlace_5 (by decide +kernel) ?_
  refine lv_icmp_ge (tgt := 25) hx hb dX1_isPlace_7 (by decide) (fun c_7 => absurd c_7 (mz_ltR (R := 8) hi (by decide))) (fun _ => ?_)
  refine lv_iload_n hx hb dX1_isPlace_10 rfl (lv_at hl 1 rfl) ?_
  refine lv_if_lt (tgt := 25) hx hb dX1_isPlace_11 (by decide) (fun c_11 => absurd c_11 (nI_pos (by omega))) (fun _ => ?_)
  refine lv_iload_n hx hb dX1_isPlace_14 rfl (lv_at hl 1 rfl) ?_
  refine lv_sipush (v := 128) hx hb dX1_isPlace_15 (by decide +kernel) ?_
  refine lv_icmp_ge (tgt := 25) hx hb dX1_isPlace_18 (by decide) (fun c_18 => absurd c_18 (mz_ltR (R := 128) hj (by decide))) (fun _ => ?_)
  refine lv_iconst (v := 1) hx hb dX1_isPlace_21 (by decide +kernel) ?_
  refine lv_goto (tgt := 26) hx hb dX1_isPlace_22 (by decide) ?_
  refine W.widen (k := 0) (n := 0) (Nat.le_of_ble_eq_true rfl) (Nat.le_of_ble_eq_true rfl) ?_
  exact W.zret (v := 1) hx hb hr (mz_nz (by decide +kernel)) (fun t ht hW => ⟨⟨1, (), rfl, rfl, ht⟩, hS.F ht⟩) hS.2.2 dX1_isPlace_26
set_option maxHeartbeats 1000000 in
set_option maxRecDepth 100000 in
theorem mz_f_read (l : Launch) (dC : Nat → ClassId) (dI : Nat → Nat → Nat) (cI cJ cZ : ClassId) (bk : Nat) (bp : Nat) (fb : Nat → Int32) (i : Nat) (j : Nat) (Hq : Heap) (hi : i < 8) (hj : j < 128) : Met l yX1_read wsX1_read ({ frames := 1, cells := 0, slots := 0, locals := 21 }) (va_Pc [.ref bk, .int (nI i), .int (nI j)] (fun U => U.heap = Hq ∧ va_P (dC, dI) vwCl [(bk, .inr (1, [.ref bp])), (bp, .inl (cI, 1024, .inl fb))] Hq ∧ va_K (dC, dI) vwCl [(cI, FieldType.int), (cJ, FieldType.long), (cZ, FieldType.boolean)] U ∧ mz_N U)) (va_Qi (fun (r : Int32) (_ : Unit) => r = (fb (128 * i + j))) (fun _ t => t.heap = Hq) (fun _ : Nat => False)) 0 0 (fun _ : Nat => False) := by
  refine Met.ofW (cc := cX1_read) (maxL := 3) (ret := (some .int)) (by decide) rfl ?_
  intro p e s m args below meth c s₁ B hml hv
  obtain ⟨rfl, hH, hP, hK, hN⟩ := hv
  subst hH
  have hx := B.exec
  have hb := B.bytes
  have hr := B.returns
  have hts := atoms_spec (ws := wsX1_read) B.pre
  have hown : s.vm.findClass RX1 = some m.cls := findClass_of_methodNamed B.named
  have hlocks := B.notSynchronized
  have hS : va_S (fun _ : Nat => False) s.heap s.heap [] := va_S.rf
  have hiX1 : ∀ w ∈ u_ws RX1 TX1 1, w ∈ wsX1_read := by decide +kernel
  have hl := lv_entry ([.ref bk, .int (nI i), .int (nI j)]) (n := 3) (Nat.le_of_ble_eq_true rfl)
  rw [lg_entry_eq]
  generalize (lg_sl ([.ref bk, .int (nI i), .int (nI j)]) ++ List.replicate (3 - (lg_sl ([.ref bk, .int (nI i), .int (nI j)])).length) Slot.unset).toArray = ls at hl ⊢
  have hl : lv_has ls 3 [(0, .ref bk), (1, .int (nI i)), (2, .int (nI j))] := hl
  refine lv_iload_n hx hb dX1_read_0 rfl (lv_at hl 1 rfl) ?_
  refine lv_iload_n hx hb dX1_read_1 rfl (lv_at hl 2 rfl) ?_
  have hPc := hP.sub (ws' := []) [] rfl
  refine va_calli (va_runS (As := [.int (nI i), .int (nI j)]) (rest := []) ⟨hx, hb, hml, hown, hts⟩ (mz_f_isPlace l dC dI cI cJ cZ i j s.heap (by first | assumption | omega) (by first | assumption | omega)) (va_cwS 2 hts gX1_read_X1_isPlace rfl rfl rfl (by decide +kernel) ⟨Nat.le_of_ble_eq_true rfl, Nat.le_of_ble_eq_true rfl⟩) ⟨fun a U g mk q => mz_blP q, fun U hU hW => ⟨rfl, hU, hPc, va_K.moved hW.alike hK, mz_nw hW hN⟩⟩ rfl rfl hl.1 rfl (lv_room (Nat.le_of_ble_eq_true rfl)) dX1_read_2 ⟨Nat.le_of_ble_eq_true rfl, Nat.le_of_ble_eq_true rfl⟩) hS (fun q _ h => h.elim) (fun q h => h.elim) (fun r_2 u t H1 locs ht hvm hw_2 hB hz1 hk1 hS => ?_)
  have hE : s.heap = H1 := hB.symm.trans ht
  subst hE
  obtain rfl : r_2 = 1 := hw_2
  refine lv_if_eq (tgt := 23) hx hb dX1_read_5 (by decide) (fun c_5 => absurd c_5 (by decide +kernel)) (fun _ => ?_)
  refine lv_aload_n hx hb dX1_read_8 rfl (lv_at hl 0 rfl) ?_
  refine va_get (D := (dC, dI)) (ci := 1) (v := .ref bp) (C := RX1) (T := TX1) (N := 1) hx hb hts hiX1 hown hK hP 0 rfl rfl 0 (by decide) (hts (.fieldLink RX1 9 "MadeItSo$Books" "parts" "[I") (by decide +kernel)) (fun _ h9 => h9) rfl dX1_read_9 ?_
  refine lv_iload_n hx hb dX1_read_12 rfl (lv_at hl 1 rfl) ?_
  refine lv_sipush (v := 128) hx hb dX1_read_13 (by decide +kernel) ?_
  refine lv_imul hx hb dX1_read_16 ?_
  refine mz_ti (y := (nI (i * 128))) (pk_mul _ _) ?_
  refine lv_iload_n hx hb dX1_read_17 rfl (lv_at hl 2 rfl) ?_
  refine lv_iadd hx hb dX1_read_18 ?_
  refine mz_ti (y := (nI (i * 128 + j))) (nI_add _ _) ?_
  refine va_iald hx hb hK hP 1 0 rfl rfl (vp_in_nI (by omega) (by omega)) dX1_read_19 ?_
  refine mz_ti (y := (fb (i * 128 + j))) (by rw [mz_cl (by omega)]) ?_
  refine lv_goto (tgt := 24) hx hb dX1_read_20 (by decide) ?_
  refine W.widen (k := 0) (n := 0) (Nat.le_of_ble_eq_true rfl) (Nat.le_of_ble_eq_true rfl) ?_
  exact W.iret (v := (fb (i * 128 + j))) hx hb hr (fun t ht hW => ⟨⟨(fb (i * 128 + j)), (), rfl, (by rw [Nat.mul_comm i 128]), ht⟩, hS.F ht⟩) hS.2.2 dX1_read_24
set_option maxHeartbeats 1000000 in
set_option maxRecDepth 100000 in
theorem mz_f_write (l : Launch) (dC : Nat → ClassId) (dI : Nat → Nat → Nat) (cI cJ cZ : ClassId) (bk : Nat) (bp : Nat) (fb : Nat → Int32) (i : Nat) (j : Nat) (p2 : Int32) (sz : Nat) (hi : i < 8) (hj : j < 128) : Met l yX1_write wsX1_write ({ frames := 1, cells := 0, slots := 0, locals := 21 }) (va_Pc [.ref bk, .int (nI i), .int (nI j), .int p2] (fun U => U.heap.size = sz ∧ va_P (dC, dI) vwCl [(bk, .inr (1, [.ref bp])), (bp, .inl (cI, 1024, .inl fb))] U.heap ∧ va_K (dC, dI) vwCl [(cI, FieldType.int), (cJ, FieldType.long), (cZ, FieldType.boolean)] U ∧ va_D (fun _ => True) [(bk, .inr (1, [.ref bp])), (bp, .inl (cI, 1024, .inl fb))] ∧ mz_N U)) (va_Qv (fun (_ : Unit) => True) (fun _ t => ∃ (gb : Nat → Int32), (gb = upd fb (128 * i + j) p2) ∧ va_P (dC, dI) vwCl [(bk, .inr (1, [.ref bp])), (bp, .inl (cI, 1024, .inl gb))] t.heap ∧ va_D (va_A [(bk, .inr (1, [.ref bp])), (bp, .inl (cI, 1024, .inl fb))] sz) [(bk, .inr (1, [.ref bp])), (bp, .inl (cI, 1024, .inl gb))]) (va_A [(bk, .inr (1, [.ref bp])), (bp, .inl (cI, 1024, .inl fb))] sz)) 0 0 (va_A [(bk, .inr (1, [.ref bp])), (bp, .inl (cI, 1024, .inl fb))] sz) := by
  refine Met.ofW (cc := cX1_write) (maxL := 4) (ret := none) (by decide) rfl ?_
  intro p e s m args below meth c s₁ B hml hv
  obtain ⟨rfl, hsz, hP, hK, hD0, hN⟩ := hv
  subst hsz
  have hx := B.exec
  have hb := B.bytes
  have hr := B.returns
  have hts := atoms_spec (ws := wsX1_write) B.pre
  have hown : s.vm.findClass RX1 = some m.cls := findClass_of_methodNamed B.named
  have hlocks := B.notSynchronized
  have hD := hD0.self (sz := s.heap.size)
  generalize hAe : va_A [(bk, .inr (1, [.ref bp])), (bp, .inl (cI, 1024, .inl fb))] s.heap.size = A at hD ⊢
  have hA : ∀ q : Nat, s.heap.size ≤ q → A q := fun q h => by rw [← hAe]; exact Or.inr h
  have hS : va_S A s.heap s.heap [] := va_S.rf
  have hiX1 : ∀ w ∈ u_ws RX1 TX1 1, w ∈ wsX1_write := by decide +kernel
  have hl := lv_entry ([.ref bk, .int (nI i), .int (nI j), .int p2]) (n := 4) (Nat.le_of_ble_eq_true rfl)
  rw [lg_entry_eq]
  generalize (lg_sl ([.ref bk, .int (nI i), .int (nI j), .int p2]) ++ List.replicate (4 - (lg_sl ([.ref bk, .int (nI i), .int (nI j), .int p2])).length) Slot.unset).toArray = ls at hl ⊢
  have hl : lv_has ls 4 [(0, .ref bk), (1, .int (nI i)), (2, .int (nI j)), (3, .int p2)] := hl
  refine lv_iload_n hx hb dX1_write_0 rfl (lv_at hl 1 rfl) ?_
  refine lv_iload_n hx hb dX1_write_1 rfl (lv_at hl 2 rfl) ?_
  have hPc := hP.sub (ws' := []) [] rfl
  refine va_calli (va_runS (As := [.int (nI i), .int (nI j)]) (rest := []) ⟨hx, hb, hml, hown, hts⟩ (mz_f_isPlace l dC dI cI cJ cZ i j s.heap (by first | assumption | omega) (by first | assumption | omega)) (va_cwS 2 hts gX1_write_X1_isPlace rfl rfl rfl (by decide +kernel) ⟨Nat.le_of_ble_eq_true rfl, Nat.le_of_ble_eq_true rfl⟩) ⟨fun a U g mk q => mz_blP q, fun U hU hW => ⟨rfl, hU, hPc, va_K.moved hW.alike hK, mz_nw hW hN⟩⟩ rfl rfl hl.1 rfl (lv_room (Nat.le_of_ble_eq_true rfl)) dX1_write_2 ⟨Nat.le_of_ble_eq_true rfl, Nat.le_of_ble_eq_true rfl⟩) hS (fun q _ h => h.elim) (fun q h => h.elim) (fun r_2 u t H1 locs ht hvm hw_2 hB hz1 hk1 hS => ?_)
  have hE : s.heap = H1 := hB.symm.trans ht
  subst hE
  obtain rfl : r_2 = 1 := hw_2
  refine lv_if_eq (tgt := 21) hx hb dX1_write_5 (by decide) (fun c_5 => absurd c_5 (by decide +kernel)) (fun _ => ?_)
  refine lv_aload_n hx hb dX1_write_8 rfl (lv_at hl 0 rfl) ?_
  refine va_get (D := (dC, dI)) (ci := 1) (v := .ref bp) (C := RX1) (T := TX1) (N := 1) hx hb hts hiX1 hown hK hP 0 rfl rfl 0 (by decide) (hts (.fieldLink RX1 9 "MadeItSo$Books" "parts" "[I") (by decide +kernel)) (fun _ h9 => h9) rfl dX1_write_9 ?_
  refine lv_iload_n hx hb dX1_write_12 rfl (lv_at hl 1 rfl) ?_
  refine lv_sipush (v := 128) hx hb dX1_write_13 (by decide +kernel) ?_
  refine lv_imul hx hb dX1_write_16 ?_
  refine mz_ti (y := (nI (i * 128))) (pk_mul _ _) ?_
  refine lv_iload_n hx hb dX1_write_17 rfl (lv_at hl 2 rfl) ?_
  refine lv_iadd hx hb dX1_write_18 ?_
  refine mz_ti (y := (nI (i * 128 + j))) (nI_add _ _) ?_
  refine lv_iload_n hx hb dX1_write_19 rfl (lv_at hl 3 rfl) ?_
  refine va_iast hx hb hK hP hD hS 1 0 rfl rfl (vp_in_nI (by omega) (by omega)) dX1_write_20 (fun H locs hP hD hS => ?_)
  rw [mz_cl (n := i * 128 + j) (by omega)] at hP hD
  have hP : va_P (dC, dI) vwCl [(bk, .inr (1, [.ref bp])), (bp, .inl (cI, 1024, .inl (upd fb (i * 128 + j) p2)))] H := hP
  have hD : va_D A [(bk, .inr (1, [.ref bp])), (bp, .inl (cI, 1024, .inl (upd fb (i * 128 + j) p2)))] := hD
  have hP9 := hP.sub (ws' := [(bk, .inr (1, [.ref bp])), (bp, .inl (cI, 1024, .inl (upd fb (i * 128 + j) p2)))]) [0, 1] rfl
  have hD9 := hD.sub (ws' := [(bk, .inr (1, [.ref bp])), (bp, .inl (cI, 1024, .inl (upd fb (i * 128 + j) p2)))]) [0, 1] (by decide) rfl
  refine W.widen (k := 0) (n := 0) (Nat.le_of_ble_eq_true rfl) (Nat.le_of_ble_eq_true rfl) ?_
  exact W.vret hx hb hr (fun t ht hW => ⟨⟨(), rfl, trivial, (upd fb (i * 128 + j) p2), (by rw [Nat.mul_comm i 128]), by rw [ht]; exact hP9, hD9⟩, hS.F ht⟩) hS.2.2 dX1_write_21
set_option maxHeartbeats 1000000 in
set_option maxRecDepth 100000 in
theorem mz_f_x_hasRow_in (l : Launch) (dC : Nat → ClassId) (dI : Nat → Nat → Nat) (cI cJ cZ : ClassId) (mx : Nat) (dr : Nat) (th : Nat) (bk : Nat) (wt : Nat) (tt : Nat) (lh : Nat) (la : Nat) (sh : Int32) (ab : Int64) (be : Int64) (dp : Nat) (dc : Nat) (n : Nat) (fp : Nat → Int32) (i : Nat) (j : Nat) (Hq : Heap) (hn : n ≤ 8) (hi : i < n) (hb8 : ∀ k, k < n → ∀ q, q < 32 → mz_t (fp k) q = true → q < 8) (hjr : j < 2 ^ (mz_pc (fp i) 8)) : Met l yX7_hasRow wsX7_hasRow ({ frames := 2, cells := 0, slots := 0, locals := 42 }) (va_Pc [.ref mx, .int (nI i), .int (nI j)] (fun U => U.heap = Hq ∧ va_P (dC, dI) vwCl [(mx, .inr (7, [.ref dr, .ref th, .ref bk, .ref wt, .ref tt, .ref lh, .ref la, .int sh, .long ab, .long be])), (dr, .inr (2, [.ref dp, .ref dc, .int (nI n)])), (dp, .inl (cI, 8, .inl fp))] Hq ∧ va_K (dC, dI) vwCl [(cI, FieldType.int), (cJ, FieldType.long), (cZ, FieldType.boolean)] U ∧ mz_N U)) (va_Qi (fun (r : Int32) (_ : Unit) => r = 1) (fun _ t => t.heap = Hq) (fun _ : Nat => False)) 0 0 (fun _ : Nat => False) := by
  refine Met.ofW (cc := cX7_hasRow) (maxL := 3) (ret := (some .boolean)) (by decide) rfl ?_
  intro p e s m args below meth c s₁ B hml hv
  obtain ⟨rfl, hH, hP, hK, hN⟩ := hv
  subst hH
  have hx := B.exec
  have hb := B.bytes
  have hr := B.returns
  have hts := atoms_spec (ws := wsX7_hasRow) B.pre
  have hown : s.vm.findClass RX7 = some m.cls := findClass_of_methodNamed B.named
  have hlocks := B.notSynchronized
  have hS : va_S (fun _ : Nat => False) s.heap s.heap [] := va_S.rf
  have hiX7 : ∀ w ∈ u_ws RX7 TX7 10, w ∈ wsX7_hasRow := by decide +kernel
  have hl := lv_entry ([.ref mx, .int (nI i), .int (nI j)]) (n := 3) (Nat.le_of_ble_eq_true rfl)
  rw [lg_entry_eq]
  generalize (lg_sl ([.ref mx, .int (nI i), .int (nI j)]) ++ List.replicate (3 - (lg_sl ([.ref mx, .int (nI i), .int (nI j)])).length) Slot.unset).toArray = ls at hl ⊢
  have hl : lv_has ls 3 [(0, .ref mx), (1, .int (nI i)), (2, .int (nI j))] := hl
  have hp8_ := mz_p8 (fp i)
  refine lv_aload_n hx hb dX7_hasRow_0 rfl (lv_at hl 0 rfl) ?_
  refine va_get (D := (dC, dI)) (ci := 7) (v := .ref dr) (C := RX7) (T := TX7) (N := 10) hx hb hts hiX7 hown hK hP 0 rfl rfl 0 (by decide) (hts (.fieldLink RX7 12 "MadeItSo" "drawing" "LMadeItSo$Drawing;") (by decide +kernel)) (fun _ h9 => h9) rfl dX7_hasRow_1 ?_
  refine lv_iload_n hx hb dX7_hasRow_4 rfl (lv_at hl 1 rfl) ?_
  have hPc := hP.sub (ws' := [(dr, .inr (2, [.ref dp, .ref dc, .int (nI n)]))]) [1] rfl
  refine va_calli (va_runV (As := [.int (nI i)]) (rest := []) ⟨hx, hb, hml, hown, hts⟩ (mz_d_has_in l dC dI cI cJ cZ dr dp dc n i s.heap (by first | assumption | omega) (by first | assumption | omega)) (cwV 1 hts gX7_hasRow_X2_has rfl rfl rfl (by decide +kernel) ⟨Nat.le_of_ble_eq_true rfl, Nat.le_of_ble_eq_true rfl⟩) ⟨fun a U g mk q => mz_blP q, va_recv hK hPc (ci := 2) (q0 := 0) rfl rfl, fun U hU hW => ⟨rfl, hU, hPc, va_K.moved hW.alike hK, mz_nw hW hN⟩⟩ rfl rfl hl.1 rfl (lv_room (Nat.le_of_ble_eq_true rfl)) dX7_hasRow_5 ⟨Nat.le_of_ble_eq_true rfl, Nat.le_of_ble_eq_true rfl⟩) hS (fun q _ h => h.elim) (fun q h => h.elim) (fun r_5 u t H1 locs ht hvm hw_5 hB hz1 hk1 hS => ?_)
  have hE : s.heap = H1 := hB.symm.trans ht
  subst hE
  obtain rfl : r_5 = 1 := hw_5
  refine lv_if_eq (tgt := 34) hx hb dX7_hasRow_8 (by decide) (fun c_8 => absurd c_8 (by decide +kernel)) (fun _ => ?_)
  refine lv_iload_n hx hb dX7_hasRow_11 rfl (lv_at hl 2 rfl) ?_
  refine lv_if_lt (tgt := 34) hx hb dX7_hasRow_12 (by decide) (fun c_12 => absurd c_12 (nI_pos (by omega))) (fun _ => ?_)
  refine lv_iload_n hx hb dX7_hasRow_15 rfl (lv_at hl 2 rfl) ?_
  refine lv_aload_n hx hb dX7_hasRow_16 rfl (lv_at hl 0 rfl) ?_
  refine va_get (D := (dC, dI)) (ci := 7) (v := .ref dr) (C := RX7) (T := TX7) (N := 10) hx hb hts hiX7 hown hK hP 0 rfl rfl 0 (by decide) (hts (.fieldLink RX7 12 "MadeItSo" "drawing" "LMadeItSo$Drawing;") (by decide +kernel)) (fun _ h9 => h9) rfl dX7_hasRow_17 ?_
  refine lv_iload_n hx hb dX7_hasRow_20 rfl (lv_at hl 1 rfl) ?_
  have hPc := hP.sub (ws' := [(dr, .inr (2, [.ref dp, .ref dc, .int (nI n)])), (dp, .inl (cI, 8, .inl fp))]) [1, 2] rfl
  refine va_calli (va_runV (As := [.int (nI i)]) (rest := [.int (nI j)]) ⟨hx, hb, hml, hown, hts⟩ (mz_e_parentsOf l dC dI cI cJ cZ dr dp dc n fp i s.heap (by first | assumption | omega) (by first | assumption | omega)) (cwV 1 hts gX7_hasRow_X2_parentsOf rfl rfl rfl (by decide +kernel) ⟨Nat.le_of_ble_eq_true rfl, Nat.le_of_ble_eq_true rfl⟩) ⟨fun a U g mk q => mz_blP q, va_recv hK hPc (ci := 2) (q0 := 0) rfl rfl, fun U hU hW => ⟨rfl, hU, hPc, va_K.moved hW.alike hK, mz_nw hW hN⟩⟩ rfl rfl hl.1 rfl (lv_room (Nat.le_of_ble_eq_true rfl)) dX7_hasRow_21 ⟨Nat.le_of_ble_eq_true rfl, Nat.le_of_ble_eq_true rfl⟩) hS (fun q _ h => h.elim) (fun q h => h.elim) (fun r_21 u t H1 locs ht hvm hw_21 hB hz1 hk1 hS => ?_)
  have hE : s.heap = H1 := hB.symm.trans ht
  subst hE
  obtain rfl : r_21 = (fp i) := hw_21
  have hPc := hP.sub (ws' := []) [] rfl
  refine va_calli (va_runS (As := [.int (fp i)]) (rest := [.int (nI j)]) ⟨hx, hb, hml, hown, hts⟩ (mz_f_partsOf l dC dI cI cJ cZ (fp i) s.heap (hb8 i hi)) (va_cwS 1 hts gX7_hasRow_X7_partsOf rfl rfl rfl (by decide +kernel) ⟨Nat.le_of_ble_eq_true rfl, Nat.le_of_ble_eq_true rfl⟩) ⟨fun a U g mk q => mz_blP q, fun U hU hW => ⟨rfl, hU, hPc, va_K.moved hW.alike hK, mz_nw hW hN⟩⟩ rfl rfl hl.1 rfl (lv_room (Nat.le_of_ble_eq_true rfl)) dX7_hasRow_24 ⟨Nat.le_of_ble_eq_true rfl, Nat.le_of_ble_eq_true rfl⟩) hS (fun q _ h => h.elim) (fun q h => h.elim) (fun r_24 u t H1 locs ht hvm hw_24 hB hz1 hk1 hS => ?_)
  have hE : s.heap = H1 := hB.symm.trans ht
  subst hE
  obtain rfl : r_24 = (nI (2 ^ (mz_pc (fp i) 8))) := hw_24
  refine lv_icmp_ge (tgt := 34) hx hb dX7_hasRow_27 (by decide) (fun c_27 => absurd c_27 (mz_ltR hjr hp8_)) (fun _ => ?_)
  refine lv_iconst (v := 1) hx hb dX7_hasRow_30 (by decide +kernel) ?_
  refine lv_goto (tgt := 35) hx hb dX7_hasRow_31 (by decide) ?_
  refine W.widen (k := 0) (n := 0) (Nat.le_of_ble_eq_true rfl) (Nat.le_of_ble_eq_true rfl) ?_
  exact W.zret (v := 1) hx hb hr (mz_nz (by decide +kernel)) (fun t ht hW => ⟨⟨1, (), rfl, rfl, ht⟩, hS.F ht⟩) hS.2.2 dX7_hasRow_35
set_option maxHeartbeats 1000000 in
set_option maxRecDepth 100000 in
theorem mz_f_x_hasRow_out (l : Launch) (dC : Nat → ClassId) (dI : Nat → Nat → Nat) (cI cJ cZ : ClassId) (mx : Nat) (dr : Nat) (th : Nat) (bk : Nat) (wt : Nat) (tt : Nat) (lh : Nat) (la : Nat) (sh : Int32) (ab : Int64) (be : Int64) (dp : Nat) (dc : Nat) (n : Nat) (fp : Nat → Int32) (p0 : Int32) (p1 : Int32) (Hq : Heap) (hn : n ≤ 8) (hb8 : ∀ k, k < n → ∀ q, q < 32 → mz_t (fp k) q = true → q < 8) (houtr : ¬ ∃ i j : Nat, i < n ∧ j < 2 ^ (mz_pc (fp i) 8) ∧ p0 = nI i ∧ p1 = nI j) : Met l yX7_hasRow wsX7_hasRow ({ frames := 2, cells := 0, slots := 0, locals := 42 }) (va_Pc [.ref mx, .int p0, .int p1] (fun U => U.heap = Hq ∧ va_P (dC, dI) vwCl [(mx, .inr (7, [.ref dr, .ref th, .ref bk, .ref wt, .ref tt, .ref lh, .ref la, .int sh, .long ab, .long be])), (dr, .inr (2, [.ref dp, .ref dc, .int (nI n)])), (dp, .inl (cI, 8, .inl fp))] Hq ∧ va_K (dC, dI) vwCl [(cI, FieldType.int), (cJ, FieldType.long), (cZ, FieldType.boolean)] U ∧ mz_N U)) (va_Qi (fun (r : Int32) (_ : Unit) => r = 0) (fun _ t => t.heap = Hq) (fun _ : Nat => False)) 0 0 (fun _ : Nat => False) := by
  refine Met.ofW (cc := cX7_hasRow) (maxL := 3) (ret := (some .boolean)) (by decide) rfl ?_
  intro p e s m args below meth c s₁ B hml hv
  obtain ⟨rfl, hH, hP, hK, hN⟩ := hv
  subst hH
  have hx := B.exec
  have hb := B.bytes
  have hr := B.returns
  have hts := atoms_spec (ws := wsX7_hasRow) B.pre
  have hown : s.vm.findClass RX7 = some m.cls := findClass_of_methodNamed B.named
  have hlocks := B.notSynchronized
  have hS : va_S (fun _ : Nat => False) s.heap s.heap [] := va_S.rf
  have hiX7 : ∀ w ∈ u_ws RX7 TX7 10, w ∈ wsX7_hasRow := by decide +kernel
  have hl := lv_entry ([.ref mx, .int p0, .int p1]) (n := 3) (Nat.le_of_ble_eq_true rfl)
  rw [lg_entry_eq]
  generalize (lg_sl ([.ref mx, .int p0, .int p1]) ++ List.replicate (3 - (lg_sl ([.ref mx, .int p0, .int p1])).length) Slot.unset).toArray = ls at hl ⊢
  have hl : lv_has ls 3 [(0, .ref mx), (1, .int p0), (2, .int p1)] := hl
  refine lv_aload_n hx hb dX7_hasRow_0 rfl (lv_at hl 0 rfl) ?_
  refine va_get (D := (dC, dI)) (ci := 7) (v := .ref dr) (C := RX7) (T := TX7) (N := 10) hx hb hts hiX7 hown hK hP 0 rfl rfl 0 (by decide) (hts (.fieldLink RX7 12 "MadeItSo" "drawing" "LMadeItSo$Drawing;") (by decide +kernel)) (fun _ h9 => h9) rfl dX7_hasRow_1 ?_
  refine lv_iload_n hx hb dX7_hasRow_4 rfl (lv_at hl 1 rfl) ?_
  have hPc := hP.sub (ws' := [(dr, .inr (2, [.ref dp, .ref dc, .int (nI n)]))]) [1] rfl
  refine va_calli (va_runV (As := [.int p0]) (rest := []) ⟨hx, hb, hml, hown, hts⟩ (mz_d_has l dC dI cI cJ cZ dr dp dc n p0 s.heap (by first | assumption | omega)) (cwV 1 hts gX7_hasRow_X2_has rfl rfl rfl (by decide +kernel) ⟨Nat.le_of_ble_eq_true rfl, Nat.le_of_ble_eq_true rfl⟩) ⟨fun a U g mk q => mz_blP q, va_recv hK hPc (ci := 2) (q0 := 0) rfl rfl, fun U hU hW => ⟨rfl, hU, hPc, va_K.moved hW.alike hK, mz_nw hW hN⟩⟩ rfl rfl hl.1 rfl (lv_room (Nat.le_of_ble_eq_true rfl)) dX7_hasRow_5 ⟨Nat.le_of_ble_eq_true rfl, Nat.le_of_ble_eq_true rfl⟩) hS (fun q _ h => h.elim) (fun q h => h.elim) (fun r_5 u t H1 locs ht hvm hw_5 hB hz1 hk1 hS => ?_)
  have hE : s.heap = H1 := hB.symm.trans ht
  subst hE
  rcases (show (r_5 = 1 ∧ ∃ j : Nat, j < n ∧ p0 = nI j) ∨ r_5 = 0 from hw_5) with ⟨rfl, j_5, hj_5, he_5⟩ | rfl
  · skip
    subst he_5
    refine lv_if_eq (tgt := 34) hx hb dX7_hasRow_8 (by decide) (fun c_8 => absurd c_8 (by decide +kernel)) (fun _ => ?_)
    refine lv_iload_n hx hb dX7_hasRow_11 rfl (lv_at hl 2 rfl) ?_
    refine lv_if_lt (tgt := 34) hx hb dX7_hasRow_12 (by decide) (fun c_12 => ?_) (fun c_12 => ?_)
    · skip
      refine lv_iconst (v := 0) hx hb dX7_hasRow_34 (by decide +kernel) ?_
      refine W.widen (k := 0) (n := 0) (Nat.le_of_ble_eq_true rfl) (Nat.le_of_ble_eq_true rfl) ?_
      exact W.zret (v := 0) hx hb hr (mz_nz (by decide +kernel)) (fun t ht hW => ⟨⟨0, (), rfl, rfl, ht⟩, hS.F ht⟩) hS.2.2 dX7_hasRow_35
    · skip
      refine lv_iload_n hx hb dX7_hasRow_15 rfl (lv_at hl 2 rfl) ?_
      refine lv_aload_n hx hb dX7_hasRow_16 rfl (lv_at hl 0 rfl) ?_
      refine va_get (D := (dC, dI)) (ci := 7) (v := .ref dr) (C := RX7) (T := TX7) (N := 10) hx hb hts hiX7 hown hK hP 0 rfl rfl 0 (by decide) (hts (.fieldLink RX7 12 "MadeItSo" "drawing" "LMadeItSo$Drawing;") (by decide +kernel)) (fun _ h9 => h9) rfl dX7_hasRow_17 ?_
      refine lv_iload_n hx hb dX7_hasRow_20 rfl (lv_at hl 1 rfl) ?_
      have hPc := hP.sub (ws' := [(dr, .inr (2, [.ref dp, .ref dc, .int (nI n)])), (dp, .inl (cI, 8, .inl fp))]) [1, 2] rfl
      refine va_calli (va_runV (As := [.int (nI j_5)]) (rest := [.int p1]) ⟨hx, hb, hml, hown, hts⟩ (mz_e_parentsOf l dC dI cI cJ cZ dr dp dc n fp j_5 s.heap (by first | assumption | omega) (by first | assumption | omega)) (cwV 1 hts gX7_hasRow_X2_parentsOf rfl rfl rfl (by decide +kernel) ⟨Nat.le_of_ble_eq_true rfl, Nat.le_of_ble_eq_true rfl⟩) ⟨fun a U g mk q => mz_blP q, va_recv hK hPc (ci := 2) (q0 := 0) rfl rfl, fun U hU hW => ⟨rfl, hU, hPc, va_K.moved hW.alike hK, mz_nw hW hN⟩⟩ rfl rfl hl.1 rfl (lv_room (Nat.le_of_ble_eq_true rfl)) dX7_hasRow_21 ⟨Nat.le_of_ble_eq_true rfl, Nat.le_of_ble_eq_true rfl⟩) hS (fun q _ h => h.elim) (fun q h => h.elim) (fun r_21 u t H1 locs ht hvm hw_21 hB hz1 hk1 hS => ?_)
      have hE : s.heap = H1 := hB.symm.trans ht
      subst hE
      obtain rfl : r_21 = (fp j_5) := hw_21
      have hPc := hP.sub (ws' := []) [] rfl
      refine va_calli (va_runS (As := [.int (fp j_5)]) (rest := [.int p1]) ⟨hx, hb, hml, hown, hts⟩ (mz_f_partsOf l dC dI cI cJ cZ (fp j_5) s.heap (hb8 j_5 hj_5)) (va_cwS 1 hts gX7_hasRow_X7_partsOf rfl rfl rfl (by decide +kernel) ⟨Nat.le_of_ble_eq_true rfl, Nat.le_of_ble_eq_true rfl⟩) ⟨fun a U g mk q => mz_blP q, fun U hU hW => ⟨rfl, hU, hPc, va_K.moved hW.alike hK, mz_nw hW hN⟩⟩ rfl rfl hl.1 rfl (lv_room (Nat.le_of_ble_eq_true rfl)) dX7_hasRow_24 ⟨Nat.le_of_ble_eq_true rfl, Nat.le_of_ble_eq_true rfl⟩) hS (fun q _ h => h.elim) (fun q h => h.elim) (fun r_24 u t H1 locs ht hvm hw_24 hB hz1 hk1 hS => ?_)
      have hE : s.heap = H1 := hB.symm.trans ht
      subst hE
      obtain rfl : r_24 = (nI (2 ^ (mz_pc (fp j_5) 8))) := hw_24
      refine lv_icmp_ge (tgt := 34) hx hb dX7_hasRow_27 (by decide) (fun c_27 => ?_) (fun c_27 => ?_)
      · skip
        refine lv_iconst (v := 0) hx hb dX7_hasRow_34 (by decide +kernel) ?_
        refine W.widen (k := 0) (n := 0) (Nat.le_of_ble_eq_true rfl) (Nat.le_of_ble_eq_true rfl) ?_
        exact W.zret (v := 0) hx hb hr (mz_nz (by decide +kernel)) (fun t ht hW => ⟨⟨0, (), rfl, rfl, ht⟩, hS.F ht⟩) hS.2.2 dX7_hasRow_35
      · skip
        exact absurd (by obtain ⟨q_, hq_, eq_⟩ := mz_outR (mz_p8 (fp j_5)) c_12 c_27; exact ⟨j_5, q_, hj_5, hq_, rfl, eq_⟩) houtr
  · skip
    refine lv_if_eq (tgt := 34) hx hb dX7_hasRow_8 (by decide) (fun _ => ?_) (fun c_8 => absurd (by decide +kernel) c_8)
    refine lv_iconst (v := 0) hx hb dX7_hasRow_34 (by decide +kernel) ?_
    refine W.widen (k := 0) (n := 0) (Nat.le_of_ble_eq_true rfl) (Nat.le_of_ble_eq_true rfl) ?_
    exact W.zret (v := 0) hx hb hr (mz_nz (by decide +kernel)) (fun t ht hW => ⟨⟨0, (), rfl, rfl, ht⟩, hS.F ht⟩) hS.2.2 dX7_hasRow_35
set_option maxHeartbeats 1000000 in
set_option maxRecDepth 100000 in
theorem mz_f_x_book (l : Launch) (dC : Nat → ClassId) (dI : Nat → Nat → Nat) (cI cJ cZ : ClassId) (mx : Nat) (dr : Nat) (th : Nat) (bk : Nat) (wt : Nat) (tt : Nat) (lh : Nat) (la : Nat) (sh : Int32) (ab : Int64) (be : Int64) (dp : Nat) (dc : Nat) (n : Nat) (fp : Nat → Int32) (bp : Nat) (fb : Nat → Int32) (i : Nat) (j : Nat) (p3 : Int32) (sz : Nat) (hn : n ≤ 8) (hi : i < n) (hb8 : ∀ k, k < n → ∀ q, q < 32 → mz_t (fp k) q = true → q < 8) (hjr : j < 2 ^ (mz_pc (fp i) 8)) (hjq : j < 128) : Met l yX7_book wsX7_book ({ frames := 3, cells := 0, slots := 0, locals := 64 }) (va_Pc [.ref mx, .int (nI i), .int (nI j), .int p3] (fun U => U.heap.size = sz ∧ va_P (dC, dI) vwCl [(mx, .inr (7, [.ref dr, .ref th, .ref bk, .ref wt, .ref tt, .ref lh, .ref la, .int sh, .long ab, .long be])), (dr, .inr (2, [.ref dp, .ref dc, .int (nI n)])), (dp, .inl (cI, 8, .inl fp)), (bk, .inr (1, [.ref bp])), (bp, .inl (cI, 1024, .inl fb))] U.heap ∧ va_K (dC, dI) vwCl [(cI, FieldType.int), (cJ, FieldType.long), (cZ, FieldType.boolean)] U ∧ va_D (fun _ => True) [(mx, .inr (7, [.ref dr, .ref th, .ref bk, .ref wt, .ref tt, .ref lh, .ref la, .int sh, .long ab, .long be])), (dr, .inr (2, [.ref dp, .ref dc, .int (nI n)])), (dp, .inl (cI, 8, .inl fp)), (bk, .inr (1, [.ref bp])), (bp, .inl (cI, 1024, .inl fb))] ∧ mz_N U)) (va_Qi (fun (r : Int32) (_ : Unit) => (r = 1 ∧ mz_okp p3) ∨ (r = 0 ∧ ¬ mz_okp p3)) (fun _ t => ∃ (gb : Nat → Int32), (mz_okp p3 → gb = upd fb (128 * i + j) p3) ∧ (¬ mz_okp p3 → gb = fb) ∧ va_P (dC, dI) vwCl [(mx, .inr (7, [.ref dr, .ref th, .ref bk, .ref wt, .ref tt, .ref lh, .ref la, .int sh, .long ab, .long be])), (dr, .inr (2, [.ref dp, .ref dc, .int (nI n)])), (dp, .inl (cI, 8, .inl fp)), (bk, .inr (1, [.ref bp])), (bp, .inl (cI, 1024, .inl gb))] t.heap ∧ va_D (va_A [(mx, .inr (7, [.ref dr, .ref th, .ref bk, .ref wt, .ref tt, .ref lh, .ref la, .int sh, .long ab, .long be])), (dr, .inr (2, [.ref dp, .ref dc, .int (nI n)])), (dp, .inl (cI, 8, .inl fp)), (bk, .inr (1, [.ref bp])), (bp, .inl (cI, 1024, .inl fb))] sz) [(mx, .inr (7, [.ref dr, .ref th, .ref bk, .ref wt, .ref tt, .ref lh, .ref la, .int sh, .long ab, .long be])), (dr, .inr (2, [.ref dp, .ref dc, .int (nI n)])), (dp, .inl (cI, 8, .inl fp)), (bk, .inr (1, [.ref bp])), (bp, .inl (cI, 1024, .inl gb))]) (va_A [(mx, .inr (7, [.ref dr, .ref th, .ref bk, .ref wt, .ref tt, .ref lh, .ref la, .int sh, .long ab, .long be])), (dr, .inr (2, [.ref dp, .ref dc, .int (nI n)])), (dp, .inl (cI, 8, .inl fp)), (bk, .inr (1, [.ref bp])), (bp, .inl (cI, 1024, .inl fb))] sz)) 0 0 (va_A [(mx, .inr (7, [.ref dr, .ref th, .ref bk, .ref wt, .ref tt, .ref lh, .ref la, .int sh, .long ab, .long be])), (dr, .inr (2, [.ref dp, .ref dc, .int (nI n)])), (dp, .inl (cI, 8, .inl fp)), (bk, .inr (1, [.ref bp])), (bp, .inl (cI, 1024, .inl fb))] sz) := by
  refine Met.ofW (cc := cX7_book) (maxL := 4) (ret := (some .boolean)) (by decide) rfl ?_
  intro p e s m args below meth c s₁ B hml hv
  obtain ⟨rfl, hsz, hP, hK, hD0, hN⟩ := hv
  subst hsz
  have hx := B.exec
  have hb := B.bytes
  have hr := B.returns
  have hts := atoms_spec (ws := wsX7_book) B.pre
  have hown : s.vm.findClass RX7 = some m.cls := findClass_of_methodNamed B.named
  have hlocks := B.notSynchronized
  have hD := hD0.self (sz := s.heap.size)
  generalize hAe : va_A [(mx, .inr (7, [.ref dr, .ref th, .ref bk, .ref wt, .ref tt, .ref lh, .ref la, .int sh, .long ab, .long be])), (dr, .inr (2, [.ref dp, .ref dc, .int (nI n)])), (dp, .inl (cI, 8, .inl fp)), (bk, .inr (1, [.ref bp])), (bp, .inl (cI, 1024, .inl fb))] s.heap.size = A at hD ⊢
  have hA : ∀ q : Nat, s.heap.size ≤ q → A q := fun q h => by rw [← hAe]; exact Or.inr h
  have hS : va_S A s.heap s.heap [] := va_S.rf
  have hiX7 : ∀ w ∈ u_ws RX7 TX7 10, w ∈ wsX7_book := by decide +kernel
  have hl := lv_entry ([.ref mx, .int (nI i), .int (nI j), .int p3]) (n := 4) (Nat.le_of_ble_eq_true rfl)
  rw [lg_entry_eq]
  generalize (lg_sl ([.ref mx, .int (nI i), .int (nI j), .int p3]) ++ List.replicate (4 - (lg_sl ([.ref mx, .int (nI i), .int (nI j), .int p3])).length) Slot.unset).toArray = ls at hl ⊢
  have hl : lv_has ls 4 [(0, .ref mx), (1, .int (nI i)), (2, .int (nI j)), (3, .int p3)] := hl
  refine lv_aload_n hx hb dX7_book_0 rfl (lv_at hl 0 rfl) ?_
  refine lv_iload_n hx hb dX7_book_1 rfl (lv_at hl 1 rfl) ?_
  refine lv_iload_n hx hb dX7_book_2 rfl (lv_at hl 2 rfl) ?_
  have hPc := hP.sub (ws' := [(mx, .inr (7, [.ref dr, .ref th, .ref bk, .ref wt, .ref tt, .ref lh, .ref la, .int sh, .long ab, .long be])), (dr, .inr (2, [.ref dp, .ref dc, .int (nI n)])), (dp, .inl (cI, 8, .inl fp))]) [0, 1, 2] rfl
  refine va_calli (va_runV (As := [.int (nI i), .int (nI j)]) (rest := []) ⟨hx, hb, hml, hown, hts⟩ (mz_f_x_hasRow_in l dC dI cI cJ cZ mx dr th bk wt tt lh la sh ab be dp dc n fp i j s.heap (by first | assumption | omega) (by first | assumption | omega) (by first | assumption | omega) (by first | assumption | omega)) (cwV 2 hts gX7_book_X7_hasRow rfl rfl rfl (by decide +kernel) ⟨Nat.le_of_ble_eq_true rfl, Nat.le_of_ble_eq_true rfl⟩) ⟨fun a U g mk q => mz_blP q, va_recv hK hPc (ci := 7) (q0 := 0) rfl rfl, fun U hU hW => ⟨rfl, hU, hPc, va_K.moved hW.alike hK, mz_nw hW hN⟩⟩ rfl rfl hl.1 rfl (lv_room (Nat.le_of_ble_eq_true rfl)) dX7_book_3 ⟨Nat.le_of_ble_eq_true rfl, Nat.le_of_ble_eq_true rfl⟩) hS (fun q _ h => h.elim) (fun q h => h.elim) (fun r_3 u t H1 locs ht hvm hw_3 hB hz1 hk1 hS => ?_)
  have hE : s.heap = H1 := hB.symm.trans ht
  subst hE
  obtain rfl : r_3 = 1 := hw_3
  refine lv_if_eq (tgt := 19) hx hb dX7_book_6 (by decide) (fun c_6 => absurd c_6 (by decide +kernel)) (fun _ => ?_)
  refine lv_iload_n hx hb dX7_book_9 rfl (lv_at hl 3 rfl) ?_
  refine lv_if_lt (tgt := 19) hx hb dX7_book_10 (by decide) (fun c_10 => ?_) (fun c_10 => ?_)
  · skip
    refine lv_iconst (v := 0) hx hb dX7_book_19 (by decide +kernel) ?_
    have hP9 := hP.sub (ws' := [(mx, .inr (7, [.ref dr, .ref th, .ref bk, .ref wt, .ref tt, .ref lh, .ref la, .int sh, .long ab, .long be])), (dr, .inr (2, [.ref dp, .ref dc, .int (nI n)])), (dp, .inl (cI, 8, .inl fp)), (bk, .inr (1, [.ref bp])), (bp, .inl (cI, 1024, .inl fb))]) [0, 1, 2, 3, 4] rfl
    have hD9 := hD.sub (ws' := [(mx, .inr (7, [.ref dr, .ref th, .ref bk, .ref wt, .ref tt, .ref lh, .ref la, .int sh, .long ab, .long be])), (dr, .inr (2, [.ref dp, .ref dc, .int (nI n)])), (dp, .inl (cI, 8, .inl fp)), (bk, .inr (1, [.ref bp])), (bp, .inl (cI, 1024, .inl fb))]) [0, 1, 2, 3, 4] (by decide) rfl
    refine W.widen (k := 0) (n := 0) (Nat.le_of_ble_eq_true rfl) (Nat.le_of_ble_eq_true rfl) ?_
    exact W.zret (v := 0) hx hb hr (mz_nz (by decide +kernel)) (fun t ht hW => ⟨⟨0, (), rfl, Or.inr ⟨rfl, (mz_ok2 c_10)⟩, fb, (fun h => absurd h (mz_ok2 c_10)), (fun _ => rfl), by rw [ht]; exact hP9, hD9⟩, hS.F ht⟩) hS.2.2 dX7_book_20
  · skip
    refine lv_iload_n hx hb dX7_book_13 rfl (lv_at hl 3 rfl) ?_
    refine lv_bipush (v := 100) hx hb dX7_book_14 (by decide +kernel) ?_
    refine lv_icmp_le (tgt := 21) hx hb dX7_book_16 (by decide) (fun c_16 => ?_) (fun c_16 => ?_)
    · skip
      refine lv_aload_n hx hb dX7_book_21 rfl (lv_at hl 0 rfl) ?_
      refine va_get (D := (dC, dI)) (ci := 7) (v := .ref bk) (C := RX7) (T := TX7) (N := 10) hx hb hts hiX7 hown hK hP 0 rfl rfl 2 (by decide) (hts (.fieldLink RX7 22 "MadeItSo" "books" "LMadeItSo$Books;") (by decide +kernel)) (fun _ h9 => h9) rfl dX7_book_22 ?_
      refine lv_iload_n hx hb dX7_book_25 rfl (lv_at hl 1 rfl) ?_
      refine lv_iload_n hx hb dX7_book_26 rfl (lv_at hl 2 rfl) ?_
      refine lv_iload_n hx hb dX7_book_27 rfl (lv_at hl 3 rfl) ?_
      have hPc := hP.sub (ws' := [(bk, .inr (1, [.ref bp])), (bp, .inl (cI, 1024, .inl fb))]) [3, 4] rfl
      have hDc := hD.sub (ws' := [(bk, .inr (1, [.ref bp])), (bp, .inl (cI, 1024, .inl fb))]) [3, 4] (by decide) rfl
      have hFc := va_free (wc := [(bk, .inr (1, [.ref bp])), (bp, .inl (cI, 1024, .inl fb))]) hD hS hA [3, 4] rfl
      refine va_callv (va_runV (As := [.int (nI i), .int (nI j), .int p3]) (rest := []) ⟨hx, hb, hml, hown, hts⟩ (mz_f_write l dC dI cI cJ cZ bk bp fb i j p3 s.heap.size (by first | assumption | omega) (by first | assumption | omega)) (cwV 3 hts gX7_book_X1_write rfl rfl rfl (by decide +kernel) ⟨Nat.le_of_ble_eq_true rfl, Nat.le_of_ble_eq_true rfl⟩) ⟨fun a U g mk q => mz_blI q, va_recv hK hPc (ci := 1) (q0 := 0) rfl rfl, fun U hU hW => ⟨rfl, by rw [hU], by rw [hU]; exact hPc, va_K.moved hW.alike hK, hDc.weaken (fun _ _ _ _ => trivial), mz_nw hW hN⟩⟩ rfl rfl hl.1 rfl (lv_room (Nat.le_of_ble_eq_true rfl)) dX7_book_28 ⟨Nat.le_of_ble_eq_true rfl, Nat.le_of_ble_eq_true rfl⟩) hS (fun q _ h => hFc q h) hFc (fun u t H1 locs ht hvm hw_28 hB hz1 hk1 hS => ?_)
      obtain ⟨gb_28, hx0_28, hP1, hD1⟩ := hB
      rw [ht] at hP1
      obtain ⟨hP, hD⟩ := va_join (wr := [(mx, .inr (7, [.ref dr, .ref th, .ref bk, .ref wt, .ref tt, .ref lh, .ref la, .int sh, .long ab, .long be])), (dr, .inr (2, [.ref dp, .ref dc, .int (nI n)])), (dp, .inl (cI, 8, .inl fp))]) (w1 := [(bk, .inr (1, [.ref bp])), (bp, .inl (cI, 1024, .inl gb_28))]) hP hD [3, 4] [0, 1, 2] rfl rfl (by decide) (by decide) hk1 hFc hP1 hD1
      generalize H1 = H at hP hS ⊢
      have hP : va_P (dC, dI) vwCl [(mx, .inr (7, [.ref dr, .ref th, .ref bk, .ref wt, .ref tt, .ref lh, .ref la, .int sh, .long ab, .long be])), (dr, .inr (2, [.ref dp, .ref dc, .int (nI n)])), (dp, .inl (cI, 8, .inl fp)), (bk, .inr (1, [.ref bp])), (bp, .inl (cI, 1024, .inl gb_28))] H := hP
      have hD : va_D A [(mx, .inr (7, [.ref dr, .ref th, .ref bk, .ref wt, .ref tt, .ref lh, .ref la, .int sh, .long ab, .long be])), (dr, .inr (2, [.ref dp, .ref dc, .int (nI n)])), (dp, .inl (cI, 8, .inl fp)), (bk, .inr (1, [.ref bp])), (bp, .inl (cI, 1024, .inl gb_28))] := hD
      refine lv_iconst (v := 1) hx hb dX7_book_31 (by decide +kernel) ?_
      have hP9 := hP.sub (ws' := [(mx, .inr (7, [.ref dr, .ref th, .ref bk, .ref wt, .ref tt, .ref lh, .ref la, .int sh, .long ab, .long be])), (dr, .inr (2, [.ref dp, .ref dc, .int (nI n)])), (dp, .inl (cI, 8, .inl fp)), (bk, .inr (1, [.ref bp])), (bp, .inl (cI, 1024, .inl gb_28))]) [0, 1, 2, 3, 4] rfl
      have hD9 := hD.sub (ws' := [(mx, .inr (7, [.ref dr, .ref th, .ref bk, .ref wt, .ref tt, .ref lh, .ref la, .int sh, .long ab, .long be])), (dr, .inr (2, [.ref dp, .ref dc, .int (nI n)])), (dp, .inl (cI, 8, .inl fp)), (bk, .inr (1, [.ref bp])), (bp, .inl (cI, 1024, .inl gb_28))]) [0, 1, 2, 3, 4] (by decide) rfl
      refine W.widen (k := 0) (n := 0) (Nat.le_of_ble_eq_true rfl) (Nat.le_of_ble_eq_true rfl) ?_
      exact W.zret (v := 1) hx hb hr (mz_nz (by decide +kernel)) (fun t ht hW => ⟨⟨1, (), rfl, Or.inl ⟨rfl, c_10, c_16⟩, gb_28, (fun _ => hx0_28), (fun h => absurd (⟨c_10, c_16⟩ : mz_okp p3) h), by rw [ht]; exact hP9, hD9⟩, hS.F ht⟩) hS.2.2 dX7_book_32
    · skip
      refine lv_iconst (v := 0) hx hb dX7_book_19 (by decide +kernel) ?_
      have hP9 := hP.sub (ws' := [(mx, .inr (7, [.ref dr, .ref th, .ref bk, .ref wt, .ref tt, .ref lh, .ref la, .int sh, .long ab, .long be])), (dr, .inr (2, [.ref dp, .ref dc, .int (nI n)])), (dp, .inl (cI, 8, .inl fp)), (bk, .inr (1, [.ref bp])), (bp, .inl (cI, 1024, .inl fb))]) [0, 1, 2, 3, 4] rfl
      have hD9 := hD.sub (ws' := [(mx, .inr (7, [.ref dr, .ref th, .ref bk, .ref wt, .ref tt, .ref lh, .ref la, .int sh, .long ab, .long be])), (dr, .inr (2, [.ref dp, .ref dc, .int (nI n)])), (dp, .inl (cI, 8, .inl fp)), (bk, .inr (1, [.ref bp])), (bp, .inl (cI, 1024, .inl fb))]) [0, 1, 2, 3, 4] (by decide) rfl
      refine W.widen (k := 0) (n := 0) (Nat.le_of_ble_eq_true rfl) (Nat.le_of_ble_eq_true rfl) ?_
      exact W.zret (v := 0) hx hb hr (mz_nz (by decide +kernel)) (fun t ht hW => ⟨⟨0, (), rfl, Or.inr ⟨rfl, (mz_ok3 c_16)⟩, fb, (fun h => absurd h (mz_ok3 c_16)), (fun _ => rfl), by rw [ht]; exact hP9, hD9⟩, hS.F ht⟩) hS.2.2 dX7_book_20
set_option maxHeartbeats 1000000 in
set_option maxRecDepth 100000 in
theorem mz_f_x_book_out (l : Launch) (dC : Nat → ClassId) (dI : Nat → Nat → Nat) (cI cJ cZ : ClassId) (mx : Nat) (dr : Nat) (th : Nat) (bk : Nat) (wt : Nat) (tt : Nat) (lh : Nat) (la : Nat) (sh : Int32) (ab : Int64) (be : Int64) (dp : Nat) (dc : Nat) (n : Nat) (fp : Nat → Int32) (p1 : Int32) (p2 : Int32) (p3 : Int32) (Hq : Heap) (hn : n ≤ 8) (hb8 : ∀ k, k < n → ∀ q, q < 32 → mz_t (fp k) q = true → q < 8) (houtr : ¬ ∃ i j : Nat, i < n ∧ j < 2 ^ (mz_pc (fp i) 8) ∧ p1 = nI i ∧ p2 = nI j) : Met l yX7_book wsX7_book ({ frames := 3, cells := 0, slots := 0, locals := 64 }) (va_Pc [.ref mx, .int p1, .int p2, .int p3] (fun U => U.heap = Hq ∧ va_P (dC, dI) vwCl [(mx, .inr (7, [.ref dr, .ref th, .ref bk, .ref wt, .ref tt, .ref lh, .ref la, .int sh, .long ab, .long be])), (dr, .inr (2, [.ref dp, .ref dc, .int (nI n)])), (dp, .inl (cI, 8, .inl fp))] Hq ∧ va_K (dC, dI) vwCl [(cI, FieldType.int), (cJ, FieldType.long), (cZ, FieldType.boolean)] U ∧ mz_N U)) (va_Qi (fun (r : Int32) (_ : Unit) => r = 0) (fun _ t => t.heap = Hq) (fun _ : Nat => False)) 0 0 (fun _ : Nat => False) := by
  refine Met.ofW (cc := cX7_book) (maxL := 4) (ret := (some .boolean)) (by decide) rfl ?_
  intro p e s m args below meth c s₁ B hml hv
  obtain ⟨rfl, hH, hP, hK, hN⟩ := hv
  subst hH
  have hx := B.exec
  have hb := B.bytes
  have hr := B.returns
  have hts := atoms_spec (ws := wsX7_book) B.pre
  have hown : s.vm.findClass RX7 = some m.cls := findClass_of_methodNamed B.named
  have hlocks := B.notSynchronized
  have hS : va_S (fun _ : Nat => False) s.heap s.heap [] := va_S.rf
  have hl := lv_entry ([.ref mx, .int p1, .int p2, .int p3]) (n := 4) (Nat.le_of_ble_eq_true rfl)
  rw [lg_entry_eq]
  generalize (lg_sl ([.ref mx, .int p1, .int p2, .int p3]) ++ List.replicate (4 - (lg_sl ([.ref mx, .int p1, .int p2, .int p3])).length) Slot.unset).toArray = ls at hl ⊢
  have hl : lv_has ls 4 [(0, .ref mx), (1, .int p1), (2, .int p2), (3, .int p3)] := hl
  refine lv_aload_n hx hb dX7_book_0 rfl (lv_at hl 0 rfl) ?_
  refine lv_iload_n hx hb dX7_book_1 rfl (lv_at hl 1 rfl) ?_
  refine lv_iload_n hx hb dX7_book_2 rfl (lv_at hl 2 rfl) ?_
  have hPc := hP.sub (ws' := [(mx, .inr (7, [.ref dr, .ref th, .ref bk, .ref wt, .ref tt, .ref lh, .ref la, .int sh, .long ab, .long be])), (dr, .inr (2, [.ref dp, .ref dc, .int (nI n)])), (dp, .inl (cI, 8, .inl fp))]) [0, 1, 2] rfl
  refine va_calli (va_runV (As := [.int p1, .int p2]) (rest := []) ⟨hx, hb, hml, hown, hts⟩ (mz_f_x_hasRow_out l dC dI cI cJ cZ mx dr th bk wt tt lh la sh ab be dp dc n fp p1 p2 s.heap (by first | assumption | omega) (by first | assumption | omega) (by first | assumption | omega)) (cwV 2 hts gX7_book_X7_hasRow rfl rfl rfl (by decide +kernel) ⟨Nat.le_of_ble_eq_true rfl, Nat.le_of_ble_eq_true rfl⟩) ⟨fun a U g mk q => mz_blP q, va_recv hK hPc (ci := 7) (q0 := 0) rfl rfl, fun U hU hW => ⟨rfl, hU, hPc, va_K.moved hW.alike hK, mz_nw hW hN⟩⟩ rfl rfl hl.1 rfl (lv_room (Nat.le_of_ble_eq_true rfl)) dX7_book_3 ⟨Nat.le_of_ble_eq_true rfl, Nat.le_of_ble_eq_true rfl⟩) hS (fun q _ h => h.elim) (fun q h => h.elim) (fun r_3 u t H1 locs ht hvm hw_3 hB hz1 hk1 hS => ?_)
  have hE : s.heap = H1 := hB.symm.trans ht
  subst hE
  obtain rfl : r_3 = 0 := hw_3
  refine lv_if_eq (tgt := 19) hx hb dX7_book_6 (by decide) (fun _ => ?_) (fun c_6 => absurd (by decide +kernel) c_6)
  refine lv_iconst (v := 0) hx hb dX7_book_19 (by decide +kernel) ?_
  refine W.widen (k := 0) (n := 0) (Nat.le_of_ble_eq_true rfl) (Nat.le_of_ble_eq_true rfl) ?_
  exact W.zret (v := 0) hx hb hr (mz_nz (by decide +kernel)) (fun t ht hW => ⟨⟨0, (), rfl, rfl, ht⟩, hS.F ht⟩) hS.2.2 dX7_book_20
set_option maxHeartbeats 1000000 in
set_option maxRecDepth 100000 in
theorem mz_f_x_booked (l : Launch) (dC : Nat → ClassId) (dI : Nat → Nat → Nat) (cI cJ cZ : ClassId) (mx : Nat) (dr : Nat) (th : Nat) (bk : Nat) (wt : Nat) (tt : Nat) (lh : Nat) (la : Nat) (sh : Int32) (ab : Int64) (be : Int64) (dp : Nat) (dc : Nat) (n : Nat) (fp : Nat → Int32) (bp : Nat) (fb : Nat → Int32) (i : Nat) (j : Nat) (Hq : Heap) (hn : n ≤ 8) (hi : i < n) (hb8 : ∀ k, k < n → ∀ q, q < 32 → mz_t (fp k) q = true → q < 8) (hjr : j < 2 ^ (mz_pc (fp i) 8)) (hjq : j < 128) : Met l yX7_booked wsX7_booked ({ frames := 3, cells := 0, slots := 0, locals := 64 }) (va_Pc [.ref mx, .int (nI i), .int (nI j)] (fun U => U.heap = Hq ∧ va_P (dC, dI) vwCl [(mx, .inr (7, [.ref dr, .ref th, .ref bk, .ref wt, .ref tt, .ref lh, .ref la, .int sh, .long ab, .long be])), (dr, .inr (2, [.ref dp, .ref dc, .int (nI n)])), (dp, .inl (cI, 8, .inl fp)), (bk, .inr (1, [.ref bp])), (bp, .inl (cI, 1024, .inl fb))] Hq ∧ va_K (dC, dI) vwCl [(cI, FieldType.int), (cJ, FieldType.long), (cZ, FieldType.boolean)] U ∧ mz_N U)) (va_Qi (fun (r : Int32) (_ : Unit) => r = (fb (128 * i + j))) (fun _ t => t.heap = Hq) (fun _ : Nat => False)) 0 0 (fun _ : Nat => False) := by
  refine Met.ofW (cc := cX7_booked) (maxL := 3) (ret := (some .int)) (by decide) rfl ?_
  intro p e s m args below meth c s₁ B hml hv
  obtain ⟨rfl, hH, hP, hK, hN⟩ := hv
  subst hH
  have hx := B.exec
  have hb := B.bytes
  have hr := B.returns
  have hts := atoms_spec (ws := wsX7_booked) B.pre
  have hown : s.vm.findClass RX7 = some m.cls := findClass_of_methodNamed B.named
  have hlocks := B.notSynchronized
  have hS : va_S (fun _ : Nat => False) s.heap s.heap [] := va_S.rf
  have hiX7 : ∀ w ∈ u_ws RX7 TX7 10, w ∈ wsX7_booked := by decide +kernel
  have hl := lv_entry ([.ref mx, .int (nI i), .int (nI j)]) (n := 3) (Nat.le_of_ble_eq_true rfl)
  rw [lg_entry_eq]
  generalize (lg_sl ([.ref mx, .int (nI i), .int (nI j)]) ++ List.replicate (3 - (lg_sl ([.ref mx, .int (nI i), .int (nI j)])).length) Slot.unset).toArray = ls at hl ⊢
  have hl : lv_has ls 3 [(0, .ref mx), (1, .int (nI i)), (2, .int (nI j))] := hl
  refine lv_aload_n hx hb dX7_booked_0 rfl (lv_at hl 0 rfl) ?_
  refine lv_iload_n hx hb dX7_booked_1 rfl (lv_at hl 1 rfl) ?_
  refine lv_iload_n hx hb dX7_booked_2 rfl (lv_at hl 2 rfl) ?_
  have hPc := hP.sub (ws' := [(mx, .inr (7, [.ref dr, .ref th, .ref bk, .ref wt, .ref tt, .ref lh, .ref la, .int sh, .long ab, .long be])), (dr, .inr (2, [.ref dp, .ref dc, .int (nI n)])), (dp, .inl (cI, 8, .inl fp))]) [0, 1, 2] rfl
  refine va_calli (va_runV (As := [.int (nI i), .int (nI j)]) (rest := []) ⟨hx, hb, hml, hown, hts⟩ (mz_f_x_hasRow_in l dC dI cI cJ cZ mx dr th bk wt tt lh la sh ab be dp dc n fp i j s.heap (by first | assumption | omega) (by first | assumption | omega) (by first | assumption | omega) (by first | assumption | omega)) (cwV 2 hts gX7_booked_X7_hasRow rfl rfl rfl (by decide +kernel) ⟨Nat.le_of_ble_eq_true rfl, Nat.le_of_ble_eq_true rfl⟩) ⟨fun a U g mk q => mz_blP q, va_recv hK hPc (ci := 7) (q0 := 0) rfl rfl, fun U hU hW => ⟨rfl, hU, hPc, va_K.moved hW.alike hK, mz_nw hW hN⟩⟩ rfl rfl hl.1 rfl (lv_room (Nat.le_of_ble_eq_true rfl)) dX7_booked_3 ⟨Nat.le_of_ble_eq_true rfl, Nat.le_of_ble_eq_true rfl⟩) hS (fun q _ h => h.elim) (fun q h => h.elim) (fun r_3 u t H1 locs ht hvm hw_3 hB hz1 hk1 hS => ?_)
  have hE : s.heap = H1 := hB.symm.trans ht
  subst hE
  obtain rfl : r_3 = 1 := hw_3
  refine lv_if_eq (tgt := 21) hx hb dX7_booked_6 (by decide) (fun c_6 => absurd c_6 (by decide +kernel)) (fun _ => ?_)
  refine lv_aload_n hx hb dX7_booked_9 rfl (lv_at hl 0 rfl) ?_
  refine va_get (D := (dC, dI)) (ci := 7) (v := .ref bk) (C := RX7) (T := TX7) (N := 10) hx hb hts hiX7 hown hK hP 0 rfl rfl 2 (by decide) (hts (.fieldLink RX7 22 "MadeItSo" "books" "LMadeItSo$Books;") (by decide +kernel)) (fun _ h9 => h9) rfl dX7_booked_10 ?_
  refine lv_iload_n hx hb dX7_booked_13 rfl (lv_at hl 1 rfl) ?_
  refine lv_iload_n hx hb dX7_booked_14 rfl (lv_at hl 2 rfl) ?_
  have hPc := hP.sub (ws' := [(bk, .inr (1, [.ref bp])), (bp, .inl (cI, 1024, .inl fb))]) [3, 4] rfl
  refine va_calli (va_runV (As := [.int (nI i), .int (nI j)]) (rest := []) ⟨hx, hb, hml, hown, hts⟩ (mz_f_read l dC dI cI cJ cZ bk bp fb i j s.heap (by first | assumption | omega) (by first | assumption | omega)) (cwV 2 hts gX7_booked_X1_read rfl rfl rfl (by decide +kernel) ⟨Nat.le_of_ble_eq_true rfl, Nat.le_of_ble_eq_true rfl⟩) ⟨fun a U g mk q => mz_blP q, va_recv hK hPc (ci := 1) (q0 := 0) rfl rfl, fun U hU hW => ⟨rfl, hU, hPc, va_K.moved hW.alike hK, mz_nw hW hN⟩⟩ rfl rfl hl.1 rfl (lv_room (Nat.le_of_ble_eq_true rfl)) dX7_booked_15 ⟨Nat.le_of_ble_eq_true rfl, Nat.le_of_ble_eq_true rfl⟩) hS (fun q _ h => h.elim) (fun q h => h.elim) (fun r_15 u t H1 locs ht hvm hw_15 hB hz1 hk1 hS => ?_)
  have hE : s.heap = H1 := hB.symm.trans ht
  subst hE
  obtain rfl : r_15 = (fb (128 * i + j)) := hw_15
  refine lv_goto (tgt := 22) hx hb dX7_booked_18 (by decide) ?_
  refine W.widen (k := 0) (n := 0) (Nat.le_of_ble_eq_true rfl) (Nat.le_of_ble_eq_true rfl) ?_
  exact W.iret (v := (fb (128 * i + j))) hx hb hr (fun t ht hW => ⟨⟨(fb (128 * i + j)), (), rfl, rfl, ht⟩, hS.F ht⟩) hS.2.2 dX7_booked_22
set_option maxHeartbeats 1000000 in
set_option maxRecDepth 100000 in
theorem mz_f_x_booked_out (l : Launch) (dC : Nat → ClassId) (dI : Nat → Nat → Nat) (cI cJ cZ : ClassId) (mx : Nat) (dr : Nat) (th : Nat) (bk : Nat) (wt : Nat) (tt : Nat) (lh : Nat) (la : Nat) (sh : Int32) (ab : Int64) (be : Int64) (dp : Nat) (dc : Nat) (n : Nat) (fp : Nat → Int32) (p1 : Int32) (p2 : Int32) (Hq : Heap) (hn : n ≤ 8) (hb8 : ∀ k, k < n → ∀ q, q < 32 → mz_t (fp k) q = true → q < 8) (houtr : ¬ ∃ i j : Nat, i < n ∧ j < 2 ^ (mz_pc (fp i) 8) ∧ p1 = nI i ∧ p2 = nI j) : Met l yX7_booked wsX7_booked ({ frames := 3, cells := 0, slots := 0, locals := 64 }) (va_Pc [.ref mx, .int p1, .int p2] (fun U => U.heap = Hq ∧ va_P (dC, dI) vwCl [(mx, .inr (7, [.ref dr, .ref th, .ref bk, .ref wt, .ref tt, .ref lh, .ref la, .int sh, .long ab, .long be])), (dr, .inr (2, [.ref dp, .ref dc, .int (nI n)])), (dp, .inl (cI, 8, .inl fp))] Hq ∧ va_K (dC, dI) vwCl [(cI, FieldType.int), (cJ, FieldType.long), (cZ, FieldType.boolean)] U ∧ mz_N U)) (va_Qi (fun (r : Int32) (_ : Unit) => r = (-1)) (fun _ t => t.heap = Hq) (fun _ : Nat => False)) 0 0 (fun _ : Nat => False) := by
  refine Met.ofW (cc := cX7_booked) (maxL := 3) (ret := (some .int)) (by decide) rfl ?_
  intro p e s m args below meth c s₁ B hml hv
  obtain ⟨rfl, hH, hP, hK, hN⟩ := hv
  subst hH
  have hx := B.exec
  have hb := B.bytes
  have hr := B.returns
  have hts := atoms_spec (ws := wsX7_booked) B.pre
  have hown : s.vm.findClass RX7 = some m.cls := findClass_of_methodNamed B.named
  have hlocks := B.notSynchronized
  have hS : va_S (fun _ : Nat => False) s.heap s.heap [] := va_S.rf
  have hl := lv_entry ([.ref mx, .int p1, .int p2]) (n := 3) (Nat.le_of_ble_eq_true rfl)
  rw [lg_entry_eq]
  generalize (lg_sl ([.ref mx, .int p1, .int p2]) ++ List.replicate (3 - (lg_sl ([.ref mx, .int p1, .int p2])).length) Slot.unset).toArray = ls at hl ⊢
  have hl : lv_has ls 3 [(0, .ref mx), (1, .int p1), (2, .int p2)] := hl
  refine lv_aload_n hx hb dX7_booked_0 rfl (lv_at hl 0 rfl) ?_
  refine lv_iload_n hx hb dX7_booked_1 rfl (lv_at hl 1 rfl) ?_
  refine lv_iload_n hx hb dX7_booked_2 rfl (lv_at hl 2 rfl) ?_
  have hPc := hP.sub (ws' := [(mx, .inr (7, [.ref dr, .ref th, .ref bk, .ref wt, .ref tt, .ref lh, .ref la, .int sh, .long ab, .long be])), (dr, .inr (2, [.ref dp, .ref dc, .int (nI n)])), (dp, .inl (cI, 8, .inl fp))]) [0, 1, 2] rfl
  refine va_calli (va_runV (As := [.int p1, .int p2]) (rest := []) ⟨hx, hb, hml, hown, hts⟩ (mz_f_x_hasRow_out l dC dI cI cJ cZ mx dr th bk wt tt lh la sh ab be dp dc n fp p1 p2 s.heap (by first | assumption | omega) (by first | assumption | omega) (by first | assumption | omega)) (cwV 2 hts gX7_booked_X7_hasRow rfl rfl rfl (by decide +kernel) ⟨Nat.le_of_ble_eq_true rfl, Nat.le_of_ble_eq_true rfl⟩) ⟨fun a U g mk q => mz_blP q, va_recv hK hPc (ci := 7) (q0 := 0) rfl rfl, fun U hU hW => ⟨rfl, hU, hPc, va_K.moved hW.alike hK, mz_nw hW hN⟩⟩ rfl rfl hl.1 rfl (lv_room (Nat.le_of_ble_eq_true rfl)) dX7_booked_3 ⟨Nat.le_of_ble_eq_true rfl, Nat.le_of_ble_eq_true rfl⟩) hS (fun q _ h => h.elim) (fun q h => h.elim) (fun r_3 u t H1 locs ht hvm hw_3 hB hz1 hk1 hS => ?_)
  have hE : s.heap = H1 := hB.symm.trans ht
  subst hE
  obtain rfl : r_3 = 0 := hw_3
  refine lv_if_eq (tgt := 21) hx hb dX7_booked_6 (by decide) (fun _ => ?_) (fun c_6 => absurd (by decide +kernel) c_6)
  refine lv_iconst (v := (-1)) hx hb dX7_booked_21 (by decide +kernel) ?_
  refine W.widen (k := 0) (n := 0) (Nat.le_of_ble_eq_true rfl) (Nat.le_of_ble_eq_true rfl) ?_
  exact W.iret (v := (-1)) hx hb hr (fun t ht hW => ⟨⟨(-1), (), rfl, rfl, ht⟩, hS.F ht⟩) hS.2.2 dX7_booked_22
set_option maxHeartbeats 1000000 in
set_option maxRecDepth 100000 in
theorem mz_f_x_told (l : Launch) (dC : Nat → ClassId) (dI : Nat → Nat → Nat) (cI cJ cZ : ClassId) (mx : Nat) (dr : Nat) (th : Nat) (bk : Nat) (wt : Nat) (tt : Nat) (lh : Nat) (la : Nat) (sh : Int32) (ab : Int64) (be : Int64) (dp : Nat) (dc : Nat) (n : Nat) (fp : Nat → Int32) (fc : Nat → Int32) (i : Nat) (p2 : Int32) (Hq : Heap) (hn : n ≤ 8) (hi : i < n) (hf8 : ∀ k, k < 8 → ∀ j, j < 32 → mz_t (fc k) j = true → j < 8) : Met l yX7_told wsX7_told ({ frames := 5, cells := 0, slots := 0, locals := 111 }) (va_Pc [.ref mx, .int (nI i), .int p2] (fun U => U.heap = Hq ∧ va_P (dC, dI) vwCl [(mx, .inr (7, [.ref dr, .ref th, .ref bk, .ref wt, .ref tt, .ref lh, .ref la, .int sh, .long ab, .long be])), (dr, .inr (2, [.ref dp, .ref dc, .int (nI n)])), (dp, .inl (cI, 8, .inl fp)), (dc, .inl (cI, 8, .inl fc))] Hq ∧ va_K (dC, dI) vwCl [(cI, FieldType.int), (cJ, FieldType.long), (cZ, FieldType.boolean)] U ∧ mz_N U)) (va_Qi (fun (r : Int32) (_ : Unit) => mz_tld sh fp fc i p2 r) (fun _ t => t.heap = Hq) (fun _ : Nat => False)) 0 0 (fun _ : Nat => False) := by
  refine Met.ofW (cc := cX7_told) (maxL := 3) (ret := (some .int)) (by decide) rfl ?_
  intro p e s m args below meth c s₁ B hml hv
  obtain ⟨rfl, hH, hP, hK, hN⟩ := hv
  subst hH
  have hx := B.exec
  have hb := B.bytes
  have hr := B.returns
  have hts := atoms_spec (ws := wsX7_told) B.pre
  have hown : s.vm.findClass RX7 = some m.cls := findClass_of_methodNamed B.named
  have hlocks := B.notSynchronized
  have hS : va_S (fun _ : Nat => False) s.heap s.heap [] := va_S.rf
  have hiX7 : ∀ w ∈ u_ws RX7 TX7 10, w ∈ wsX7_told := by decide +kernel
  have hl := lv_entry ([.ref mx, .int (nI i), .int p2]) (n := 3) (Nat.le_of_ble_eq_true rfl)
  rw [lg_entry_eq]
  generalize (lg_sl ([.ref mx, .int (nI i), .int p2]) ++ List.replicate (3 - (lg_sl ([.ref mx, .int (nI i), .int p2])).length) Slot.unset).toArray = ls at hl ⊢
  have hl : lv_has ls 3 [(0, .ref mx), (1, .int (nI i)), (2, .int p2)] := hl
  refine lv_aload_n hx hb dX7_told_0 rfl (lv_at hl 0 rfl) ?_
  refine va_get (D := (dC, dI)) (ci := 7) (v := .ref dr) (C := RX7) (T := TX7) (N := 10) hx hb hts hiX7 hown hK hP 0 rfl rfl 0 (by decide) (hts (.fieldLink RX7 12 "MadeItSo" "drawing" "LMadeItSo$Drawing;") (by decide +kernel)) (fun _ h9 => h9) rfl dX7_told_1 ?_
  refine lv_iload_n hx hb dX7_told_4 rfl (lv_at hl 1 rfl) ?_
  have hPc := hP.sub (ws' := [(dr, .inr (2, [.ref dp, .ref dc, .int (nI n)]))]) [1] rfl
  refine va_calli (va_runV (As := [.int (nI i)]) (rest := []) ⟨hx, hb, hml, hown, hts⟩ (mz_d_has_in l dC dI cI cJ cZ dr dp dc n i s.heap (by first | assumption | omega) (by first | assumption | omega)) (cwV 1 hts gX7_told_X2_has rfl rfl rfl (by decide +kernel) ⟨Nat.le_of_ble_eq_true rfl, Nat.le_of_ble_eq_true rfl⟩) ⟨fun a U g mk q => mz_blP q, va_recv hK hPc (ci := 2) (q0 := 0) rfl rfl, fun U hU hW => ⟨rfl, hU, hPc, va_K.moved hW.alike hK, mz_nw hW hN⟩⟩ rfl rfl hl.1 rfl (lv_room (Nat.le_of_ble_eq_true rfl)) dX7_told_5 ⟨Nat.le_of_ble_eq_true rfl, Nat.le_of_ble_eq_true rfl⟩) hS (fun q _ h => h.elim) (fun q h => h.elim) (fun r_5 u t H1 locs ht hvm hw_5 hB hz1 hk1 hS => ?_)
  have hE : s.heap = H1 := hB.symm.trans ht
  subst hE
  obtain rfl : r_5 = 1 := hw_5
  refine lv_if_ne (tgt := 13) hx hb dX7_told_8 (by decide) (fun _ => ?_) (fun c_8 => absurd c_8 (by decide +kernel))
  refine lv_iload_n hx hb dX7_told_13 rfl (lv_at hl 2 rfl) ?_
  by_cases hs_0 : p2 = 0
  · refine mz_ti (y := 0) hs_0 ?_
    refine lv_tableIn (tgt := 44) (off := 30) hx hb dX7_told_14 (by decide +kernel) (by decide +kernel) (by decide +kernel) (by decide) ?_
    refine lv_aload_n hx hb dX7_told_44 rfl (lv_at hl 0 rfl) ?_
    refine va_get (D := (dC, dI)) (ci := 7) (v := .int sh) (C := RX7) (T := TX7) (N := 10) hx hb hts hiX7 hown hK hP 0 rfl rfl 7 (by decide) (hts (.fieldLink RX7 54 "MadeItSo" "seenHeap" "I") (by decide +kernel)) (fun _ h9 => h9) rfl dX7_told_45 ?_
    refine lv_iload_n hx hb dX7_told_48 rfl (lv_at hl 1 rfl) ?_
    have hPc := hP.sub (ws' := []) [] rfl
    refine va_calli (va_runS (As := [.int sh, .int (nI i)]) (rest := []) ⟨hx, hb, hml, hown, hts⟩ (mz_e_inHeap l dC dI cI cJ cZ sh i s.heap (by first | assumption | omega)) (va_cwS 2 hts gX7_told_X7_inHeap rfl rfl rfl (by decide +kernel) ⟨Nat.le_of_ble_eq_true rfl, Nat.le_of_ble_eq_true rfl⟩) ⟨fun a U g mk q => mz_blP q, fun U hU hW => ⟨rfl, hU, hPc, va_K.moved hW.alike hK, mz_nw hW hN⟩⟩ rfl rfl hl.1 rfl (lv_room (Nat.le_of_ble_eq_true rfl)) dX7_told_49 ⟨Nat.le_of_ble_eq_true rfl, Nat.le_of_ble_eq_true rfl⟩) hS (fun q _ h => h.elim) (fun q h => h.elim) (fun r_49 u t H1 locs ht hvm hw_49 hB hz1 hk1 hS => ?_)
    have hE : s.heap = H1 := hB.symm.trans ht
    subst hE
    rcases (show (r_49 = 1 ∧ mz_t sh i = true) ∨ (r_49 = 0 ∧ mz_t sh i = false) from hw_49) with ⟨rfl, ht_49⟩ | ⟨rfl, ht_49⟩
    · skip
      refine lv_if_eq (tgt := 59) hx hb dX7_told_52 (by decide) (fun c_52 => absurd c_52 (by decide +kernel)) (fun _ => ?_)
      refine lv_iconst (v := 1) hx hb dX7_told_55 (by decide +kernel) ?_
      refine lv_goto (tgt := 60) hx hb dX7_told_56 (by decide) ?_
      refine W.widen (k := 0) (n := 0) (Nat.le_of_ble_eq_true rfl) (Nat.le_of_ble_eq_true rfl) ?_
      exact W.iret (v := 1) hx hb hr (fun t ht hW => ⟨⟨1, (), rfl, (mz_tl0y hs_0 ht_49), ht⟩, hS.F ht⟩) hS.2.2 dX7_told_60
    · skip
      refine lv_if_eq (tgt := 59) hx hb dX7_told_52 (by decide) (fun _ => ?_) (fun c_52 => absurd (by decide +kernel) c_52)
      refine lv_iconst (v := 0) hx hb dX7_told_59 (by decide +kernel) ?_
      refine W.widen (k := 0) (n := 0) (Nat.le_of_ble_eq_true rfl) (Nat.le_of_ble_eq_true rfl) ?_
      exact W.iret (v := 0) hx hb hr (fun t ht hW => ⟨⟨0, (), rfl, (mz_tl0n hs_0 ht_49), ht⟩, hS.F ht⟩) hS.2.2 dX7_told_60
  by_cases hs_1 : p2 = 1
  · refine mz_ti (y := 1) hs_1 ?_
    refine lv_tableIn (tgt := 61) (off := 47) hx hb dX7_told_14 (by decide +kernel) (by decide +kernel) (by decide +kernel) (by decide) ?_
    refine lv_aload_n hx hb dX7_told_61 rfl (lv_at hl 0 rfl) ?_
    refine va_get (D := (dC, dI)) (ci := 7) (v := .ref dr) (C := RX7) (T := TX7) (N := 10) hx hb hts hiX7 hown hK hP 0 rfl rfl 0 (by decide) (hts (.fieldLink RX7 12 "MadeItSo" "drawing" "LMadeItSo$Drawing;") (by decide +kernel)) (fun _ h9 => h9) rfl dX7_told_62 ?_
    refine lv_iload_n hx hb dX7_told_65 rfl (lv_at hl 1 rfl) ?_
    have hPc := hP.sub (ws' := [(dr, .inr (2, [.ref dp, .ref dc, .int (nI n)])), (dp, .inl (cI, 8, .inl fp))]) [1, 2] rfl
    refine va_calli (va_runV (As := [.int (nI i)]) (rest := []) ⟨hx, hb, hml, hown, hts⟩ (mz_e_parentsOf l dC dI cI cJ cZ dr dp dc n fp i s.heap (by first | assumption | omega) (by first | assumption | omega)) (cwV 1 hts gX7_told_X2_parentsOf rfl rfl rfl (by decide +kernel) ⟨Nat.le_of_ble_eq_true rfl, Nat.le_of_ble_eq_true rfl⟩) ⟨fun a U g mk q => mz_blP q, va_recv hK hPc (ci := 2) (q0 := 0) rfl rfl, fun U hU hW => ⟨rfl, hU, hPc, va_K.moved hW.alike hK, mz_nw hW hN⟩⟩ rfl rfl hl.1 rfl (lv_room (Nat.le_of_ble_eq_true rfl)) dX7_told_66 ⟨Nat.le_of_ble_eq_true rfl, Nat.le_of_ble_eq_true rfl⟩) hS (fun q _ h => h.elim) (fun q h => h.elim) (fun r_66 u t H1 locs ht hvm hw_66 hB hz1 hk1 hS => ?_)
    have hE : s.heap = H1 := hB.symm.trans ht
    subst hE
    obtain rfl : r_66 = (fp i) := hw_66
    refine W.widen (k := 0) (n := 0) (Nat.le_of_ble_eq_true rfl) (Nat.le_of_ble_eq_true rfl) ?_
    exact W.iret (v := (fp i)) hx hb hr (fun t ht hW => ⟨⟨(fp i), (), rfl, (mz_tl1 hs_1), ht⟩, hS.F ht⟩) hS.2.2 dX7_told_69
  by_cases hs_2 : p2 = 2
  · refine mz_ti (y := 2) hs_2 ?_
    refine lv_tableIn (tgt := 70) (off := 56) hx hb dX7_told_14 (by decide +kernel) (by decide +kernel) (by decide +kernel) (by decide) ?_
    refine lv_aload_n hx hb dX7_told_70 rfl (lv_at hl 0 rfl) ?_
    refine va_get (D := (dC, dI)) (ci := 7) (v := .ref dr) (C := RX7) (T := TX7) (N := 10) hx hb hts hiX7 hown hK hP 0 rfl rfl 0 (by decide) (hts (.fieldLink RX7 12 "MadeItSo" "drawing" "LMadeItSo$Drawing;") (by decide +kernel)) (fun _ h9 => h9) rfl dX7_told_71 ?_
    refine lv_iload_n hx hb dX7_told_74 rfl (lv_at hl 1 rfl) ?_
    have hPc := hP.sub (ws' := [(dr, .inr (2, [.ref dp, .ref dc, .int (nI n)])), (dc, .inl (cI, 8, .inl fc))]) [1, 3] rfl
    refine va_calli (va_runV (As := [.int (nI i)]) (rest := []) ⟨hx, hb, hml, hown, hts⟩ (mz_e_childrenOf l dC dI cI cJ cZ dr dp dc n fc i s.heap (by first | assumption | omega) (by first | assumption | omega)) (cwV 1 hts gX7_told_X2_childrenOf rfl rfl rfl (by decide +kernel) ⟨Nat.le_of_ble_eq_true rfl, Nat.le_of_ble_eq_true rfl⟩) ⟨fun a U g mk q => mz_blP q, va_recv hK hPc (ci := 2) (q0 := 0) rfl rfl, fun U hU hW => ⟨rfl, hU, hPc, va_K.moved hW.alike hK, mz_nw hW hN⟩⟩ rfl rfl hl.1 rfl (lv_room (Nat.le_of_ble_eq_true rfl)) dX7_told_75 ⟨Nat.le_of_ble_eq_true rfl, Nat.le_of_ble_eq_true rfl⟩) hS (fun q _ h => h.elim) (fun q h => h.elim) (fun r_75 u t H1 locs ht hvm hw_75 hB hz1 hk1 hS => ?_)
    have hE : s.heap = H1 := hB.symm.trans ht
    subst hE
    obtain rfl : r_75 = (fc i) := hw_75
    refine W.widen (k := 0) (n := 0) (Nat.le_of_ble_eq_true rfl) (Nat.le_of_ble_eq_true rfl) ?_
    exact W.iret (v := (fc i)) hx hb hr (fun t ht hW => ⟨⟨(fc i), (), rfl, (mz_tl2 hs_2), ht⟩, hS.F ht⟩) hS.2.2 dX7_told_78
  by_cases hs_3 : p2 = 3
  · refine mz_ti (y := 3) hs_3 ?_
    refine lv_tableIn (tgt := 79) (off := 65) hx hb dX7_told_14 (by decide +kernel) (by decide +kernel) (by decide +kernel) (by decide) ?_
    refine lv_aload_n hx hb dX7_told_79 rfl (lv_at hl 0 rfl) ?_
    refine va_get (D := (dC, dI)) (ci := 7) (v := .ref dr) (C := RX7) (T := TX7) (N := 10) hx hb hts hiX7 hown hK hP 0 rfl rfl 0 (by decide) (hts (.fieldLink RX7 12 "MadeItSo" "drawing" "LMadeItSo$Drawing;") (by decide +kernel)) (fun _ h9 => h9) rfl dX7_told_80 ?_
    refine lv_iload_n hx hb dX7_told_83 rfl (lv_at hl 1 rfl) ?_
    have hPc := hP.sub (ws' := [(dr, .inr (2, [.ref dp, .ref dc, .int (nI n)])), (dc, .inl (cI, 8, .inl fc))]) [1, 3] rfl
    refine va_calli (va_runV (As := [.int (nI i)]) (rest := []) ⟨hx, hb, hml, hown, hts⟩ (mz_e_allBelow l dC dI cI cJ cZ dr dp dc n fc i s.heap (by first | assumption | omega) (by first | assumption | omega) (by first | assumption | omega)) (cwV 1 hts gX7_told_X2_allBelow rfl rfl rfl (by decide +kernel) ⟨Nat.le_of_ble_eq_true rfl, Nat.le_of_ble_eq_true rfl⟩) ⟨fun a U g mk q => mz_blP q, va_recv hK hPc (ci := 2) (q0 := 0) rfl rfl, fun U hU hW => ⟨rfl, hU, hPc, va_K.moved hW.alike hK, mz_nw hW hN⟩⟩ rfl rfl hl.1 rfl (lv_room (Nat.le_of_ble_eq_true rfl)) dX7_told_84 ⟨Nat.le_of_ble_eq_true rfl, Nat.le_of_ble_eq_true rfl⟩) hS (fun q _ h => h.elim) (fun q h => h.elim) (fun r_84 u t H1 locs ht hvm hw_84 hB hz1 hk1 hS => ?_)
    have hE : s.heap = H1 := hB.symm.trans ht
    subst hE
    refine W.widen (k := 0) (n := 0) (Nat.le_of_ble_eq_true rfl) (Nat.le_of_ble_eq_true rfl) ?_
    exact W.iret (v := r_84) hx hb hr (fun t ht hW => ⟨⟨r_84, (), rfl, (mz_tl3 hs_3 hw_84), ht⟩, hS.F ht⟩) hS.2.2 dX7_told_87
  refine lv_tableOut (tgt := 88) hx hb dX7_told_14 (mz_sw3 hs_0 hs_1 hs_2 hs_3) (by decide) ?_
  refine lv_iconst (v := (-1)) hx hb dX7_told_88 (by decide +kernel) ?_
  refine W.widen (k := 0) (n := 0) (Nat.le_of_ble_eq_true rfl) (Nat.le_of_ble_eq_true rfl) ?_
  exact W.iret (v := (-1)) hx hb hr (fun t ht hW => ⟨⟨(-1), (), rfl, (mz_tl4 hs_0 hs_1 hs_2 hs_3), ht⟩, hS.F ht⟩) hS.2.2 dX7_told_89
set_option maxHeartbeats 1000000 in
set_option maxRecDepth 100000 in
theorem mz_f_x_told_out (l : Launch) (dC : Nat → ClassId) (dI : Nat → Nat → Nat) (cI cJ cZ : ClassId) (mx : Nat) (dr : Nat) (th : Nat) (bk : Nat) (wt : Nat) (tt : Nat) (lh : Nat) (la : Nat) (sh : Int32) (ab : Int64) (be : Int64) (dp : Nat) (dc : Nat) (n : Nat) (p1 : Int32) (p2 : Int32) (Hq : Heap) (hn : n ≤ 8) (hout1 : ¬ ∃ i : Nat, i < n ∧ p1 = nI i) : Met l yX7_told wsX7_told ({ frames := 1, cells := 0, slots := 0, locals := 21 }) (va_Pc [.ref mx, .int p1, .int p2] (fun U => U.heap = Hq ∧ va_P (dC, dI) vwCl [(mx, .inr (7, [.ref dr, .ref th, .ref bk, .ref wt, .ref tt, .ref lh, .ref la, .int sh, .long ab, .long be])), (dr, .inr (2, [.ref dp, .ref dc, .int (nI n)]))] Hq ∧ va_K (dC, dI) vwCl [(cI, FieldType.int), (cJ, FieldType.long), (cZ, FieldType.boolean)] U ∧ mz_N U)) (va_Qi (fun (r : Int32) (_ : Unit) => r = (-1)) (fun _ t => t.heap = Hq) (fun _ : Nat => False)) 0 0 (fun _ : Nat => False) := by
  refine Met.ofW (cc := cX7_told) (maxL := 3) (ret := (some .int)) (by decide) rfl ?_
  intro p e s m args below meth c s₁ B hml hv
  obtain ⟨rfl, hH, hP, hK, hN⟩ := hv
  subst hH
  have hx := B.exec
  have hb := B.bytes
  have hr := B.returns
  have hts := atoms_spec (ws := wsX7_told) B.pre
  have hown : s.vm.findClass RX7 = some m.cls := findClass_of_methodNamed B.named
  have hlocks := B.notSynchronized
  have hS : va_S (fun _ : Nat => False) s.heap s.heap [] := va_S.rf
  have hiX7 : ∀ w ∈ u_ws RX7 TX7 10, w ∈ wsX7_told := by decide +kernel
  have hl := lv_entry ([.ref mx, .int p1, .int p2]) (n := 3) (Nat.le_of_ble_eq_true rfl)
  rw [lg_entry_eq]
  generalize (lg_sl ([.ref mx, .int p1, .int p2]) ++ List.replicate (3 - (lg_sl ([.ref mx, .int p1, .int p2])).length) Slot.unset).toArray = ls at hl ⊢
  have hl : lv_has ls 3 [(0, .ref mx), (1, .int p1), (2, .int p2)] := hl
  refine lv_aload_n hx hb dX7_told_0 rfl (lv_at hl 0 rfl) ?_
  refine va_get (D := (dC, dI)) (ci := 7) (v := .ref dr) (C := RX7) (T := TX7) (N := 10) hx hb hts hiX7 hown hK hP 0 rfl rfl 0 (by decide) (hts (.fieldLink RX7 12 "MadeItSo" "drawing" "LMadeItSo$Drawing;") (by decide +kernel)) (fun _ h9 => h9) rfl dX7_told_1 ?_
  refine lv_iload_n hx hb dX7_told_4 rfl (lv_at hl 1 rfl) ?_
  have hPc := hP.sub (ws' := [(dr, .inr (2, [.ref dp, .ref dc, .int (nI n)]))]) [1] rfl
  refine va_calli (va_runV (As := [.int p1]) (rest := []) ⟨hx, hb, hml, hown, hts⟩ (mz_d_has l dC dI cI cJ cZ dr dp dc n p1 s.heap (by first | assumption | omega)) (cwV 1 hts gX7_told_X2_has rfl rfl rfl (by decide +kernel) ⟨Nat.le_of_ble_eq_true rfl, Nat.le_of_ble_eq_true rfl⟩) ⟨fun a U g mk q => mz_blP q, va_recv hK hPc (ci := 2) (q0 := 0) rfl rfl, fun U hU hW => ⟨rfl, hU, hPc, va_K.moved hW.alike hK, mz_nw hW hN⟩⟩ rfl rfl hl.1 rfl (lv_room (Nat.le_of_ble_eq_true rfl)) dX7_told_5 ⟨Nat.le_of_ble_eq_true rfl, Nat.le_of_ble_eq_true rfl⟩) hS (fun q _ h => h.elim) (fun q h => h.elim) (fun r_5 u t H1 locs ht hvm hw_5 hB hz1 hk1 hS => ?_)
  have hE : s.heap = H1 := hB.symm.trans ht
  subst hE
  rcases (show (r_5 = 1 ∧ ∃ j : Nat, j < n ∧ p1 = nI j) ∨ r_5 = 0 from hw_5) with ⟨rfl, j_5, hj_5, he_5⟩ | rfl
  · skip
    subst he_5
    refine lv_if_ne (tgt := 13) hx hb dX7_told_8 (by decide) (fun _ => ?_) (fun c_8 => absurd c_8 (by decide +kernel))
    exact absurd ⟨_, hj_5, rfl⟩ hout1
  · skip
    refine lv_if_ne (tgt := 13) hx hb dX7_told_8 (by decide) (fun c_8 => absurd (by decide +kernel) c_8) (fun _ => ?_)
    refine lv_iconst (v := (-1)) hx hb dX7_told_11 (by decide +kernel) ?_
    refine W.widen (k := 0) (n := 0) (Nat.le_of_ble_eq_true rfl) (Nat.le_of_ble_eq_true rfl) ?_
    exact W.iret (v := (-1)) hx hb hr (fun t ht hW => ⟨⟨(-1), (), rfl, rfl, ht⟩, hS.F ht⟩) hS.2.2 dX7_told_12
set_option maxHeartbeats 1000000 in
set_option maxRecDepth 100000 in
theorem mz_f_x_count (l : Launch) (dC : Nat → ClassId) (dI : Nat → Nat → Nat) (cI cJ cZ : ClassId) (mx : Nat) (dr : Nat) (th : Nat) (bk : Nat) (wt : Nat) (tt : Nat) (lh : Nat) (la : Nat) (sh : Int32) (ab : Int64) (be : Int64) (dp : Nat) (dc : Nat) (n : Nat) (fp : Nat → Int32) (p1 : Int32) (Hq : Heap) (hn : n ≤ 8) (hb8 : ∀ k, k < n → ∀ q, q < 32 → mz_t (fp k) q = true → q < 8) : Met l yX7_count wsX7_count ({ frames := 2, cells := 0, slots := 0, locals := 42 }) (va_Pc [.ref mx, .int p1] (fun U => U.heap = Hq ∧ va_P (dC, dI) vwCl [(mx, .inr (7, [.ref dr, .ref th, .ref bk, .ref wt, .ref tt, .ref lh, .ref la, .int sh, .long ab, .long be])), (dr, .inr (2, [.ref dp, .ref dc, .int (nI n)])), (dp, .inl (cI, 8, .inl fp))] Hq ∧ va_K (dC, dI) vwCl [(cI, FieldType.int), (cJ, FieldType.long), (cZ, FieldType.boolean)] U ∧ mz_N U)) (va_Qi (fun (r : Int32) (_ : Unit) => mz_cnt n (mz_sm fp n) p1 r (fun q => q = sh)) (fun _ t => t.heap = Hq) (fun _ : Nat => False)) 0 0 (fun _ : Nat => False) := by
  refine Met.ofW (cc := cX7_count) (maxL := 2) (ret := (some .int)) (by decide) rfl ?_
  intro p e s m args below meth c s₁ B hml hv
  obtain ⟨rfl, hH, hP, hK, hN⟩ := hv
  subst hH
  have hx := B.exec
  have hb := B.bytes
  have hr := B.returns
  have hts := atoms_spec (ws := wsX7_count) B.pre
  have hown : s.vm.findClass RX7 = some m.cls := findClass_of_methodNamed B.named
  have hlocks := B.notSynchronized
  have hS : va_S (fun _ : Nat => False) s.heap s.heap [] := va_S.rf
  have hiX7 : ∀ w ∈ u_ws RX7 TX7 10, w ∈ wsX7_count := by decide +kernel
  have hl := lv_entry ([.ref mx, .int p1]) (n := 2) (Nat.le_of_ble_eq_true rfl)
  rw [lg_entry_eq]
  generalize (lg_sl ([.ref mx, .int p1]) ++ List.replicate (2 - (lg_sl ([.ref mx, .int p1])).length) Slot.unset).toArray = ls at hl ⊢
  have hl : lv_has ls 2 [(0, .ref mx), (1, .int p1)] := hl
  refine lv_iload_n hx hb dX7_count_0 rfl (lv_at hl 1 rfl) ?_
  by_cases hs_0 : p1 = 0
  · refine mz_ti (y := 0) hs_0 ?_
    refine lv_tableIn (tgt := 28) (off := 27) hx hb dX7_count_1 (by decide +kernel) (by decide +kernel) (by decide +kernel) (by decide) ?_
    refine lv_aload_n hx hb dX7_count_28 rfl (lv_at hl 0 rfl) ?_
    refine va_get (D := (dC, dI)) (ci := 7) (v := .ref dr) (C := RX7) (T := TX7) (N := 10) hx hb hts hiX7 hown hK hP 0 rfl rfl 0 (by decide) (hts (.fieldLink RX7 12 "MadeItSo" "drawing" "LMadeItSo$Drawing;") (by decide +kernel)) (fun _ h9 => h9) rfl dX7_count_29 ?_
    have hPc := hP.sub (ws' := [(dr, .inr (2, [.ref dp, .ref dc, .int (nI n)]))]) [1] rfl
    refine va_calli (va_runV (As := []) (rest := []) ⟨hx, hb, hml, hown, hts⟩ (mz_d_size l dC dI cI cJ cZ dr dp dc n s.heap ) (cwV 0 hts gX7_count_X2_size rfl rfl rfl (by decide +kernel) ⟨Nat.le_of_ble_eq_true rfl, Nat.le_of_ble_eq_true rfl⟩) ⟨fun a U g mk q => mz_blP q, va_recv hK hPc (ci := 2) (q0 := 0) rfl rfl, fun U hU hW => ⟨rfl, hU, hPc, va_K.moved hW.alike hK, mz_nw hW hN⟩⟩ rfl rfl hl.1 rfl (lv_room (Nat.le_of_ble_eq_true rfl)) dX7_count_32 ⟨Nat.le_of_ble_eq_true rfl, Nat.le_of_ble_eq_true rfl⟩) hS (fun q _ h => h.elim) (fun q h => h.elim) (fun r_32 u t H1 locs ht hvm hw_32 hB hz1 hk1 hS => ?_)
    have hE : s.heap = H1 := hB.symm.trans ht
    subst hE
    obtain rfl : r_32 = (nI n) := hw_32
    refine W.widen (k := 0) (n := 0) (Nat.le_of_ble_eq_true rfl) (Nat.le_of_ble_eq_true rfl) ?_
    exact W.iret (v := (nI n)) hx hb hr (fun t ht hW => ⟨⟨(nI n), (), rfl, (mz_cn0 hs_0), ht⟩, hS.F ht⟩) hS.2.2 dX7_count_35
  by_cases hs_1 : p1 = 1
  · refine mz_ti (y := 1) hs_1 ?_
    refine lv_tableIn (tgt := 36) (off := 35) hx hb dX7_count_1 (by decide +kernel) (by decide +kernel) (by decide +kernel) (by decide) ?_
    refine lv_aload_n hx hb dX7_count_36 rfl (lv_at hl 0 rfl) ?_
    refine va_get (D := (dC, dI)) (ci := 7) (v := .ref dr) (C := RX7) (T := TX7) (N := 10) hx hb hts hiX7 hown hK hP 0 rfl rfl 0 (by decide) (hts (.fieldLink RX7 12 "MadeItSo" "drawing" "LMadeItSo$Drawing;") (by decide +kernel)) (fun _ h9 => h9) rfl dX7_count_37 ?_
    have hPc := hP.sub (ws' := [(dr, .inr (2, [.ref dp, .ref dc, .int (nI n)])), (dp, .inl (cI, 8, .inl fp))]) [1, 2] rfl
    refine va_calli (va_runV (As := []) (rest := []) ⟨hx, hb, hml, hown, hts⟩ (mz_f_arrows l dC dI cI cJ cZ dr dp dc n fp s.heap (by first | assumption | omega) (by first | assumption | omega)) (cwV 0 hts gX7_count_X2_arrows rfl rfl rfl (by decide +kernel) ⟨Nat.le_of_ble_eq_true rfl, Nat.le_of_ble_eq_true rfl⟩) ⟨fun a U g mk q => mz_blP q, va_recv hK hPc (ci := 2) (q0 := 0) rfl rfl, fun U hU hW => ⟨rfl, hU, hPc, va_K.moved hW.alike hK, mz_nw hW hN⟩⟩ rfl rfl hl.1 rfl (lv_room (Nat.le_of_ble_eq_true rfl)) dX7_count_40 ⟨Nat.le_of_ble_eq_true rfl, Nat.le_of_ble_eq_true rfl⟩) hS (fun q _ h => h.elim) (fun q h => h.elim) (fun r_40 u t H1 locs ht hvm hw_40 hB hz1 hk1 hS => ?_)
    have hE : s.heap = H1 := hB.symm.trans ht
    subst hE
    obtain rfl : r_40 = (nI (mz_sm fp n)) := hw_40
    refine W.widen (k := 0) (n := 0) (Nat.le_of_ble_eq_true rfl) (Nat.le_of_ble_eq_true rfl) ?_
    exact W.iret (v := (nI (mz_sm fp n))) hx hb hr (fun t ht hW => ⟨⟨(nI (mz_sm fp n)), (), rfl, (mz_cn1 hs_1 rfl), ht⟩, hS.F ht⟩) hS.2.2 dX7_count_43
  by_cases hs_2 : p1 = 2
  · refine mz_ti (y := 2) hs_2 ?_
    refine lv_tableIn (tgt := 44) (off := 43) hx hb dX7_count_1 (by decide +kernel) (by decide +kernel) (by decide +kernel) (by decide) ?_
    refine lv_aload_n hx hb dX7_count_44 rfl (lv_at hl 0 rfl) ?_
    refine va_get (D := (dC, dI)) (ci := 7) (v := .int sh) (C := RX7) (T := TX7) (N := 10) hx hb hts hiX7 hown hK hP 0 rfl rfl 7 (by decide) (hts (.fieldLink RX7 54 "MadeItSo" "seenHeap" "I") (by decide +kernel)) (fun _ h9 => h9) rfl dX7_count_45 ?_
    refine W.widen (k := 0) (n := 0) (Nat.le_of_ble_eq_true rfl) (Nat.le_of_ble_eq_true rfl) ?_
    exact W.iret (v := sh) hx hb hr (fun t ht hW => ⟨⟨sh, (), rfl, (mz_cn2 hs_2 rfl), ht⟩, hS.F ht⟩) hS.2.2 dX7_count_48
  refine lv_tableOut (tgt := 49) hx hb dX7_count_1 (mz_sw2 hs_0 hs_1 hs_2) (by decide) ?_
  refine lv_iconst (v := (-1)) hx hb dX7_count_49 (by decide +kernel) ?_
  refine W.widen (k := 0) (n := 0) (Nat.le_of_ble_eq_true rfl) (Nat.le_of_ble_eq_true rfl) ?_
  exact W.iret (v := (-1)) hx hb hr (fun t ht hW => ⟨⟨(-1), (), rfl, (mz_cn3 hs_0 hs_1 hs_2), ht⟩, hS.F ht⟩) hS.2.2 dX7_count_50
set_option maxHeartbeats 1000000 in
set_option maxRecDepth 100000 in
theorem mz_f_x_thing (l : Launch) (dC : Nat → ClassId) (dI : Nat → Nat → Nat) (cI cJ cZ : ClassId) (mx : Nat) (dr : Nat) (th : Nat) (bk : Nat) (wt : Nat) (tt : Nat) (lh : Nat) (la : Nat) (sh : Int32) (ab : Int64) (be : Int64) (dp : Nat) (dc : Nat) (n : Nat) (bp : Nat) (fb : Nat → Int32) (p1 : Int32) (sz : Nat) (hn8 : n < 8) : Met l yX7_thing wsX7_thing ({ frames := 1, cells := 0, slots := 0, locals := 22 }) (va_Pc [.ref mx, .int p1] (fun U => U.heap.size = sz ∧ va_P (dC, dI) vwCl [(mx, .inr (7, [.ref dr, .ref th, .ref bk, .ref wt, .ref tt, .ref lh, .ref la, .int sh, .long ab, .long be])), (dr, .inr (2, [.ref dp, .ref dc, .int (nI n)])), (bk, .inr (1, [.ref bp])), (bp, .inl (cI, 1024, .inl fb))] U.heap ∧ va_K (dC, dI) vwCl [(cI, FieldType.int), (cJ, FieldType.long), (cZ, FieldType.boolean)] U ∧ va_D (fun _ => True) [(mx, .inr (7, [.ref dr, .ref th, .ref bk, .ref wt, .ref tt, .ref lh, .ref la, .int sh, .long ab, .long be])), (dr, .inr (2, [.ref dp, .ref dc, .int (nI n)])), (bk, .inr (1, [.ref bp])), (bp, .inl (cI, 1024, .inl fb))] ∧ mz_N U)) (va_Qi (fun (r : Int32) (_ : Unit) => r = (nI n)) (fun _ t => ∃ (gsh : Int32), ∃ (gb : Nat → Int32), (¬ p1 = 0 → gsh = sh ||| (1 <<< ((nI n) &&& 31))) ∧ (p1 = 0 → gsh = sh) ∧ (mz_bkp fb gb n 128) ∧ va_P (dC, dI) vwCl [(mx, .inr (7, [.ref dr, .ref th, .ref bk, .ref wt, .ref tt, .ref lh, .ref la, .int gsh, .long ab, .long be])), (dr, .inr (2, [.ref dp, .ref dc, .int (nI ((n + 1)))])), (bk, .inr (1, [.ref bp])), (bp, .inl (cI, 1024, .inl gb))] t.heap ∧ va_D (va_A [(mx, .inr (7, [.ref dr, .ref th, .ref bk, .ref wt, .ref tt, .ref lh, .ref la, .int sh, .long ab, .long be])), (dr, .inr (2, [.ref dp, .ref dc, .int (nI n)])), (bk, .inr (1, [.ref bp])), (bp, .inl (cI, 1024, .inl fb))] sz) [(mx, .inr (7, [.ref dr, .ref th, .ref bk, .ref wt, .ref tt, .ref lh, .ref la, .int gsh, .long ab, .long be])), (dr, .inr (2, [.ref dp, .ref dc, .int (nI ((n + 1)))])), (bk, .inr (1, [.ref bp])), (bp, .inl (cI, 1024, .inl gb))]) (va_A [(mx, .inr (7, [.ref dr, .ref th, .ref bk, .ref wt, .ref tt, .ref lh, .ref la, .int sh, .long ab, .long be])), (dr, .inr (2, [.ref dp, .ref dc, .int (nI n)])), (bk, .inr (1, [.ref bp])), (bp, .inl (cI, 1024, .inl fb))] sz)) 0 0 (va_A [(mx, .inr (7, [.ref dr, .ref th, .ref bk, .ref wt, .ref tt, .ref lh, .ref la, .int sh, .long ab, .long be])), (dr, .inr (2, [.ref dp, .ref dc, .int (nI n)])), (bk, .inr (1, [.ref bp])), (bp, .inl (cI, 1024, .inl fb))] sz) := by
  refine Met.ofW (cc := cX7_thing) (maxL := 3) (ret := (some .int)) (by decide) rfl ?_
  intro p e s m args below meth c s₁ B hml hv
  obtain ⟨rfl, hsz, hP, hK, hD0, hN⟩ := hv
  subst hsz
  have hx := B.exec
  have hb := B.bytes
  have hr := B.returns
  have hts := atoms_spec (ws := wsX7_thing) B.pre
  have hown : s.vm.findClass RX7 = some m.cls := findClass_of_methodNamed B.named
  have hlocks := B.notSynchronized
  have hD := hD0.self (sz := s.heap.size)
  generalize hAe : va_A [(mx, .inr (7, [.ref dr, .ref th, .ref bk, .ref wt, .ref tt, .ref lh, .ref la, .int sh, .long ab, .long be])), (dr, .inr (2, [.ref dp, .ref dc, .int (nI n)])), (bk, .inr (1, [.ref bp])), (bp, .inl (cI, 1024, .inl fb))] s.heap.size = A at hD ⊢
  have hA : ∀ q : Nat, s.heap.size ≤ q → A q := fun q h => by rw [← hAe]; exact Or.inr h
  have hS : va_S A s.heap s.heap [] := va_S.rf
  have hiX7 : ∀ w ∈ u_ws RX7 TX7 10, w ∈ wsX7_thing := by decide +kernel
  have hl := lv_entry ([.ref mx, .int p1]) (n := 3) (Nat.le_of_ble_eq_true rfl)
  rw [lg_entry_eq]
  generalize (lg_sl ([.ref mx, .int p1]) ++ List.replicate (3 - (lg_sl ([.ref mx, .int p1])).length) Slot.unset).toArray = ls at hl ⊢
  have hl : lv_has ls 3 [(0, .ref mx), (1, .int p1)] := hl
  refine lv_aload_n hx hb dX7_thing_0 rfl (lv_at hl 0 rfl) ?_
  refine va_get (D := (dC, dI)) (ci := 7) (v := .ref dr) (C := RX7) (T := TX7) (N := 10) hx hb hts hiX7 hown hK hP 0 rfl rfl 0 (by decide) (hts (.fieldLink RX7 12 "MadeItSo" "drawing" "LMadeItSo$Drawing;") (by decide +kernel)) (fun _ h9 => h9) rfl dX7_thing_1 ?_
  have hPc := hP.sub (ws' := [(dr, .inr (2, [.ref dp, .ref dc, .int (nI n)]))]) [1] rfl
  have hDc := hD.sub (ws' := [(dr, .inr (2, [.ref dp, .ref dc, .int (nI n)]))]) [1] (by decide) rfl
  have hFc := va_free (wc := [(dr, .inr (2, [.ref dp, .ref dc, .int (nI n)]))]) hD hS hA [1] rfl
  refine va_calli (va_runV (As := []) (rest := []) ⟨hx, hb, hml, hown, hts⟩ (mz_d_grow_more l dC dI cI cJ cZ dr dp dc n s.heap.size (by first | assumption | omega)) (cwV 0 hts gX7_thing_X2_grow rfl rfl rfl (by decide +kernel) ⟨Nat.le_of_ble_eq_true rfl, Nat.le_of_ble_eq_true rfl⟩) ⟨fun a U g mk q => mz_blI q, va_recv hK hPc (ci := 2) (q0 := 0) rfl rfl, fun U hU hW => ⟨rfl, by rw [hU], by rw [hU]; exact hPc, va_K.moved hW.alike hK, hDc.weaken (fun _ _ _ _ => trivial), mz_nw hW hN⟩⟩ rfl rfl hl.1 rfl (lv_room (Nat.le_of_ble_eq_true rfl)) dX7_thing_4 ⟨Nat.le_of_ble_eq_true rfl, Nat.le_of_ble_eq_true rfl⟩) hS (fun q _ h => hFc q h) hFc (fun r_4 u t H1 locs ht hvm hw_4 hB hz1 hk1 hS => ?_)
  obtain ⟨hP1, hD1⟩ := hB
  rw [ht] at hP1
  obtain ⟨hP, hD⟩ := va_join (wr := [(mx, .inr (7, [.ref dr, .ref th, .ref bk, .ref wt, .ref tt, .ref lh, .ref la, .int sh, .long ab, .long be])), (bk, .inr (1, [.ref bp])), (bp, .inl (cI, 1024, .inl fb))]) (w1 := [(dr, .inr (2, [.ref dp, .ref dc, .int (nI ((n + 1)))]))]) hP hD [1] [0, 2, 3] rfl rfl (by decide) (by decide) hk1 hFc hP1 hD1
  generalize H1 = H at hP hS ⊢
  have hP : va_P (dC, dI) vwCl [(mx, .inr (7, [.ref dr, .ref th, .ref bk, .ref wt, .ref tt, .ref lh, .ref la, .int sh, .long ab, .long be])), (bk, .inr (1, [.ref bp])), (bp, .inl (cI, 1024, .inl fb)), (dr, .inr (2, [.ref dp, .ref dc, .int (nI ((n + 1)))]))] H := hP
  have hD : va_D A [(mx, .inr (7, [.ref dr, .ref th, .ref bk, .ref wt, .ref tt, .ref lh, .ref la, .int sh, .long ab, .long be])), (bk, .inr (1, [.ref bp])), (bp, .inl (cI, 1024, .inl fb)), (dr, .inr (2, [.ref dp, .ref dc, .int (nI ((n + 1)))]))] := hD
  obtain rfl : r_4 = (nI n) := hw_4
  refine lv_istore_n (lv' := [(2, .int (nI n)), (0, .ref mx), (1, .int p1)]) hx hb dX7_thing_7 rfl hl (by decide) rfl (fun ls hl => ?_)
  refine lv_iload_n hx hb dX7_thing_8 rfl (lv_at hl 0 rfl) ?_
  refine lv_iconst (v := (-1)) hx hb dX7_thing_9 (by decide +kernel) ?_
  refine lv_icmp_ne (tgt := 15) hx hb dX7_thing_10 (by decide) (fun _ => ?_) (fun c_10 => absurd c_10 (mz_ne1 (by omega)))
  refine lv_aload_n hx hb dX7_thing_15 rfl (lv_at hl 1 rfl) ?_
  refine va_get (D := (dC, dI)) (ci := 7) (v := .ref bk) (C := RX7) (T := TX7) (N := 10) hx hb hts hiX7 hown hK hP 0 rfl rfl 2 (by decide) (hts (.fieldLink RX7 22 "MadeItSo" "books" "LMadeItSo$Books;") (by decide +kernel)) (fun _ h9 => h9) rfl dX7_thing_16 ?_
  refine lv_iload_n hx hb dX7_thing_19 rfl (lv_at hl 0 rfl) ?_
  have hPc := hP.sub (ws' := [(bk, .inr (1, [.ref bp])), (bp, .inl (cI, 1024, .inl fb))]) [1, 2] rfl
  have hDc := hD.sub (ws' := [(bk, .inr (1, [.ref bp])), (bp, .inl (cI, 1024, .inl fb))]) [1, 2] (by decide) rfl
  have hFc := va_free (wc := [(bk, .inr (1, [.ref bp])), (bp, .inl (cI, 1024, .inl fb))]) hD hS hA [1, 2] rfl
  refine va_callv (va_runV (As := [.int (nI n)]) (rest := []) ⟨hx, hb, hml, hown, hts⟩ (mz_e_blank l dC dI cI cJ cZ bk bp fb n H.size (by first | assumption | omega)) (cwV 1 hts gX7_thing_X1_blank rfl rfl rfl (by decide +kernel) ⟨Nat.le_of_ble_eq_true rfl, Nat.le_of_ble_eq_true rfl⟩) ⟨fun a U g mk q => mz_blI q, va_recv hK hPc (ci := 1) (q0 := 0) rfl rfl, fun U hU hW => ⟨rfl, by rw [hU], by rw [hU]; exact hPc, va_K.moved hW.alike hK, hDc.weaken (fun _ _ _ _ => trivial), mz_nw hW hN⟩⟩ rfl rfl hl.1 rfl (lv_room (Nat.le_of_ble_eq_true rfl)) dX7_thing_20 ⟨Nat.le_of_ble_eq_true rfl, Nat.le_of_ble_eq_true rfl⟩) hS (fun q _ h => hFc q h) hFc (fun u t H1 locs ht hvm hw_20 hB hz1 hk1 hS => ?_)
  obtain ⟨gb_20, hx0_20, hP1, hD1⟩ := hB
  rw [ht] at hP1
  obtain ⟨hP, hD⟩ := va_join (wr := [(mx, .inr (7, [.ref dr, .ref th, .ref bk, .ref wt, .ref tt, .ref lh, .ref la, .int sh, .long ab, .long be])), (dr, .inr (2, [.ref dp, .ref dc, .int (nI ((n + 1)))]))]) (w1 := [(bk, .inr (1, [.ref bp])), (bp, .inl (cI, 1024, .inl gb_20))]) hP hD [1, 2] [0, 3] rfl rfl (by decide) (by decide) hk1 hFc hP1 hD1
  generalize H1 = H at hP hS ⊢
  have hP : va_P (dC, dI) vwCl [(mx, .inr (7, [.ref dr, .ref th, .ref bk, .ref wt, .ref tt, .ref lh, .ref la, .int sh, .long ab, .long be])), (dr, .inr (2, [.ref dp, .ref dc, .int (nI ((n + 1)))])), (bk, .inr (1, [.ref bp])), (bp, .inl (cI, 1024, .inl gb_20))] H := hP
  have hD : va_D A [(mx, .inr (7, [.ref dr, .ref th, .ref bk, .ref wt, .ref tt, .ref lh, .ref la, .int sh, .long ab, .long be])), (dr, .inr (2, [.ref dp, .ref dc, .int (nI ((n + 1)))])), (bk, .inr (1, [.ref bp])), (bp, .inl (cI, 1024, .inl gb_20))] := hD
  refine lv_iload_n hx hb dX7_thing_23 rfl (lv_at hl 2 rfl) ?_
  refine lv_if_eq (tgt := 40) hx hb dX7_thing_24 (by decide) (fun c_24 => ?_) (fun c_24 => ?_)
  · skip
    refine lv_iload_n hx hb dX7_thing_40 rfl (lv_at hl 0 rfl) ?_
    have hP9 := hP.sub (ws' := [(mx, .inr (7, [.ref dr, .ref th, .ref bk, .ref wt, .ref tt, .ref lh, .ref la, .int sh, .long ab, .long be])), (dr, .inr (2, [.ref dp, .ref dc, .int (nI ((n + 1)))])), (bk, .inr (1, [.ref bp])), (bp, .inl (cI, 1024, .inl gb_20))]) [0, 1, 2, 3] rfl
    have hD9 := hD.sub (ws' := [(mx, .inr (7, [.ref dr, .ref th, .ref bk, .ref wt, .ref tt, .ref lh, .ref la, .int sh, .long ab, .long be])), (dr, .inr (2, [.ref dp, .ref dc, .int (nI ((n + 1)))])), (bk, .inr (1, [.ref bp])), (bp, .inl (cI, 1024, .inl gb_20))]) [0, 1, 2, 3] (by decide) rfl
    refine W.widen (k := 0) (n := 0) (Nat.le_of_ble_eq_true rfl) (Nat.le_of_ble_eq_true rfl) ?_
    exact W.iret (v := (nI n)) hx hb hr (fun t ht hW => ⟨⟨(nI n), (), rfl, rfl, sh, gb_20, (fun h => absurd c_24 h), (fun _ => rfl), hx0_20, by rw [ht]; exact hP9, hD9⟩, hS.F ht⟩) hS.2.2 dX7_thing_41
  · skip
    refine lv_aload_n hx hb dX7_thing_27 rfl (lv_at hl 1 rfl) ?_
    refine lv_dup hx hb dX7_thing_28 rfl ?_
    refine va_get (D := (dC, dI)) (ci := 7) (v := .int sh) (C := RX7) (T := TX7) (N := 10) hx hb hts hiX7 hown hK hP 0 rfl rfl 7 (by decide) (hts (.fieldLink RX7 54 "MadeItSo" "seenHeap" "I") (by decide +kernel)) (fun _ h9 => h9) rfl dX7_thing_29 ?_
    refine lv_iload_n hx hb dX7_thing_32 rfl (lv_at hl 0 rfl) ?_
    have hPc := hP.sub (ws' := []) [] rfl
    refine va_calli (va_runS (As := [.int (nI n)]) (rest := [.int sh, .ref mx]) ⟨hx, hb, hml, hown, hts⟩ (mz_g_bit l dC dI cI cJ cZ (nI n) H ) (va_cwS 1 hts gX7_thing_X7_bit rfl rfl rfl (by decide +kernel) ⟨Nat.le_of_ble_eq_true rfl, Nat.le_of_ble_eq_true rfl⟩) ⟨fun a U g mk q => mz_blP q, fun U hU hW => ⟨rfl, hU, hPc, va_K.moved hW.alike hK, mz_nw hW hN⟩⟩ rfl rfl hl.1 rfl (lv_room (Nat.le_of_ble_eq_true rfl)) dX7_thing_33 ⟨Nat.le_of_ble_eq_true rfl, Nat.le_of_ble_eq_true rfl⟩) hS (fun q _ h => h.elim) (fun q h => h.elim) (fun r_33 u t H1 locs ht hvm hw_33 hB hz1 hk1 hS => ?_)
    have hE : H = H1 := hB.symm.trans ht
    subst hE
    obtain rfl : r_33 = (1 <<< ((nI n) &&& 31)) := hw_33
    refine lv_ior hx hb dX7_thing_36 ?_
    refine va_put (D := (dC, dI)) (ci := 7) (v := .int (sh ||| (1 <<< ((nI n) &&& 31)))) (ty := .int) (C := RX7) (T := TX7) (N := 10) hx hb hts hiX7 tyX7 tyX7_ok nmX7 hown hK hP hD hS 0 rfl rfl 7 (by decide) (hts (.fieldLink RX7 54 "MadeItSo" "seenHeap" "I") (by decide +kernel)) (fun _ h9 => h9) rfl (by decide +kernel) rfl rfl (Nat.le_of_ble_eq_true rfl) dX7_thing_37 (fun H locs hP hD hS => ?_)
    have hP : va_P (dC, dI) vwCl [(mx, .inr (7, [.ref dr, .ref th, .ref bk, .ref wt, .ref tt, .ref lh, .ref la, .int (sh ||| (1 <<< ((nI n) &&& 31))), .long ab, .long be])), (dr, .inr (2, [.ref dp, .ref dc, .int (nI ((n + 1)))])), (bk, .inr (1, [.ref bp])), (bp, .inl (cI, 1024, .inl gb_20))] H := hP
    have hD : va_D A [(mx, .inr (7, [.ref dr, .ref th, .ref bk, .ref wt, .ref tt, .ref lh, .ref la, .int (sh ||| (1 <<< ((nI n) &&& 31))), .long ab, .long be])), (dr, .inr (2, [.ref dp, .ref dc, .int (nI ((n + 1)))])), (bk, .inr (1, [.ref bp])), (bp, .inl (cI, 1024, .inl gb_20))] := hD
    refine lv_iload_n hx hb dX7_thing_40 rfl (lv_at hl 0 rfl) ?_
    have hP9 := hP.sub (ws' := [(mx, .inr (7, [.ref dr, .ref th, .ref bk, .ref wt, .ref tt, .ref lh, .ref la, .int (sh ||| (1 <<< ((nI n) &&& 31))), .long ab, .long be])), (dr, .inr (2, [.ref dp, .ref dc, .int (nI ((n + 1)))])), (bk, .inr (1, [.ref bp])), (bp, .inl (cI, 1024, .inl gb_20))]) [0, 1, 2, 3] rfl
    have hD9 := hD.sub (ws' := [(mx, .inr (7, [.ref dr, .ref th, .ref bk, .ref wt, .ref tt, .ref lh, .ref la, .int (sh ||| (1 <<< ((nI n) &&& 31))), .long ab, .long be])), (dr, .inr (2, [.ref dp, .ref dc, .int (nI ((n + 1)))])), (bk, .inr (1, [.ref bp])), (bp, .inl (cI, 1024, .inl gb_20))]) [0, 1, 2, 3] (by decide) rfl
    refine W.widen (k := 0) (n := 0) (Nat.le_of_ble_eq_true rfl) (Nat.le_of_ble_eq_true rfl) ?_
    exact W.iret (v := (nI n)) hx hb hr (fun t ht hW => ⟨⟨(nI n), (), rfl, rfl, (sh ||| (1 <<< ((nI n) &&& 31))), gb_20, (fun _ => rfl), (fun h => absurd h c_24), hx0_20, by rw [ht]; exact hP9, hD9⟩, hS.F ht⟩) hS.2.2 dX7_thing_41
set_option maxHeartbeats 1000000 in
set_option maxRecDepth 100000 in
theorem mz_f_m_bits (l : Launch) (dC : Nat → ClassId) (dI : Nat → Nat → Nat) (cI cJ cZ : ClassId) (p0 : Int32) (Hq : Heap)  : Met l yX8_bits wsX8_bits ({ frames := 0, cells := 0, slots := 0, locals := 0 }) (va_Pc [.int p0] (fun U => U.heap = Hq ∧ va_P (dC, dI) vwCl [] Hq ∧ va_K (dC, dI) vwCl [(cI, FieldType.int), (cJ, FieldType.long), (cZ, FieldType.boolean)] U ∧ mz_N U)) (va_Qi (fun (r : Int32) (_ : Unit) => r = (nI (mz_pc p0 8))) (fun _ t => t.heap = Hq) (fun _ : Nat => False)) 0 0 (fun _ : Nat => False) := by
  refine Met.ofW (cc := cX8_bits) (maxL := 3) (ret := (some .int)) (by decide) rfl ?_
  intro p e s m args below meth c s₁ B hml hv
  obtain ⟨rfl, hH, hP, hK, hN⟩ := hv
  subst hH
  have hx := B.exec
  have hb := B.bytes
  have hr := B.returns
  have hts := atoms_spec (ws := wsX8_bits) B.pre
  have hown : s.vm.findClass RX8 = some m.cls := findClass_of_methodNamed B.named
  have hlocks := B.notSynchronized
  have hS : va_S (fun _ : Nat => False) s.heap s.heap [] := va_S.rf
  have hl := lv_entry ([.int p0]) (n := 3) (Nat.le_of_ble_eq_true rfl)
  rw [lg_entry_eq]
  generalize (lg_sl ([.int p0]) ++ List.replicate (3 - (lg_sl ([.int p0])).length) Slot.unset).toArray = ls at hl ⊢
  have hl : lv_has ls 3 [(0, .int p0)] := hl
  refine lv_iconst (v := 0) hx hb dX8_bits_0 (by decide +kernel) ?_
  refine lv_istore_n (lv' := [(1, .int 0), (0, .int p0)]) hx hb dX8_bits_1 rfl hl (by decide) rfl (fun ls hl => ?_)
  refine lv_iconst (v := 0) hx hb dX8_bits_2 (by decide +kernel) ?_
  refine lv_istore_n (lv' := [(2, .int 0), (1, .int 0), (0, .int p0)]) hx hb dX8_bits_3 rfl hl (by decide) rfl (fun ls hl => ?_)
  refine mz_loopU (fun k H locs ls => ∃ (i_4 : Nat), ∃ (x1_4 : Int32), i_4 ≤ 8 ∧ (x1_4 = nI (mz_pc p0 i_4)) ∧ H = s.heap ∧ va_S (fun _ : Nat => False) s.heap H locs ∧ lv_has ls 3 [(2, .int (nI i_4)), (1, .int x1_4), (0, .int p0)] ∧ k = 8 - i_4) ?_ _ _ _ _ ⟨0, 0, by omega, rfl, rfl, hS, lv_sub hl [0, 1, 2] rfl, rfl⟩
  intro k_4 H locs ls hI_4 ih_4
  obtain ⟨i_4, x1_4, hi_4, hr_4, hH_4, hS, hl, hk_4⟩ := hI_4
  subst hH_4
  refine lv_iload_n hx hb dX8_bits_4 rfl (lv_at hl 0 rfl) ?_
  refine lv_bipush (v := 8) hx hb dX8_bits_5 (by decide +kernel) ?_
  refine lv_icmp_ge (tgt := 24) hx hb dX8_bits_7 (by decide) (fun c_7 => ?_) (fun c_7 => ?_)
  · skip
    have d_7 : 8 ≤ i_4 := (nI_leI (a := 8) (b := i_4) (by omega) (by omega)).mp c_7
    refine lv_iload_n hx hb dX8_bits_24 rfl (lv_at hl 1 rfl) ?_
    refine W.widen (k := 0) (n := 0) (Nat.le_of_ble_eq_true rfl) (Nat.le_of_ble_eq_true rfl) ?_
    exact W.iret (v := x1_4) hx hb hr (fun t ht hW => ⟨⟨x1_4, (), rfl, (by obtain rfl : i_4 = 8 := (by omega); exact hr_4), ht⟩, hS.F ht⟩) hS.2.2 dX8_bits_25
  · skip
    have d_7 : ¬ 8 ≤ i_4 := fun h => c_7 ((nI_leI (a := 8) (b := i_4) (by omega) (by omega)).mpr h)
    refine lv_iload_n hx hb dX8_bits_10 rfl (lv_at hl 1 rfl) ?_
    refine lv_iload_n hx hb dX8_bits_11 rfl (lv_at hl 2 rfl) ?_
    refine lv_iload_n hx hb dX8_bits_12 rfl (lv_at hl 0 rfl) ?_
    refine lv_ishr hx hb dX8_bits_13 ?_
    refine lv_iconst (v := 1) hx hb dX8_bits_14 (by decide +kernel) ?_
    refine lv_iand hx hb dX8_bits_15 ?_
    refine lv_iadd hx hb dX8_bits_16 ?_
    refine lv_istore_n (lv' := [(1, .int (x1_4 + ((p0 >>> ((nI i_4) &&& 31)) &&& 1))), (2, .int (nI i_4)), (0, .int p0)]) hx hb dX8_bits_17 rfl hl (by decide) rfl (fun ls hl => ?_)
    refine lv_iinc (v := (nI (i_4 + 1))) (lv' := [(2, .int (nI (i_4 + 1))), (1, .int (x1_4 + ((p0 >>> ((nI i_4) &&& 31)) &&& 1))), (0, .int p0)]) hx hb dX8_bits_18 hl (k := 1) rfl (nI_1 _) (by decide) rfl (fun ls hl => ?_)
    refine lv_goto (tgt := 4) hx hb dX8_bits_21 (by decide) ?_
    exact ih_4 _ (by omega) _ _ _ ⟨(i_4 + 1), (x1_4 + ((p0 >>> ((nI i_4) &&& 31)) &&& 1)), by omega, (mz_pc_s (by omega) hr_4), rfl, hS, lv_sub hl [0, 1, 2] rfl, rfl⟩
set_option maxHeartbeats 1000000 in
set_option maxRecDepth 100000 in
theorem mz_f_m_isRow_in (l : Launch) (dC : Nat → ClassId) (dI : Nat → Nat → Nat) (cI cJ cZ : ClassId) (mo : Nat) (m1 : Nat) (m2 : Nat) (m3 : Nat) (m6 : Nat) (m7 : Nat) (m8 : Nat) (m9 : Nat) (m10 : Nat) (m11 : Nat) (m12 : Nat) (m13 : Nat) (m14 : Nat) (m15 : Nat) (m16 : Nat) (n : Nat) (ka : Int64) (kb : Int64) (fp : Nat → Int32) (i : Nat) (j : Nat) (Hq : Heap) (hn : n ≤ 8) (hi : i < n) (hjr : j < 2 ^ (mz_pc (fp i) 8)) (hjq : j < 128) : Met l yX8_isRow wsX8_isRow ({ frames := 1, cells := 0, slots := 0, locals := 22 }) (va_Pc [.ref mo, .int (nI i), .int (nI j)] (fun U => U.heap = Hq ∧ va_P (dC, dI) vwCl [(mo, .inr (8, [.int (nI n), .ref m1, .ref m2, .ref m3, .long ka, .long kb, .ref m6, .ref m7, .ref m8, .ref m9, .ref m10, .ref m11, .ref m12, .ref m13, .ref m14, .ref m15, .ref m16])), (m2, .inl (cI, 8, .inl fp))] Hq ∧ va_K (dC, dI) vwCl [(cI, FieldType.int), (cJ, FieldType.long), (cZ, FieldType.boolean)] U ∧ mz_N U)) (va_Qi (fun (r : Int32) (_ : Unit) => r = 1) (fun _ t => t.heap = Hq) (fun _ : Nat => False)) 0 0 (fun _ : Nat => False) := by
  refine Met.ofW (cc := cX8_isRow) (maxL := 3) (ret := (some .boolean)) (by decide) rfl ?_
  intro p e s m args below meth c s₁ B hml hv
  obtain ⟨rfl, hH, hP, hK, hN⟩ := hv
  subst hH
  have hx := B.exec
  have hb := B.bytes
  have hr := B.returns
  have hts := atoms_spec (ws := wsX8_isRow) B.pre
  have hown : s.vm.findClass RX8 = some m.cls := findClass_of_methodNamed B.named
  have hlocks := B.notSynchronized
  have hS : va_S (fun _ : Nat => False) s.heap s.heap [] := va_S.rf
  have hiX8 : ∀ w ∈ u_ws RX8 TX8 17, w ∈ wsX8_isRow := by decide +kernel
  have hl := lv_entry ([.ref mo, .int (nI i), .int (nI j)]) (n := 3) (Nat.le_of_ble_eq_true rfl)
  rw [lg_entry_eq]
  generalize (lg_sl ([.ref mo, .int (nI i), .int (nI j)]) ++ List.replicate (3 - (lg_sl ([.ref mo, .int (nI i), .int (nI j)])).length) Slot.unset).toArray = ls at hl ⊢
  have hl : lv_has ls 3 [(0, .ref mo), (1, .int (nI i)), (2, .int (nI j))] := hl
  have hpc_ := mz_pc_le (fp i) 8
  refine lv_aload_n hx hb dX8_isRow_0 rfl (lv_at hl 0 rfl) ?_
  refine lv_iload_n hx hb dX8_isRow_1 rfl (lv_at hl 1 rfl) ?_
  have hPc := hP.sub (ws' := [(mo, .inr (8, [.int (nI n), .ref m1, .ref m2, .ref m3, .long ka, .long kb, .ref m6, .ref m7, .ref m8, .ref m9, .ref m10, .ref m11, .ref m12, .ref m13, .ref m14, .ref m15, .ref m16]))]) [0] rfl
  refine va_calli (va_runV (As := [.int (nI i)]) (rest := []) ⟨hx, hb, hml, hown, hts⟩ (mz_m_isThing_in l dC dI cI cJ cZ mo m1 m2 m3 m6 m7 m8 m9 m10 m11 m12 m13 m14 m15 m16 n ka kb i s.heap (by first | assumption | omega) (by first | assumption | omega)) (cwV 1 hts gX8_isRow_X8_isThing rfl rfl rfl (by decide +kernel) ⟨Nat.le_of_ble_eq_true rfl, Nat.le_of_ble_eq_true rfl⟩) ⟨fun a U g mk q => mz_blP q, va_recv hK hPc (ci := 8) (q0 := 0) rfl rfl, fun U hU hW => ⟨rfl, hU, hPc, va_K.moved hW.alike hK, mz_nw hW hN⟩⟩ rfl rfl hl.1 rfl (lv_room (Nat.le_of_ble_eq_true rfl)) dX8_isRow_2 ⟨Nat.le_of_ble_eq_true rfl, Nat.le_of_ble_eq_true rfl⟩) hS (fun q _ h => h.elim) (fun q h => h.elim) (fun r_2 u t H1 locs ht hvm hw_2 hB hz1 hk1 hS => ?_)
  have hE : s.heap = H1 := hB.symm.trans ht
  subst hE
  obtain rfl : r_2 = 1 := hw_2
  refine lv_if_eq (tgt := 31) hx hb dX8_isRow_5 (by decide) (fun c_5 => absurd c_5 (by decide +kernel)) (fun _ => ?_)
  refine lv_iload_n hx hb dX8_isRow_8 rfl (lv_at hl 2 rfl) ?_
  refine lv_if_lt (tgt := 31) hx hb dX8_isRow_9 (by decide) (fun c_9 => absurd c_9 (nI_pos (by omega))) (fun _ => ?_)
  refine lv_iload_n hx hb dX8_isRow_12 rfl (lv_at hl 2 rfl) ?_
  refine lv_iconst (v := 1) hx hb dX8_isRow_13 (by decide +kernel) ?_
  refine lv_aload_n hx hb dX8_isRow_14 rfl (lv_at hl 0 rfl) ?_
  refine va_get (D := (dC, dI)) (ci := 8) (v := .ref m2) (C := RX8) (T := TX8) (N := 17) hx hb hts hiX8 hown hK hP 0 rfl rfl 2 (by decide) (hts (.fieldLink RX8 13 "MadeItSoModel" "parents" "[I") (by decide +kernel)) (fun _ h9 => h9) rfl dX8_isRow_15 ?_
  refine lv_iload_n hx hb dX8_isRow_18 rfl (lv_at hl 1 rfl) ?_
  refine va_iald hx hb hK hP 1 0 rfl rfl (vp_in_nI (by omega) (by omega)) dX8_isRow_19 ?_
  refine mz_ti (y := (fp i)) (by rw [mz_cl (by omega)]) ?_
  have hPc := hP.sub (ws' := []) [] rfl
  refine va_calli (va_runS (As := [.int (fp i)]) (rest := [.int 1, .int (nI j)]) ⟨hx, hb, hml, hown, hts⟩ (mz_f_m_bits l dC dI cI cJ cZ (fp i) s.heap ) (va_cwS 1 hts gX8_isRow_X8_bits rfl rfl rfl (by decide +kernel) ⟨Nat.le_of_ble_eq_true rfl, Nat.le_of_ble_eq_true rfl⟩) ⟨fun a U g mk q => mz_blP q, fun U hU hW => ⟨rfl, hU, hPc, va_K.moved hW.alike hK, mz_nw hW hN⟩⟩ rfl rfl hl.1 rfl (lv_room (Nat.le_of_ble_eq_true rfl)) dX8_isRow_20 ⟨Nat.le_of_ble_eq_true rfl, Nat.le_of_ble_eq_true rfl⟩) hS (fun q _ h => h.elim) (fun q h => h.elim) (fun r_20 u t H1 locs ht hvm hw_20 hB hz1 hk1 hS => ?_)
  have hE : s.heap = H1 := hB.symm.trans ht
  subst hE
  obtain rfl : r_20 = (nI (mz_pc (fp i) 8)) := hw_20
  refine lv_ishl hx hb dX8_isRow_23 ?_
  refine lv_icmp_ge (tgt := 31) hx hb dX8_isRow_24 (by decide) (fun c_24 => absurd c_24 (mz_ltS hjr hpc_)) (fun _ => ?_)
  refine lv_iconst (v := 1) hx hb dX8_isRow_27 (by decide +kernel) ?_
  refine lv_goto (tgt := 32) hx hb dX8_isRow_28 (by decide) ?_
  refine W.widen (k := 0) (n := 0) (Nat.le_of_ble_eq_true rfl) (Nat.le_of_ble_eq_true rfl) ?_
  exact W.zret (v := 1) hx hb hr (mz_nz (by decide +kernel)) (fun t ht hW => ⟨⟨1, (), rfl, rfl, ht⟩, hS.F ht⟩) hS.2.2 dX8_isRow_32
set_option maxHeartbeats 1000000 in
set_option maxRecDepth 100000 in
theorem mz_f_m_isRow_out (l : Launch) (dC : Nat → ClassId) (dI : Nat → Nat → Nat) (cI cJ cZ : ClassId) (mo : Nat) (m1 : Nat) (m2 : Nat) (m3 : Nat) (m6 : Nat) (m7 : Nat) (m8 : Nat) (m9 : Nat) (m10 : Nat) (m11 : Nat) (m12 : Nat) (m13 : Nat) (m14 : Nat) (m15 : Nat) (m16 : Nat) (n : Nat) (ka : Int64) (kb : Int64) (fp : Nat → Int32) (p0 : Int32) (p1 : Int32) (Hq : Heap) (hn : n ≤ 8) (houtr : ¬ ∃ i j : Nat, i < n ∧ j < 2 ^ (mz_pc (fp i) 8) ∧ p0 = nI i ∧ p1 = nI j) : Met l yX8_isRow wsX8_isRow ({ frames := 1, cells := 0, slots := 0, locals := 22 }) (va_Pc [.ref mo, .int p0, .int p1] (fun U => U.heap = Hq ∧ va_P (dC, dI) vwCl [(mo, .inr (8, [.int (nI n), .ref m1, .ref m2, .ref m3, .long ka, .long kb, .ref m6, .ref m7, .ref m8, .ref m9, .ref m10, .ref m11, .ref m12, .ref m13, .ref m14, .ref m15, .ref m16])), (m2, .inl (cI, 8, .inl fp))] Hq ∧ va_K (dC, dI) vwCl [(cI, FieldType.int), (cJ, FieldType.long), (cZ, FieldType.boolean)] U ∧ mz_N U)) (va_Qi (fun (r : Int32) (_ : Unit) => r = 0) (fun _ t => t.heap = Hq) (fun _ : Nat => False)) 0 0 (fun _ : Nat => False) := by
  refine Met.ofW (cc := cX8_isRow) (maxL := 3) (ret := (some .boolean)) (by decide) rfl ?_
  intro p e s m args below meth c s₁ B hml hv
  obtain ⟨rfl, hH, hP, hK, hN⟩ := hv
  subst hH
  have hx := B.exec
  have hb := B.bytes
  have hr := B.returns
  have hts := atoms_spec (ws := wsX8_isRow) B.pre
  have hown : s.vm.findClass RX8 = some m.cls := findClass_of_methodNamed B.named
  have hlocks := B.notSynchronized
  have hS : va_S (fun _ : Nat => False) s.heap s.heap [] := va_S.rf
  have hiX8 : ∀ w ∈ u_ws RX8 TX8 17, w ∈ wsX8_isRow := by decide +kernel
  have hl := lv_entry ([.ref mo, .int p0, .int p1]) (n := 3) (Nat.le_of_ble_eq_true rfl)
  rw [lg_entry_eq]
  generalize (lg_sl ([.ref mo, .int p0, .int p1]) ++ List.replicate (3 - (lg_sl ([.ref mo, .int p0, .int p1])).length) Slot.unset).toArray = ls at hl ⊢
  have hl : lv_has ls 3 [(0, .ref mo), (1, .int p0), (2, .int p1)] := hl
  refine lv_aload_n hx hb dX8_isRow_0 rfl (lv_at hl 0 rfl) ?_
  refine lv_iload_n hx hb dX8_isRow_1 rfl (lv_at hl 1 rfl) ?_
  have hPc := hP.sub (ws' := [(mo, .inr (8, [.int (nI n), .ref m1, .ref m2, .ref m3, .long ka, .long kb, .ref m6, .ref m7, .ref m8, .ref m9, .ref m10, .ref m11, .ref m12, .ref m13, .ref m14, .ref m15, .ref m16]))]) [0] rfl
  refine va_calli (va_runV (As := [.int p0]) (rest := []) ⟨hx, hb, hml, hown, hts⟩ (mz_m_isThing l dC dI cI cJ cZ mo m1 m2 m3 m6 m7 m8 m9 m10 m11 m12 m13 m14 m15 m16 n ka kb p0 s.heap (by first | assumption | omega)) (cwV 1 hts gX8_isRow_X8_isThing rfl rfl rfl (by decide +kernel) ⟨Nat.le_of_ble_eq_true rfl, Nat.le_of_ble_eq_true rfl⟩) ⟨fun a U g mk q => mz_blP q, va_recv hK hPc (ci := 8) (q0 := 0) rfl rfl, fun U hU hW => ⟨rfl, hU, hPc, va_K.moved hW.alike hK, mz_nw hW hN⟩⟩ rfl rfl hl.1 rfl (lv_room (Nat.le_of_ble_eq_true rfl)) dX8_isRow_2 ⟨Nat.le_of_ble_eq_true rfl, Nat.le_of_ble_eq_true rfl⟩) hS (fun q _ h => h.elim) (fun q h => h.elim) (fun r_2 u t H1 locs ht hvm hw_2 hB hz1 hk1 hS => ?_)
  have hE : s.heap = H1 := hB.symm.trans ht
  subst hE
  rcases (show (r_2 = 1 ∧ ∃ j : Nat, j < n ∧ p0 = nI j) ∨ r_2 = 0 from hw_2) with ⟨rfl, j_2, hj_2, he_2⟩ | rfl
  · skip
    subst he_2
    refine lv_if_eq (tgt := 31) hx hb dX8_isRow_5 (by decide) (fun c_5 => absurd c_5 (by decide +kernel)) (fun _ => ?_)
    refine lv_iload_n hx hb dX8_isRow_8 rfl (lv_at hl 2 rfl) ?_
    refine lv_if_lt (tgt := 31) hx hb dX8_isRow_9 (by decide) (fun c_9 => ?_) (fun c_9 => ?_)
    · skip
      refine lv_iconst (v := 0) hx hb dX8_isRow_31 (by decide +kernel) ?_
      refine W.widen (k := 0) (n := 0) (Nat.le_of_ble_eq_true rfl) (Nat.le_of_ble_eq_true rfl) ?_
      exact W.zret (v := 0) hx hb hr (mz_nz (by decide +kernel)) (fun t ht hW => ⟨⟨0, (), rfl, rfl, ht⟩, hS.F ht⟩) hS.2.2 dX8_isRow_32
    · skip
      refine lv_iload_n hx hb dX8_isRow_12 rfl (lv_at hl 2 rfl) ?_
      refine lv_iconst (v := 1) hx hb dX8_isRow_13 (by decide +kernel) ?_
      refine lv_aload_n hx hb dX8_isRow_14 rfl (lv_at hl 0 rfl) ?_
      refine va_get (D := (dC, dI)) (ci := 8) (v := .ref m2) (C := RX8) (T := TX8) (N := 17) hx hb hts hiX8 hown hK hP 0 rfl rfl 2 (by decide) (hts (.fieldLink RX8 13 "MadeItSoModel" "parents" "[I") (by decide +kernel)) (fun _ h9 => h9) rfl dX8_isRow_15 ?_
      refine lv_iload_n hx hb dX8_isRow_18 rfl (lv_at hl 1 rfl) ?_
      refine va_iald hx hb hK hP 1 0 rfl rfl (vp_in_nI (by omega) (by omega)) dX8_isRow_19 ?_
      refine mz_ti (y := (fp j_2)) (by rw [mz_cl (by omega)]) ?_
      have hPc := hP.sub (ws' := []) [] rfl
      refine va_calli (va_runS (As := [.int (fp j_2)]) (rest := [.int 1, .int p1]) ⟨hx, hb, hml, hown, hts⟩ (mz_f_m_bits l dC dI cI cJ cZ (fp j_2) s.heap ) (va_cwS 1 hts gX8_isRow_X8_bits rfl rfl rfl (by decide +kernel) ⟨Nat.le_of_ble_eq_true rfl, Nat.le_of_ble_eq_true rfl⟩) ⟨fun a U g mk q => mz_blP q, fun U hU hW => ⟨rfl, hU, hPc, va_K.moved hW.alike hK, mz_nw hW hN⟩⟩ rfl rfl hl.1 rfl (lv_room (Nat.le_of_ble_eq_true rfl)) dX8_isRow_20 ⟨Nat.le_of_ble_eq_true rfl, Nat.le_of_ble_eq_true rfl⟩) hS (fun q _ h => h.elim) (fun q h => h.elim) (fun r_20 u t H1 locs ht hvm hw_20 hB hz1 hk1 hS => ?_)
      have hE : s.heap = H1 := hB.symm.trans ht
      subst hE
      obtain rfl : r_20 = (nI (mz_pc (fp j_2) 8)) := hw_20
      refine lv_ishl hx hb dX8_isRow_23 ?_
      refine lv_icmp_ge (tgt := 31) hx hb dX8_isRow_24 (by decide) (fun c_24 => ?_) (fun c_24 => ?_)
      · skip
        refine lv_iconst (v := 0) hx hb dX8_isRow_31 (by decide +kernel) ?_
        refine W.widen (k := 0) (n := 0) (Nat.le_of_ble_eq_true rfl) (Nat.le_of_ble_eq_true rfl) ?_
        exact W.zret (v := 0) hx hb hr (mz_nz (by decide +kernel)) (fun t ht hW => ⟨⟨0, (), rfl, rfl, ht⟩, hS.F ht⟩) hS.2.2 dX8_isRow_32
      · skip
        exact absurd (by obtain ⟨q_, hq_, eq_⟩ := mz_outS (mz_pc_le (fp j_2) 8) c_9 c_24; exact ⟨j_2, q_, hj_2, hq_, rfl, eq_⟩) houtr
  · skip
    refine lv_if_eq (tgt := 31) hx hb dX8_isRow_5 (by decide) (fun _ => ?_) (fun c_5 => absurd (by decide +kernel) c_5)
    refine lv_iconst (v := 0) hx hb dX8_isRow_31 (by decide +kernel) ?_
    refine W.widen (k := 0) (n := 0) (Nat.le_of_ble_eq_true rfl) (Nat.le_of_ble_eq_true rfl) ?_
    exact W.zret (v := 0) hx hb hr (mz_nz (by decide +kernel)) (fun t ht hW => ⟨⟨0, (), rfl, rfl, ht⟩, hS.F ht⟩) hS.2.2 dX8_isRow_32
set_option maxHeartbeats 1000000 in
set_option maxRecDepth 100000 in
theorem mz_f_m_book (l : Launch) (dC : Nat → ClassId) (dI : Nat → Nat → Nat) (cI cJ cZ : ClassId) (mo : Nat) (m1 : Nat) (m2 : Nat) (m3 : Nat) (m6 : Nat) (m7 : Nat) (m8 : Nat) (m9 : Nat) (m10 : Nat) (m11 : Nat) (m12 : Nat) (m13 : Nat) (m14 : Nat) (m15 : Nat) (m16 : Nat) (n : Nat) (ka : Int64) (kb : Int64) (fp : Nat → Int32) (fb : Nat → Int32) (i : Nat) (j : Nat) (p3 : Int32) (sz : Nat) (hn : n ≤ 8) (hi : i < n) (hjr : j < 2 ^ (mz_pc (fp i) 8)) (hjq : j < 128) : Met l yX8_book wsX8_book ({ frames := 2, cells := 0, slots := 0, locals := 44 }) (va_Pc [.ref mo, .int (nI i), .int (nI j), .int p3] (fun U => U.heap.size = sz ∧ va_P (dC, dI) vwCl [(mo, .inr (8, [.int (nI n), .ref m1, .ref m2, .ref m3, .long ka, .long kb, .ref m6, .ref m7, .ref m8, .ref m9, .ref m10, .ref m11, .ref m12, .ref m13, .ref m14, .ref m15, .ref m16])), (m2, .inl (cI, 8, .inl fp)), (m3, .inl (cI, 1024, .inl fb))] U.heap ∧ va_K (dC, dI) vwCl [(cI, FieldType.int), (cJ, FieldType.long), (cZ, FieldType.boolean)] U ∧ va_D (fun _ => True) [(mo, .inr (8, [.int (nI n), .ref m1, .ref m2, .ref m3, .long ka, .long kb, .ref m6, .ref m7, .ref m8, .ref m9, .ref m10, .ref m11, .ref m12, .ref m13, .ref m14, .ref m15, .ref m16])), (m2, .inl (cI, 8, .inl fp)), (m3, .inl (cI, 1024, .inl fb))] ∧ mz_N U)) (va_Qi (fun (r : Int32) (_ : Unit) => (r = 1 ∧ mz_okp p3) ∨ (r = 0 ∧ ¬ mz_okp p3)) (fun _ t => ∃ (gb : Nat → Int32), (mz_okp p3 → gb = upd fb (128 * i + j) p3) ∧ (¬ mz_okp p3 → gb = fb) ∧ va_P (dC, dI) vwCl [(mo, .inr (8, [.int (nI n), .ref m1, .ref m2, .ref m3, .long ka, .long kb, .ref m6, .ref m7, .ref m8, .ref m9, .ref m10, .ref m11, .ref m12, .ref m13, .ref m14, .ref m15, .ref m16])), (m2, .inl (cI, 8, .inl fp)), (m3, .inl (cI, 1024, .inl gb))] t.heap ∧ va_D (va_A [(mo, .inr (8, [.int (nI n), .ref m1, .ref m2, .ref m3, .long ka, .long kb, .ref m6, .ref m7, .ref m8, .ref m9, .ref m10, .ref m11, .ref m12, .ref m13, .ref m14, .ref m15, .ref m16])), (m2, .inl (cI, 8, .inl fp)), (m3, .inl (cI, 1024, .inl fb))] sz) [(mo, .inr (8, [.int (nI n), .ref m1, .ref m2, .ref m3, .long ka, .long kb, .ref m6, .ref m7, .ref m8, .ref m9, .ref m10, .ref m11, .ref m12, .ref m13, .ref m14, .ref m15, .ref m16])), (m2, .inl (cI, 8, .inl fp)), (m3, .inl (cI, 1024, .inl gb))]) (va_A [(mo, .inr (8, [.int (nI n), .ref m1, .ref m2, .ref m3, .long ka, .long kb, .ref m6, .ref m7, .ref m8, .ref m9, .ref m10, .ref m11, .ref m12, .ref m13, .ref m14, .ref m15, .ref m16])), (m2, .inl (cI, 8, .inl fp)), (m3, .inl (cI, 1024, .inl fb))] sz)) 0 0 (va_A [(mo, .inr (8, [.int (nI n), .ref m1, .ref m2, .ref m3, .long ka, .long kb, .ref m6, .ref m7, .ref m8, .ref m9, .ref m10, .ref m11, .ref m12, .ref m13, .ref m14, .ref m15, .ref m16])), (m2, .inl (cI, 8, .inl fp)), (m3, .inl (cI, 1024, .inl fb))] sz) := by
  refine Met.ofW (cc := cX8_book) (maxL := 4) (ret := (some .boolean)) (by decide) rfl ?_
  intro p e s m args below meth c s₁ B hml hv
  obtain ⟨rfl, hsz, hP, hK, hD0, hN⟩ := hv
  subst hsz
  have hx := B.exec
  have hb := B.bytes
  have hr := B.returns
  have hts := atoms_spec (ws := wsX8_book) B.pre
  have hown : s.vm.findClass RX8 = some m.cls := findClass_of_methodNamed B.named
  have hlocks := B.notSynchronized
  have hD := hD0.self (sz := s.heap.size)
  generalize hAe : va_A [(mo, .inr (8, [.int (nI n), .ref m1, .ref m2, .ref m3, .long ka, .long kb, .ref m6, .ref m7, .ref m8, .ref m9, .ref m10, .ref m11, .ref m12, .ref m13, .ref m14, .ref m15, .ref m16])), (m2, .inl (cI, 8, .inl fp)), (m3, .inl (cI, 1024, .inl fb))] s.heap.size = A at hD ⊢
  have hA : ∀ q : Nat, s.heap.size ≤ q → A q := fun q h => by rw [← hAe]; exact Or.inr h
  have hS : va_S A s.heap s.heap [] := va_S.rf
  have hiX8 : ∀ w ∈ u_ws RX8 TX8 17, w ∈ wsX8_book := by decide +kernel
  have hl := lv_entry ([.ref mo, .int (nI i), .int (nI j), .int p3]) (n := 4) (Nat.le_of_ble_eq_true rfl)
  rw [lg_entry_eq]
  generalize (lg_sl ([.ref mo, .int (nI i), .int (nI j), .int p3]) ++ List.replicate (4 - (lg_sl ([.ref mo, .int (nI i), .int (nI j), .int p3])).length) Slot.unset).toArray = ls at hl ⊢
  have hl : lv_has ls 4 [(0, .ref mo), (1, .int (nI i)), (2, .int (nI j)), (3, .int p3)] := hl
  refine lv_aload_n hx hb dX8_book_0 rfl (lv_at hl 0 rfl) ?_
  refine lv_iload_n hx hb dX8_book_1 rfl (lv_at hl 1 rfl) ?_
  refine lv_iload_n hx hb dX8_book_2 rfl (lv_at hl 2 rfl) ?_
  have hPc := hP.sub (ws' := [(mo, .inr (8, [.int (nI n), .ref m1, .ref m2, .ref m3, .long ka, .long kb, .ref m6, .ref m7, .ref m8, .ref m9, .ref m10, .ref m11, .ref m12, .ref m13, .ref m14, .ref m15, .ref m16])), (m2, .inl (cI, 8, .inl fp))]) [0, 1] rfl
  refine va_calli (va_runV (As := [.int (nI i), .int (nI j)]) (rest := []) ⟨hx, hb, hml, hown, hts⟩ (mz_f_m_isRow_in l dC dI cI cJ cZ mo m1 m2 m3 m6 m7 m8 m9 m10 m11 m12 m13 m14 m15 m16 n ka kb fp i j s.heap (by first | assumption | omega) (by first | assumption | omega) (by first | assumption | omega) (by first | assumption | omega)) (cwV 2 hts gX8_book_X8_isRow rfl rfl rfl (by decide +kernel) ⟨Nat.le_of_ble_eq_true rfl, Nat.le_of_ble_eq_true rfl⟩) ⟨fun a U g mk q => mz_blP q, va_recv hK hPc (ci := 8) (q0 := 0) rfl rfl, fun U hU hW => ⟨rfl, hU, hPc, va_K.moved hW.alike hK, mz_nw hW hN⟩⟩ rfl rfl hl.1 rfl (lv_room (Nat.le_of_ble_eq_true rfl)) dX8_book_3 ⟨Nat.le_of_ble_eq_true rfl, Nat.le_of_ble_eq_true rfl⟩) hS (fun q _ h => h.elim) (fun q h => h.elim) (fun r_3 u t H1 locs ht hvm hw_3 hB hz1 hk1 hS => ?_)
  have hE : s.heap = H1 := hB.symm.trans ht
  subst hE
  obtain rfl : r_3 = 1 := hw_3
  refine lv_if_eq (tgt := 19) hx hb dX8_book_6 (by decide) (fun c_6 => absurd c_6 (by decide +kernel)) (fun _ => ?_)
  refine lv_iload_n hx hb dX8_book_9 rfl (lv_at hl 3 rfl) ?_
  refine lv_if_lt (tgt := 19) hx hb dX8_book_10 (by decide) (fun c_10 => ?_) (fun c_10 => ?_)
  · skip
    refine lv_iconst (v := 0) hx hb dX8_book_19 (by decide +kernel) ?_
    have hP9 := hP.sub (ws' := [(mo, .inr (8, [.int (nI n), .ref m1, .ref m2, .ref m3, .long ka, .long kb, .ref m6, .ref m7, .ref m8, .ref m9, .ref m10, .ref m11, .ref m12, .ref m13, .ref m14, .ref m15, .ref m16])), (m2, .inl (cI, 8, .inl fp)), (m3, .inl (cI, 1024, .inl fb))]) [0, 1, 2] rfl
    have hD9 := hD.sub (ws' := [(mo, .inr (8, [.int (nI n), .ref m1, .ref m2, .ref m3, .long ka, .long kb, .ref m6, .ref m7, .ref m8, .ref m9, .ref m10, .ref m11, .ref m12, .ref m13, .ref m14, .ref m15, .ref m16])), (m2, .inl (cI, 8, .inl fp)), (m3, .inl (cI, 1024, .inl fb))]) [0, 1, 2] (by decide) rfl
    refine W.widen (k := 0) (n := 0) (Nat.le_of_ble_eq_true rfl) (Nat.le_of_ble_eq_true rfl) ?_
    exact W.zret (v := 0) hx hb hr (mz_nz (by decide +kernel)) (fun t ht hW => ⟨⟨0, (), rfl, Or.inr ⟨rfl, (mz_ok2 c_10)⟩, fb, (fun h => absurd h (mz_ok2 c_10)), (fun _ => rfl), by rw [ht]; exact hP9, hD9⟩, hS.F ht⟩) hS.2.2 dX8_book_20
  · skip
    refine lv_iload_n hx hb dX8_book_13 rfl (lv_at hl 3 rfl) ?_
    refine lv_bipush (v := 100) hx hb dX8_book_14 (by decide +kernel) ?_
    refine lv_icmp_le (tgt := 21) hx hb dX8_book_16 (by decide) (fun c_16 => ?_) (fun c_16 => ?_)
    · skip
      refine lv_aload_n hx hb dX8_book_21 rfl (lv_at hl 0 rfl) ?_
      refine va_get (D := (dC, dI)) (ci := 8) (v := .ref m3) (C := RX8) (T := TX8) (N := 17) hx hb hts hiX8 hown hK hP 0 rfl rfl 3 (by decide) (hts (.fieldLink RX8 17 "MadeItSoModel" "books" "[I") (by decide +kernel)) (fun _ h9 => h9) rfl dX8_book_22 ?_
      refine lv_sipush (v := 128) hx hb dX8_book_25 (by decide +kernel) ?_
      refine lv_iload_n hx hb dX8_book_28 rfl (lv_at hl 1 rfl) ?_
      refine lv_imul hx hb dX8_book_29 ?_
      refine mz_ti (y := (nI (128 * i))) (pk_mul _ _) ?_
      refine lv_iload_n hx hb dX8_book_30 rfl (lv_at hl 2 rfl) ?_
      refine lv_iadd hx hb dX8_book_31 ?_
      refine mz_ti (y := (nI (128 * i + j))) (nI_add _ _) ?_
      refine lv_iload_n hx hb dX8_book_32 rfl (lv_at hl 3 rfl) ?_
      refine va_iast hx hb hK hP hD hS 2 0 rfl rfl (vp_in_nI (by omega) (by omega)) dX8_book_33 (fun H locs hP hD hS => ?_)
      rw [mz_cl (n := 128 * i + j) (by omega)] at hP hD
      have hP : va_P (dC, dI) vwCl [(mo, .inr (8, [.int (nI n), .ref m1, .ref m2, .ref m3, .long ka, .long kb, .ref m6, .ref m7, .ref m8, .ref m9, .ref m10, .ref m11, .ref m12, .ref m13, .ref m14, .ref m15, .ref m16])), (m2, .inl (cI, 8, .inl fp)), (m3, .inl (cI, 1024, .inl (upd fb (128 * i + j) p3)))] H := hP
      have hD : va_D A [(mo, .inr (8, [.int (nI n), .ref m1, .ref m2, .ref m3, .long ka, .long kb, .ref m6, .ref m7, .ref m8, .ref m9, .ref m10, .ref m11, .ref m12, .ref m13, .ref m14, .ref m15, .ref m16])), (m2, .inl (cI, 8, .inl fp)), (m3, .inl (cI, 1024, .inl (upd fb (128 * i + j) p3)))] := hD
      refine lv_iconst (v := 1) hx hb dX8_book_34 (by decide +kernel) ?_
      have hP9 := hP.sub (ws' := [(mo, .inr (8, [.int (nI n), .ref m1, .ref m2, .ref m3, .long ka, .long kb, .ref m6, .ref m7, .ref m8, .ref m9, .ref m10, .ref m11, .ref m12, .ref m13, .ref m14, .ref m15, .ref m16])), (m2, .inl (cI, 8, .inl fp)), (m3, .inl (cI, 1024, .inl (upd fb (128 * i + j) p3)))]) [0, 1, 2] rfl
      have hD9 := hD.sub (ws' := [(mo, .inr (8, [.int (nI n), .ref m1, .ref m2, .ref m3, .long ka, .long kb, .ref m6, .ref m7, .ref m8, .ref m9, .ref m10, .ref m11, .ref m12, .ref m13, .ref m14, .ref m15, .ref m16])), (m2, .inl (cI, 8, .inl fp)), (m3, .inl (cI, 1024, .inl (upd fb (128 * i + j) p3)))]) [0, 1, 2] (by decide) rfl
      refine W.widen (k := 0) (n := 0) (Nat.le_of_ble_eq_true rfl) (Nat.le_of_ble_eq_true rfl) ?_
      exact W.zret (v := 1) hx hb hr (mz_nz (by decide +kernel)) (fun t ht hW => ⟨⟨1, (), rfl, Or.inl ⟨rfl, c_10, c_16⟩, (upd fb (128 * i + j) p3), (fun _ => rfl), (fun h => absurd (⟨c_10, c_16⟩ : mz_okp p3) h), by rw [ht]; exact hP9, hD9⟩, hS.F ht⟩) hS.2.2 dX8_book_35
    · skip
      refine lv_iconst (v := 0) hx hb dX8_book_19 (by decide +kernel) ?_
      have hP9 := hP.sub (ws' := [(mo, .inr (8, [.int (nI n), .ref m1, .ref m2, .ref m3, .long ka, .long kb, .ref m6, .ref m7, .ref m8, .ref m9, .ref m10, .ref m11, .ref m12, .ref m13, .ref m14, .ref m15, .ref m16])), (m2, .inl (cI, 8, .inl fp)), (m3, .inl (cI, 1024, .inl fb))]) [0, 1, 2] rfl
      have hD9 := hD.sub (ws' := [(mo, .inr (8, [.int (nI n), .ref m1, .ref m2, .ref m3, .long ka, .long kb, .ref m6, .ref m7, .ref m8, .ref m9, .ref m10, .ref m11, .ref m12, .ref m13, .ref m14, .ref m15, .ref m16])), (m2, .inl (cI, 8, .inl fp)), (m3, .inl (cI, 1024, .inl fb))]) [0, 1, 2] (by decide) rfl
      refine W.widen (k := 0) (n := 0) (Nat.le_of_ble_eq_true rfl) (Nat.le_of_ble_eq_true rfl) ?_
      exact W.zret (v := 0) hx hb hr (mz_nz (by decide +kernel)) (fun t ht hW => ⟨⟨0, (), rfl, Or.inr ⟨rfl, (mz_ok3 c_16)⟩, fb, (fun h => absurd h (mz_ok3 c_16)), (fun _ => rfl), by rw [ht]; exact hP9, hD9⟩, hS.F ht⟩) hS.2.2 dX8_book_20
set_option maxHeartbeats 1000000 in
set_option maxRecDepth 100000 in
theorem mz_f_m_book_out (l : Launch) (dC : Nat → ClassId) (dI : Nat → Nat → Nat) (cI cJ cZ : ClassId) (mo : Nat) (m1 : Nat) (m2 : Nat) (m3 : Nat) (m6 : Nat) (m7 : Nat) (m8 : Nat) (m9 : Nat) (m10 : Nat) (m11 : Nat) (m12 : Nat) (m13 : Nat) (m14 : Nat) (m15 : Nat) (m16 : Nat) (n : Nat) (ka : Int64) (kb : Int64) (fp : Nat → Int32) (p1 : Int32) (p2 : Int32) (p3 : Int32) (Hq : Heap) (hn : n ≤ 8) (houtr : ¬ ∃ i j : Nat, i < n ∧ j < 2 ^ (mz_pc (fp i) 8) ∧ p1 = nI i ∧ p2 = nI j) : Met l yX8_book wsX8_book ({ frames := 2, cells := 0, slots := 0, locals := 44 }) (va_Pc [.ref mo, .int p1, .int p2, .int p3] (fun U => U.heap = Hq ∧ va_P (dC, dI) vwCl [(mo, .inr (8, [.int (nI n), .ref m1, .ref m2, .ref m3, .long ka, .long kb, .ref m6, .ref m7, .ref m8, .ref m9, .ref m10, .ref m11, .ref m12, .ref m13, .ref m14, .ref m15, .ref m16])), (m2, .inl (cI, 8, .inl fp))] Hq ∧ va_K (dC, dI) vwCl [(cI, FieldType.int), (cJ, FieldType.long), (cZ, FieldType.boolean)] U ∧ mz_N U)) (va_Qi (fun (r : Int32) (_ : Unit) => r = 0) (fun _ t => t.heap = Hq) (fun _ : Nat => False)) 0 0 (fun _ : Nat => False) := by
  refine Met.ofW (cc := cX8_book) (maxL := 4) (ret := (some .boolean)) (by decide) rfl ?_
  intro p e s m args below meth c s₁ B hml hv
  obtain ⟨rfl, hH, hP, hK, hN⟩ := hv
  subst hH
  have hx := B.exec
  have hb := B.bytes
  have hr := B.returns
  have hts := atoms_spec (ws := wsX8_book) B.pre
  have hown : s.vm.findClass RX8 = some m.cls := findClass_of_methodNamed B.named
  have hlocks := B.notSynchronized
  have hS : va_S (fun _ : Nat => False) s.heap s.heap [] := va_S.rf
  have hl := lv_entry ([.ref mo, .int p1, .int p2, .int p3]) (n := 4) (Nat.le_of_ble_eq_true rfl)
  rw [lg_entry_eq]
  generalize (lg_sl ([.ref mo, .int p1, .int p2, .int p3]) ++ List.replicate (4 - (lg_sl ([.ref mo, .int p1, .int p2, .int p3])).length) Slot.unset).toArray = ls at hl ⊢
  have hl : lv_has ls 4 [(0, .ref mo), (1, .int p1), (2, .int p2), (3, .int p3)] := hl
  refine lv_aload_n hx hb dX8_book_0 rfl (lv_at hl 0 rfl) ?_
  refine lv_iload_n hx hb dX8_book_1 rfl (lv_at hl 1 rfl) ?_
  refine lv_iload_n hx hb dX8_book_2 rfl (lv_at hl 2 rfl) ?_
  have hPc := hP.sub (ws' := [(mo, .inr (8, [.int (nI n), .ref m1, .ref m2, .ref m3, .long ka, .long kb, .ref m6, .ref m7, .ref m8, .ref m9, .ref m10, .ref m11, .ref m12, .ref m13, .ref m14, .ref m15, .ref m16])), (m2, .inl (cI, 8, .inl fp))]) [0, 1] rfl
  refine va_calli (va_runV (As := [.int p1, .int p2]) (rest := []) ⟨hx, hb, hml, hown, hts⟩ (mz_f_m_isRow_out l dC dI cI cJ cZ mo m1 m2 m3 m6 m7 m8 m9 m10 m11 m12 m13 m14 m15 m16 n ka kb fp p1 p2 s.heap (by first | assumption | omega) (by first | assumption | omega)) (cwV 2 hts gX8_book_X8_isRow rfl rfl rfl (by decide +kernel) ⟨Nat.le_of_ble_eq_true rfl, Nat.le_of_ble_eq_true rfl⟩) ⟨fun a U g mk q => mz_blP q, va_recv hK hPc (ci := 8) (q0 := 0) rfl rfl, fun U hU hW => ⟨rfl, hU, hPc, va_K.moved hW.alike hK, mz_nw hW hN⟩⟩ rfl rfl hl.1 rfl (lv_room (Nat.le_of_ble_eq_true rfl)) dX8_book_3 ⟨Nat.le_of_ble_eq_true rfl, Nat.le_of_ble_eq_true rfl⟩) hS (fun q _ h => h.elim) (fun q h => h.elim) (fun r_3 u t H1 locs ht hvm hw_3 hB hz1 hk1 hS => ?_)
  have hE : s.heap = H1 := hB.symm.trans ht
  subst hE
  obtain rfl : r_3 = 0 := hw_3
  refine lv_if_eq (tgt := 19) hx hb dX8_book_6 (by decide) (fun _ => ?_) (fun c_6 => absurd (by decide +kernel) c_6)
  refine lv_iconst (v := 0) hx hb dX8_book_19 (by decide +kernel) ?_
  refine W.widen (k := 0) (n := 0) (Nat.le_of_ble_eq_true rfl) (Nat.le_of_ble_eq_true rfl) ?_
  exact W.zret (v := 0) hx hb hr (mz_nz (by decide +kernel)) (fun t ht hW => ⟨⟨0, (), rfl, rfl, ht⟩, hS.F ht⟩) hS.2.2 dX8_book_20
set_option maxHeartbeats 1000000 in
set_option maxRecDepth 100000 in
theorem mz_f_m_booked (l : Launch) (dC : Nat → ClassId) (dI : Nat → Nat → Nat) (cI cJ cZ : ClassId) (mo : Nat) (m1 : Nat) (m2 : Nat) (m3 : Nat) (m6 : Nat) (m7 : Nat) (m8 : Nat) (m9 : Nat) (m10 : Nat) (m11 : Nat) (m12 : Nat) (m13 : Nat) (m14 : Nat) (m15 : Nat) (m16 : Nat) (n : Nat) (ka : Int64) (kb : Int64) (fp : Nat → Int32) (fb : Nat → Int32) (i : Nat) (j : Nat) (Hq : Heap) (hn : n ≤ 8) (hi : i < n) (hjr : j < 2 ^ (mz_pc (fp i) 8)) (hjq : j < 128) : Met l yX8_booked wsX8_booked ({ frames := 2, cells := 0, slots := 0, locals := 44 }) (va_Pc [.ref mo, .int (nI i), .int (nI j)] (fun U => U.heap = Hq ∧ va_P (dC, dI) vwCl [(mo, .inr (8, [.int (nI n), .ref m1, .ref m2, .ref m3, .long ka, .long kb, .ref m6, .ref m7, .ref m8, .ref m9, .ref m10, .ref m11, .ref m12, .ref m13, .ref m14, .ref m15, .ref m16])), (m2, .inl (cI, 8, .inl fp)), (m3, .inl (cI, 1024, .inl fb))] Hq ∧ va_K (dC, dI) vwCl [(cI, FieldType.int), (cJ, FieldType.long), (cZ, FieldType.boolean)] U ∧ mz_N U)) (va_Qi (fun (r : Int32) (_ : Unit) => r = (fb (128 * i + j))) (fun _ t => t.heap = Hq) (fun _ : Nat => False)) 0 0 (fun _ : Nat => False) := by
  refine Met.ofW (cc := cX8_booked) (maxL := 3) (ret := (some .int)) (by decide) rfl ?_
  intro p e s m args below meth c s₁ B hml hv
  obtain ⟨rfl, hH, hP, hK, hN⟩ := hv
  subst hH
  have hx := B.exec
  have hb := B.bytes
  have hr := B.returns
  have hts := atoms_spec (ws := wsX8_booked) B.pre
  have hown : s.vm.findClass RX8 = some m.cls := findClass_of_methodNamed B.named
  have hlocks := B.notSynchronized
  have hS : va_S (fun _ : Nat => False) s.heap s.heap [] := va_S.rf
  have hiX8 : ∀ w ∈ u_ws RX8 TX8 17, w ∈ wsX8_booked := by decide +kernel
  have hl := lv_entry ([.ref mo, .int (nI i), .int (nI j)]) (n := 3) (Nat.le_of_ble_eq_true rfl)
  rw [lg_entry_eq]
  generalize (lg_sl ([.ref mo, .int (nI i), .int (nI j)]) ++ List.replicate (3 - (lg_sl ([.ref mo, .int (nI i), .int (nI j)])).length) Slot.unset).toArray = ls at hl ⊢
  have hl : lv_has ls 3 [(0, .ref mo), (1, .int (nI i)), (2, .int (nI j))] := hl
  refine lv_aload_n hx hb dX8_booked_0 rfl (lv_at hl 0 rfl) ?_
  refine lv_iload_n hx hb dX8_booked_1 rfl (lv_at hl 1 rfl) ?_
  refine lv_iload_n hx hb dX8_booked_2 rfl (lv_at hl 2 rfl) ?_
  have hPc := hP.sub (ws' := [(mo, .inr (8, [.int (nI n), .ref m1, .ref m2, .ref m3, .long ka, .long kb, .ref m6, .ref m7, .ref m8, .ref m9, .ref m10, .ref m11, .ref m12, .ref m13, .ref m14, .ref m15, .ref m16])), (m2, .inl (cI, 8, .inl fp))]) [0, 1] rfl
  refine va_calli (va_runV (As := [.int (nI i), .int (nI j)]) (rest := []) ⟨hx, hb, hml, hown, hts⟩ (mz_f_m_isRow_in l dC dI cI cJ cZ mo m1 m2 m3 m6 m7 m8 m9 m10 m11 m12 m13 m14 m15 m16 n ka kb fp i j s.heap (by first | assumption | omega) (by first | assumption | omega) (by first | assumption | omega) (by first | assumption | omega)) (cwV 2 hts gX8_booked_X8_isRow rfl rfl rfl (by decide +kernel) ⟨Nat.le_of_ble_eq_true rfl, Nat.le_of_ble_eq_true rfl⟩) ⟨fun a U g mk q => mz_blP q, va_recv hK hPc (ci := 8) (q0 := 0) rfl rfl, fun U hU hW => ⟨rfl, hU, hPc, va_K.moved hW.alike hK, mz_nw hW hN⟩⟩ rfl rfl hl.1 rfl (lv_room (Nat.le_of_ble_eq_true rfl)) dX8_booked_3 ⟨Nat.le_of_ble_eq_true rfl, Nat.le_of_ble_eq_true rfl⟩) hS (fun q _ h => h.elim) (fun q h => h.elim) (fun r_3 u t H1 locs ht hvm hw_3 hB hz1 hk1 hS => ?_)
  have hE : s.heap = H1 := hB.symm.trans ht
  subst hE
  obtain rfl : r_3 = 1 := hw_3
  refine lv_if_eq (tgt := 24) hx hb dX8_booked_6 (by decide) (fun c_6 => absurd c_6 (by decide +kernel)) (fun _ => ?_)
  refine lv_aload_n hx hb dX8_booked_9 rfl (lv_at hl 0 rfl) ?_
  refine va_get (D := (dC, dI)) (ci := 8) (v := .ref m3) (C := RX8) (T := TX8) (N := 17) hx hb hts hiX8 hown hK hP 0 rfl rfl 3 (by decide) (hts (.fieldLink RX8 17 "MadeItSoModel" "books" "[I") (by decide +kernel)) (fun _ h9 => h9) rfl dX8_booked_10 ?_
  refine lv_sipush (v := 128) hx hb dX8_booked_13 (by decide +kernel) ?_
  refine lv_iload_n hx hb dX8_booked_16 rfl (lv_at hl 1 rfl) ?_
  refine lv_imul hx hb dX8_booked_17 ?_
  refine mz_ti (y := (nI (128 * i))) (pk_mul _ _) ?_
  refine lv_iload_n hx hb dX8_booked_18 rfl (lv_at hl 2 rfl) ?_
  refine lv_iadd hx hb dX8_booked_19 ?_
  refine mz_ti (y := (nI (128 * i + j))) (nI_add _ _) ?_
  refine va_iald hx hb hK hP 2 0 rfl rfl (vp_in_nI (by omega) (by omega)) dX8_booked_20 ?_
  refine mz_ti (y := (fb (128 * i + j))) (by rw [mz_cl (by omega)]) ?_
  refine lv_goto (tgt := 25) hx hb dX8_booked_21 (by decide) ?_
  refine W.widen (k := 0) (n := 0) (Nat.le_of_ble_eq_true rfl) (Nat.le_of_ble_eq_true rfl) ?_
  exact W.iret (v := (fb (128 * i + j))) hx hb hr (fun t ht hW => ⟨⟨(fb (128 * i + j)), (), rfl, rfl, ht⟩, hS.F ht⟩) hS.2.2 dX8_booked_25
set_option maxHeartbeats 1000000 in
set_option maxRecDepth 100000 in
theorem mz_f_m_booked_out (l : Launch) (dC : Nat → ClassId) (dI : Nat → Nat → Nat) (cI cJ cZ : ClassId) (mo : Nat) (m1 : Nat) (m2 : Nat) (m3 : Nat) (m6 : Nat) (m7 : Nat) (m8 : Nat) (m9 : Nat) (m10 : Nat) (m11 : Nat) (m12 : Nat) (m13 : Nat) (m14 : Nat) (m15 : Nat) (m16 : Nat) (n : Nat) (ka : Int64) (kb : Int64) (fp : Nat → Int32) (p1 : Int32) (p2 : Int32) (Hq : Heap) (hn : n ≤ 8) (houtr : ¬ ∃ i j : Nat, i < n ∧ j < 2 ^ (mz_pc (fp i) 8) ∧ p1 = nI i ∧ p2 = nI j) : Met l yX8_booked wsX8_booked ({ frames := 2, cells := 0, slots := 0, locals := 44 }) (va_Pc [.ref mo, .int p1, .int p2] (fun U => U.heap = Hq ∧ va_P (dC, dI) vwCl [(mo, .inr (8, [.int (nI n), .ref m1, .ref m2, .ref m3, .long ka, .long kb, .ref m6, .ref m7, .ref m8, .ref m9, .ref m10, .ref m11, .ref m12, .ref m13, .ref m14, .ref m15, .ref m16])), (m2, .inl (cI, 8, .inl fp))] Hq ∧ va_K (dC, dI) vwCl [(cI, FieldType.int), (cJ, FieldType.long), (cZ, FieldType.boolean)] U ∧ mz_N U)) (va_Qi (fun (r : Int32) (_ : Unit) => r = (-1)) (fun _ t => t.heap = Hq) (fun _ : Nat => False)) 0 0 (fun _ : Nat => False) := by
  refine Met.ofW (cc := cX8_booked) (maxL := 3) (ret := (some .int)) (by decide) rfl ?_
  intro p e s m args below meth c s₁ B hml hv
  obtain ⟨rfl, hH, hP, hK, hN⟩ := hv
  subst hH
  have hx := B.exec
  have hb := B.bytes
  have hr := B.returns
  have hts := atoms_spec (ws := wsX8_booked) B.pre
  have hown : s.vm.findClass RX8 = some m.cls := findClass_of_methodNamed B.named
  have hlocks := B.notSynchronized
  have hS : va_S (fun _ : Nat => False) s.heap s.heap [] := va_S.rf
  have hl := lv_entry ([.ref mo, .int p1, .int p2]) (n := 3) (Nat.le_of_ble_eq_true rfl)
  rw [lg_entry_eq]
  generalize (lg_sl ([.ref mo, .int p1, .int p2]) ++ List.replicate (3 - (lg_sl ([.ref mo, .int p1, .int p2])).length) Slot.unset).toArray = ls at hl ⊢
  have hl : lv_has ls 3 [(0, .ref mo), (1, .int p1), (2, .int p2)] := hl
  refine lv_aload_n hx hb dX8_booked_0 rfl (lv_at hl 0 rfl) ?_
  refine lv_iload_n hx hb dX8_booked_1 rfl (lv_at hl 1 rfl) ?_
  refine lv_iload_n hx hb dX8_booked_2 rfl (lv_at hl 2 rfl) ?_
  have hPc := hP.sub (ws' := [(mo, .inr (8, [.int (nI n), .ref m1, .ref m2, .ref m3, .long ka, .long kb, .ref m6, .ref m7, .ref m8, .ref m9, .ref m10, .ref m11, .ref m12, .ref m13, .ref m14, .ref m15, .ref m16])), (m2, .inl (cI, 8, .inl fp))]) [0, 1] rfl
  refine va_calli (va_runV (As := [.int p1, .int p2]) (rest := []) ⟨hx, hb, hml, hown, hts⟩ (mz_f_m_isRow_out l dC dI cI cJ cZ mo m1 m2 m3 m6 m7 m8 m9 m10 m11 m12 m13 m14 m15 m16 n ka kb fp p1 p2 s.heap (by first | assumption | omega) (by first | assumption | omega)) (cwV 2 hts gX8_booked_X8_isRow rfl rfl rfl (by decide +kernel) ⟨Nat.le_of_ble_eq_true rfl, Nat.le_of_ble_eq_true rfl⟩) ⟨fun a U g mk q => mz_blP q, va_recv hK hPc (ci := 8) (q0 := 0) rfl rfl, fun U hU hW => ⟨rfl, hU, hPc, va_K.moved hW.alike hK, mz_nw hW hN⟩⟩ rfl rfl hl.1 rfl (lv_room (Nat.le_of_ble_eq_true rfl)) dX8_booked_3 ⟨Nat.le_of_ble_eq_true rfl, Nat.le_of_ble_eq_true rfl⟩) hS (fun q _ h => h.elim) (fun q h => h.elim) (fun r_3 u t H1 locs ht hvm hw_3 hB hz1 hk1 hS => ?_)
  have hE : s.heap = H1 := hB.symm.trans ht
  subst hE
  obtain rfl : r_3 = 0 := hw_3
  refine lv_if_eq (tgt := 24) hx hb dX8_booked_6 (by decide) (fun _ => ?_) (fun c_6 => absurd (by decide +kernel) c_6)
  refine lv_iconst (v := (-1)) hx hb dX8_booked_24 (by decide +kernel) ?_
  refine W.widen (k := 0) (n := 0) (Nat.le_of_ble_eq_true rfl) (Nat.le_of_ble_eq_true rfl) ?_
  exact W.iret (v := (-1)) hx hb hr (fun t ht hW => ⟨⟨(-1), (), rfl, rfl, ht⟩, hS.F ht⟩) hS.2.2 dX8_booked_25
set_option maxHeartbeats 1000000 in
set_option maxRecDepth 100000 in
theorem mz_f_m_belowOf (l : Launch) (dC : Nat → ClassId) (dI : Nat → Nat → Nat) (cI cJ cZ : ClassId) (mo : Nat) (m1 : Nat) (m2 : Nat) (m3 : Nat) (m6 : Nat) (m7 : Nat) (m8 : Nat) (m9 : Nat) (m10 : Nat) (m11 : Nat) (m12 : Nat) (m13 : Nat) (m14 : Nat) (m15 : Nat) (m16 : Nat) (n : Nat) (ka : Int64) (kb : Int64) (fp : Nat → Int32) (tq : Nat) (Hq : Heap) (hn : n ≤ 8) (hgb : ∀ k, k < n → ∀ j, j < 32 → mz_t (fp k) j = true → j < n) : Met l yX8_belowOf wsX8_belowOf ({ frames := 1, cells := 0, slots := 0, locals := 23 }) (va_Pc [.ref mo, .int (nI tq), .int 0] (fun U => U.heap = Hq ∧ va_P (dC, dI) vwCl [(mo, .inr (8, [.int (nI n), .ref m1, .ref m2, .ref m3, .long ka, .long kb, .ref m6, .ref m7, .ref m8, .ref m9, .ref m10, .ref m11, .ref m12, .ref m13, .ref m14, .ref m15, .ref m16])), (m2, .inl (cI, 8, .inl fp))] Hq ∧ va_K (dC, dI) vwCl [(cI, FieldType.int), (cJ, FieldType.long), (cZ, FieldType.boolean)] U ∧ mz_N U)) (va_Qi (fun (r : Int32) (_ : Unit) => mz_bs n fp tq r ∧ ∀ j, j < 32 → mz_t r j = true → j < n) (fun _ t => t.heap = Hq) (fun _ : Nat => False)) 0 0 (fun _ : Nat => False) := by
  refine Met.ofW (cc := cX8_belowOf) (maxL := 8) (ret := (some .int)) (by decide) rfl ?_
  intro p e s m args below meth c s₁ B hml hv
  obtain ⟨rfl, hH, hP, hK, hN⟩ := hv
  subst hH
  have hx := B.exec
  have hb := B.bytes
  have hr := B.returns
  have hts := atoms_spec (ws := wsX8_belowOf) B.pre
  have hown : s.vm.findClass RX8 = some m.cls := findClass_of_methodNamed B.named
  have hlocks := B.notSynchronized
  have hS : va_S (fun _ : Nat => False) s.heap s.heap [] := va_S.rf
  have hiX8 : ∀ w ∈ u_ws RX8 TX8 17, w ∈ wsX8_belowOf := by decide +kernel
  have hl := lv_entry ([.ref mo, .int (nI tq), .int 0]) (n := 8) (Nat.le_of_ble_eq_true rfl)
  rw [lg_entry_eq]
  generalize (lg_sl ([.ref mo, .int (nI tq), .int 0]) ++ List.replicate (8 - (lg_sl ([.ref mo, .int (nI tq), .int 0])).length) Slot.unset).toArray = ls at hl ⊢
  have hl : lv_has ls 8 [(0, .ref mo), (1, .int (nI tq)), (2, .int 0)] := hl
  refine lv_iconst (v := 0) hx hb dX8_belowOf_0 (by decide +kernel) ?_
  refine lv_istore_n (lv' := [(3, .int 0), (0, .ref mo), (1, .int (nI tq)), (2, .int 0)]) hx hb dX8_belowOf_1 rfl hl (by decide) rfl (fun ls hl => ?_)
  refine lv_iconst (v := 1) hx hb dX8_belowOf_2 (by decide +kernel) ?_
  refine lv_istore (lv' := [(4, .int 1), (3, .int 0), (0, .ref mo), (1, .int (nI tq)), (2, .int 0)]) hx hb dX8_belowOf_3 hl (by decide) rfl (fun ls hl => ?_)
  refine mz_loopU (fun k H locs ls => ∃ (x4_5 : Int32), ∃ (x3_5 : Int32), (x4_5 = 0 → ∀ k, k < n → mz_clo fp (nI tq) x3_5 k) ∧ (∀ F : Int32, (∀ k, k < n → mz_clo fp (nI tq) F k) → ∀ k, k < n → mz_t x3_5 k = true → mz_t F k = true) ∧ (∀ j, j < 32 → mz_t x3_5 j = true → j < n) ∧ H = s.heap ∧ va_S (fun _ : Nat => False) s.heap H locs ∧ lv_has ls 8 [(4, .int x4_5), (3, .int x3_5), (0, .ref mo), (1, .int (nI tq)), (2, .int 0)] ∧ k = 2 * mz_un x3_5 n + (if x4_5 = 0 then 0 else 1)) ?_ _ _ _ _ ⟨1, 0, (fun h => absurd h (by decide)), (fun _ _ k _ h => absurd h (by rw [mz_t_0]; decide)), (fun j _ h => absurd h (by rw [mz_t_0]; decide)), rfl, hS, lv_sub hl [0, 1, 2, 3, 4] rfl, rfl⟩
  intro k_5 H locs ls hI_5 ih_5
  obtain ⟨x4_5, x3_5, hc_5, hm_5, hz_5, hH_5, hS, hl, hk_5⟩ := hI_5
  subst hH_5
  refine lv_iload hx hb dX8_belowOf_5 (lv_at hl 0 rfl) ?_
  refine lv_if_eq (tgt := 95) hx hb dX8_belowOf_7 (by decide) (fun c_7 => ?_) (fun c_7 => ?_)
  · skip
    refine lv_iload_n hx hb dX8_belowOf_95 rfl (lv_at hl 1 rfl) ?_
    refine W.widen (k := 0) (n := 0) (Nat.le_of_ble_eq_true rfl) (Nat.le_of_ble_eq_true rfl) ?_
    exact W.iret (v := x3_5) hx hb hr (fun t ht hW => ⟨⟨x3_5, (), rfl, ⟨⟨hc_5 c_7, hm_5⟩, hz_5⟩, ht⟩, hS.F ht⟩) hS.2.2 dX8_belowOf_96
  · skip
    refine lv_iconst (v := 0) hx hb dX8_belowOf_10 (by decide +kernel) ?_
    refine lv_istore (lv' := [(4, .int 0), (3, .int x3_5), (0, .ref mo), (1, .int (nI tq)), (2, .int 0)]) hx hb dX8_belowOf_11 hl (by decide) rfl (fun ls hl => ?_)
    refine lv_iconst (v := 0) hx hb dX8_belowOf_13 (by decide +kernel) ?_
    refine lv_istore (lv' := [(5, .int 0), (4, .int 0), (3, .int x3_5), (0, .ref mo), (1, .int (nI tq)), (2, .int 0)]) hx hb dX8_belowOf_14 hl (by decide) rfl (fun ls hl => ?_)
    refine mz_loopU (fun k H locs ls => ∃ (i_16 : Nat), ∃ (x4_16 : Int32), ∃ (x3_16 : Int32), i_16 ≤ n ∧ (x4_16 = 0 → ((∀ k, k < i_16 → mz_clo fp (nI tq) x3_16 k) ∧ x3_16 = x3_5)) ∧ (mz_un x3_16 n ≤ mz_un x3_5 n) ∧ (¬ x4_16 = 0 → mz_un x3_16 n < mz_un x3_5 n) ∧ (∀ F : Int32, (∀ k, k < n → mz_clo fp (nI tq) F k) → ∀ k, k < n → mz_t x3_16 k = true → mz_t F k = true) ∧ (∀ j, j < 32 → mz_t x3_16 j = true → j < n) ∧ H = s.heap ∧ va_S (fun _ : Nat => False) s.heap H locs ∧ lv_has ls 8 [(5, .int (nI i_16)), (4, .int x4_16), (3, .int x3_16), (0, .ref mo), (1, .int (nI tq)), (2, .int 0)] ∧ k = n - i_16) ?_ _ _ _ _ ⟨0, 0, x3_5, by omega, (fun _ => ⟨fun k hk => absurd hk (Nat.not_lt_zero k), rfl⟩), Nat.le_refl _, (fun h => absurd rfl h), hm_5, hz_5, rfl, hS, lv_sub hl [0, 1, 2, 3, 4, 5] rfl, rfl⟩
    intro k_16 H locs ls hI_16 ih_16
    obtain ⟨i_16, x4_16, x3_16, hi_16, hq_16, hu_16, hv_16, hm_16, hz_16, hH_16, hS, hl, hk_16⟩ := hI_16
    subst hH_16
    refine lv_iload hx hb dX8_belowOf_16 (lv_at hl 0 rfl) ?_
    refine lv_aload_n hx hb dX8_belowOf_18 rfl (lv_at hl 3 rfl) ?_
    refine va_get (D := (dC, dI)) (ci := 8) (v := .int (nI n)) (C := RX8) (T := TX8) (N := 17) hx hb hts hiX8 hown hK hP 0 rfl rfl 0 (by decide) (hts (.fieldLink RX8 58 "MadeItSoModel" "many" "I") (by decide +kernel)) (fun _ h9 => h9) rfl dX8_belowOf_19 ?_
    refine lv_icmp_ge (tgt := 92) hx hb dX8_belowOf_22 (by decide) (fun c_22 => ?_) (fun c_22 => ?_)
    · skip
      have d_22 : n ≤ i_16 := (nI_leI (a := n) (b := i_16) (by omega) (by omega)).mp c_22
      refine lv_goto (tgt := 5) hx hb dX8_belowOf_92 (by decide) ?_
      exact ih_5 _ (mz_two hk_5 c_7 hu_16 hv_16) _ _ _ ⟨x4_16, x3_16, (fun h k hk => (hq_16 h).1 k (by omega)), hm_16, hz_16, rfl, hS, lv_sub hl [1, 2, 3, 4, 5] rfl, rfl⟩
    · skip
      have d_22 : ¬ n ≤ i_16 := fun h => c_22 ((nI_leI (a := n) (b := i_16) (by omega) (by omega)).mpr h)
      refine lv_aload_n hx hb dX8_belowOf_25 rfl (lv_at hl 3 rfl) ?_
      refine lv_iload hx hb dX8_belowOf_26 (lv_at hl 0 rfl) ?_
      refine lv_iload_n hx hb dX8_belowOf_28 rfl (lv_at hl 4 rfl) ?_
      refine lv_iload_n hx hb dX8_belowOf_29 rfl (lv_at hl 5 rfl) ?_
      have hPc := hP.sub (ws' := [(mo, .inr (8, [.int (nI n), .ref m1, .ref m2, .ref m3, .long ka, .long kb, .ref m6, .ref m7, .ref m8, .ref m9, .ref m10, .ref m11, .ref m12, .ref m13, .ref m14, .ref m15, .ref m16])), (m2, .inl (cI, 8, .inl fp))]) [0, 1] rfl
      refine va_calli (va_runV (As := [.int (nI i_16), .int (nI tq), .int 0]) (rest := []) ⟨hx, hb, hml, hown, hts⟩ (mz_m_pw0 l dC dI cI cJ cZ mo m1 m2 m3 m6 m7 m8 m9 m10 m11 m12 m13 m14 m15 m16 n ka kb fp i_16 (nI tq) s.heap (by first | assumption | omega)) (cwV 3 hts gX8_belowOf_X8_parentsWithout rfl rfl rfl (by decide +kernel) ⟨Nat.le_of_ble_eq_true rfl, Nat.le_of_ble_eq_true rfl⟩) ⟨fun a U g mk q => mz_blP q, va_recv hK hPc (ci := 8) (q0 := 0) rfl rfl, fun U hU hW => ⟨rfl, hU, hPc, va_K.moved hW.alike hK, mz_nw hW hN⟩⟩ rfl rfl hl.1 rfl (lv_room (Nat.le_of_ble_eq_true rfl)) dX8_belowOf_30 ⟨Nat.le_of_ble_eq_true rfl, Nat.le_of_ble_eq_true rfl⟩) hS (fun q _ h => h.elim) (fun q h => h.elim) (fun r_30 u t H1 locs ht hvm hw_30 hB hz1 hk1 hS => ?_)
      have hE : s.heap = H1 := hB.symm.trans ht
      subst hE
      obtain rfl : r_30 = (fp i_16) := hw_30
      refine lv_istore (lv' := [(6, .int (fp i_16)), (5, .int (nI i_16)), (4, .int x4_16), (3, .int x3_16), (0, .ref mo), (1, .int (nI tq)), (2, .int 0)]) hx hb dX8_belowOf_33 hl (by decide) rfl (fun ls hl => ?_)
      refine lv_iload_n hx hb dX8_belowOf_35 rfl (lv_at hl 3 rfl) ?_
      refine lv_iload hx hb dX8_belowOf_36 (lv_at hl 1 rfl) ?_
      refine lv_ishr hx hb dX8_belowOf_38 ?_
      refine lv_iconst (v := 1) hx hb dX8_belowOf_39 (by decide +kernel) ?_
      refine lv_iand hx hb dX8_belowOf_40 ?_
      refine lv_if_ne (tgt := 65) hx hb dX8_belowOf_41 (by decide) (fun c_41 => ?_) (fun c_41 => ?_)
      · skip
        refine lv_iconst (v := 0) hx hb dX8_belowOf_65 (by decide +kernel) ?_
        refine lv_istore (lv' := [(7, .int 0), (6, .int (fp i_16)), (5, .int (nI i_16)), (4, .int x4_16), (3, .int x3_16), (0, .ref mo), (1, .int (nI tq)), (2, .int 0)]) hx hb dX8_belowOf_66 hl (by decide) rfl (fun ls hl => ?_)
        refine lv_iload hx hb dX8_belowOf_68 (lv_at hl 0 rfl) ?_
        refine lv_if_ne (tgt := 76) hx hb dX8_belowOf_70 (by decide) (fun c_70 => absurd (by decide +kernel) c_70) (fun _ => ?_)
        refine lv_goto (tgt := 86) hx hb dX8_belowOf_73 (by decide) ?_
        refine lv_iinc (v := (nI (i_16 + 1))) (lv' := [(5, .int (nI (i_16 + 1))), (7, .int 0), (6, .int (fp i_16)), (4, .int x4_16), (3, .int x3_16), (0, .ref mo), (1, .int (nI tq)), (2, .int 0)]) hx hb dX8_belowOf_86 hl (k := 2) rfl (nI_1 _) (by decide) rfl (fun ls hl => ?_)
        refine lv_goto (tgt := 16) hx hb dX8_belowOf_89 (by decide) ?_
        exact ih_16 _ (by omega) _ _ _ ⟨(i_16 + 1), x4_16, x3_16, by omega, (by first | exact (fun h => absurd h (by decide)) | exact (fun h => ⟨lt_s (hq_16 h).1 (by first | exact Or.inl c_41 | exact Or.inr ⟨c_51, c_58⟩), (hq_16 h).2⟩)), (by first | exact hu_16 | exact Nat.le_of_lt (Nat.lt_of_lt_of_le (mz_un_set c_41 (by omega) (by omega)) hu_16)), (by first | exact hv_16 | exact (fun _ => Nat.lt_of_lt_of_le (mz_un_set c_41 (by omega) (by omega)) hu_16)), (by first | exact hm_16 | exact mz_bs_add hn (by omega) hgb hm_16 (Or.inl c_51) | exact mz_bs_add hn (by omega) hgb hm_16 (Or.inr c_58)), (by first | exact hz_16 | exact mz_bs_up (by omega) hn hz_16), rfl, hS, lv_sub hl [0, 3, 4, 5, 6, 7] rfl, rfl⟩
      · skip
        refine lv_iload hx hb dX8_belowOf_44 (lv_at hl 0 rfl) ?_
        refine lv_iload_n hx hb dX8_belowOf_46 rfl (lv_at hl 5 rfl) ?_
        refine lv_ishr hx hb dX8_belowOf_47 ?_
        refine lv_iconst (v := 1) hx hb dX8_belowOf_48 (by decide +kernel) ?_
        refine lv_iand hx hb dX8_belowOf_49 ?_
        refine lv_iconst (v := 1) hx hb dX8_belowOf_50 (by decide +kernel) ?_
        refine lv_icmp_eq (tgt := 61) hx hb dX8_belowOf_51 (by decide) (fun c_51 => ?_) (fun c_51 => ?_)
        · skip
          refine lv_iconst (v := 1) hx hb dX8_belowOf_61 (by decide +kernel) ?_
          refine lv_goto (tgt := 66) hx hb dX8_belowOf_62 (by decide) ?_
          refine lv_istore (lv' := [(7, .int 1), (6, .int (fp i_16)), (5, .int (nI i_16)), (4, .int x4_16), (3, .int x3_16), (0, .ref mo), (1, .int (nI tq)), (2, .int 0)]) hx hb dX8_belowOf_66 hl (by decide) rfl (fun ls hl => ?_)
          refine lv_iload hx hb dX8_belowOf_68 (lv_at hl 0 rfl) ?_
          refine lv_if_ne (tgt := 76) hx hb dX8_belowOf_70 (by decide) (fun _ => ?_) (fun c_70 => absurd c_70 (by decide +kernel))
          refine lv_iload_n hx hb dX8_belowOf_76 rfl (lv_at hl 4 rfl) ?_
          refine lv_iconst (v := 1) hx hb dX8_belowOf_77 (by decide +kernel) ?_
          refine lv_iload hx hb dX8_belowOf_78 (lv_at hl 2 rfl) ?_
          refine lv_ishl hx hb dX8_belowOf_80 ?_
          refine lv_ior hx hb dX8_belowOf_81 ?_
          refine lv_istore_n (lv' := [(3, .int (x3_16 ||| (1 <<< ((nI i_16) &&& 31)))), (7, .int 1), (6, .int (fp i_16)), (5, .int (nI i_16)), (4, .int x4_16), (0, .ref mo), (1, .int (nI tq)), (2, .int 0)]) hx hb dX8_belowOf_82 rfl hl (by decide) rfl (fun ls hl => ?_)
          refine lv_iconst (v := 1) hx hb dX8_belowOf_83 (by decide +kernel) ?_
          refine lv_istore (lv' := [(4, .int 1), (3, .int (x3_16 ||| (1 <<< ((nI i_16) &&& 31)))), (7, .int 1), (6, .int (fp i_16)), (5, .int (nI i_16)), (0, .ref mo), (1, .int (nI tq)), (2, .int 0)]) hx hb dX8_belowOf_84 hl (by decide) rfl (fun ls hl => ?_)
          refine lv_iinc (v := (nI (i_16 + 1))) (lv' := [(5, .int (nI (i_16 + 1))), (4, .int 1), (3, .int (x3_16 ||| (1 <<< ((nI i_16) &&& 31)))), (7, .int 1), (6, .int (fp i_16)), (0, .ref mo), (1, .int (nI tq)), (2, .int 0)]) hx hb dX8_belowOf_86 hl (k := 4) rfl (nI_1 _) (by decide) rfl (fun ls hl => ?_)
          refine lv_goto (tgt := 16) hx hb dX8_belowOf_89 (by decide) ?_
          exact ih_16 _ (by omega) _ _ _ ⟨(i_16 + 1), 1, (x3_16 ||| (1 <<< ((nI i_16) &&& 31))), by omega, (by first | exact (fun h => absurd h (by decide)) | exact (fun h => ⟨lt_s (hq_16 h).1 (by first | exact Or.inl c_41 | exact Or.inr ⟨c_51, c_58⟩), (hq_16 h).2⟩)), (by first | exact hu_16 | exact Nat.le_of_lt (Nat.lt_of_lt_of_le (mz_un_set c_41 (by omega) (by omega)) hu_16)), (by first | exact hv_16 | exact (fun _ => Nat.lt_of_lt_of_le (mz_un_set c_41 (by omega) (by omega)) hu_16)), (by first | exact hm_16 | exact mz_bs_add hn (by omega) hgb hm_16 (Or.inl c_51) | exact mz_bs_add hn (by omega) hgb hm_16 (Or.inr c_58)), (by first | exact hz_16 | exact mz_bs_up (by omega) hn hz_16), rfl, hS, lv_sub hl [0, 1, 2, 5, 6, 7] rfl, rfl⟩
        · skip
          refine lv_iload hx hb dX8_belowOf_54 (lv_at hl 0 rfl) ?_
          refine lv_iload_n hx hb dX8_belowOf_56 rfl (lv_at hl 3 rfl) ?_
          refine lv_iand hx hb dX8_belowOf_57 ?_
          refine lv_if_eq (tgt := 65) hx hb dX8_belowOf_58 (by decide) (fun c_58 => ?_) (fun c_58 => ?_)
          · skip
            refine lv_iconst (v := 0) hx hb dX8_belowOf_65 (by decide +kernel) ?_
            refine lv_istore (lv' := [(7, .int 0), (6, .int (fp i_16)), (5, .int (nI i_16)), (4, .int x4_16), (3, .int x3_16), (0, .ref mo), (1, .int (nI tq)), (2, .int 0)]) hx hb dX8_belowOf_66 hl (by decide) rfl (fun ls hl => ?_)
            refine lv_iload hx hb dX8_belowOf_68 (lv_at hl 0 rfl) ?_
            refine lv_if_ne (tgt := 76) hx hb dX8_belowOf_70 (by decide) (fun c_70 => absurd (by decide +kernel) c_70) (fun _ => ?_)
            refine lv_goto (tgt := 86) hx hb dX8_belowOf_73 (by decide) ?_
            refine lv_iinc (v := (nI (i_16 + 1))) (lv' := [(5, .int (nI (i_16 + 1))), (7, .int 0), (6, .int (fp i_16)), (4, .int x4_16), (3, .int x3_16), (0, .ref mo), (1, .int (nI tq)), (2, .int 0)]) hx hb dX8_belowOf_86 hl (k := 2) rfl (nI_1 _) (by decide) rfl (fun ls hl => ?_)
            refine lv_goto (tgt := 16) hx hb dX8_belowOf_89 (by decide) ?_
            exact ih_16 _ (by omega) _ _ _ ⟨(i_16 + 1), x4_16, x3_16, by omega, (by first | exact (fun h => absurd h (by decide)) | exact (fun h => ⟨lt_s (hq_16 h).1 (by first | exact Or.inl c_41 | exact Or.inr ⟨c_51, c_58⟩), (hq_16 h).2⟩)), (by first | exact hu_16 | exact Nat.le_of_lt (Nat.lt_of_lt_of_le (mz_un_set c_41 (by omega) (by omega)) hu_16)), (by first | exact hv_16 | exact (fun _ => Nat.lt_of_lt_of_le (mz_un_set c_41 (by omega) (by omega)) hu_16)), (by first | exact hm_16 | exact mz_bs_add hn (by omega) hgb hm_16 (Or.inl c_51) | exact mz_bs_add hn (by omega) hgb hm_16 (Or.inr c_58)), (by first | exact hz_16 | exact mz_bs_up (by omega) hn hz_16), rfl, hS, lv_sub hl [0, 3, 4, 5, 6, 7] rfl, rfl⟩
          · skip
            refine lv_iconst (v := 1) hx hb dX8_belowOf_61 (by decide +kernel) ?_
            refine lv_goto (tgt := 66) hx hb dX8_belowOf_62 (by decide) ?_
            refine lv_istore (lv' := [(7, .int 1), (6, .int (fp i_16)), (5, .int (nI i_16)), (4, .int x4_16), (3, .int x3_16), (0, .ref mo), (1, .int (nI tq)), (2, .int 0)]) hx hb dX8_belowOf_66 hl (by decide) rfl (fun ls hl => ?_)
            refine lv_iload hx hb dX8_belowOf_68 (lv_at hl 0 rfl) ?_
            refine lv_if_ne (tgt := 76) hx hb dX8_belowOf_70 (by decide) (fun _ => ?_) (fun c_70 => absurd c_70 (by decide +kernel))
            refine lv_iload_n hx hb dX8_belowOf_76 rfl (lv_at hl 4 rfl) ?_
            refine lv_iconst (v := 1) hx hb dX8_belowOf_77 (by decide +kernel) ?_
            refine lv_iload hx hb dX8_belowOf_78 (lv_at hl 2 rfl) ?_
            refine lv_ishl hx hb dX8_belowOf_80 ?_
            refine lv_ior hx hb dX8_belowOf_81 ?_
            refine lv_istore_n (lv' := [(3, .int (x3_16 ||| (1 <<< ((nI i_16) &&& 31)))), (7, .int 1), (6, .int (fp i_16)), (5, .int (nI i_16)), (4, .int x4_16), (0, .ref mo), (1, .int (nI tq)), (2, .int 0)]) hx hb dX8_belowOf_82 rfl hl (by decide) rfl (fun ls hl => ?_)
            refine lv_iconst (v := 1) hx hb dX8_belowOf_83 (by decide +kernel) ?_
            refine lv_istore (lv' := [(4, .int 1), (3, .int (x3_16 ||| (1 <<< ((nI i_16) &&& 31)))), (7, .int 1), (6, .int (fp i_16)), (5, .int (nI i_16)), (0, .ref mo), (1, .int (nI tq)), (2, .int 0)]) hx hb dX8_belowOf_84 hl (by decide) rfl (fun ls hl => ?_)
            refine lv_iinc (v := (nI (i_16 + 1))) (lv' := [(5, .int (nI (i_16 + 1))), (4, .int 1), (3, .int (x3_16 ||| (1 <<< ((nI i_16) &&& 31)))), (7, .int 1), (6, .int (fp i_16)), (0, .ref mo), (1, .int (nI tq)), (2, .int 0)]) hx hb dX8_belowOf_86 hl (k := 4) rfl (nI_1 _) (by decide) rfl (fun ls hl => ?_)
            refine lv_goto (tgt := 16) hx hb dX8_belowOf_89 (by decide) ?_
            exact ih_16 _ (by omega) _ _ _ ⟨(i_16 + 1), 1, (x3_16 ||| (1 <<< ((nI i_16) &&& 31))), by omega, (by first | exact (fun h => absurd h (by decide)) | exact (fun h => ⟨lt_s (hq_16 h).1 (by first | exact Or.inl c_41 | exact Or.inr ⟨c_51, c_58⟩), (hq_16 h).2⟩)), (by first | exact hu_16 | exact Nat.le_of_lt (Nat.lt_of_lt_of_le (mz_un_set c_41 (by omega) (by omega)) hu_16)), (by first | exact hv_16 | exact (fun _ => Nat.lt_of_lt_of_le (mz_un_set c_41 (by omega) (by omega)) hu_16)), (by first | exact hm_16 | exact mz_bs_add hn (by omega) hgb hm_16 (Or.inl c_51) | exact mz_bs_add hn (by omega) hgb hm_16 (Or.inr c_58)), (by first | exact hz_16 | exact mz_bs_up (by omega) hn hz_16), rfl, hS, lv_sub hl [0, 1, 2, 5, 6, 7] rfl, rfl⟩
set_option maxHeartbeats 1000000 in
set_option maxRecDepth 100000 in
theorem mz_f_m_told (l : Launch) (dC : Nat → ClassId) (dI : Nat → Nat → Nat) (cI cJ cZ : ClassId) (mo : Nat) (m1 : Nat) (m2 : Nat) (m3 : Nat) (m6 : Nat) (m7 : Nat) (m8 : Nat) (m9 : Nat) (m10 : Nat) (m11 : Nat) (m12 : Nat) (m13 : Nat) (m14 : Nat) (m15 : Nat) (m16 : Nat) (n : Nat) (ka : Int64) (kb : Int64) (fs : Nat → Int32) (fp : Nat → Int32) (i : Nat) (p2 : Int32) (Hq : Heap) (hn : n ≤ 8) (hi : i < n) (hgb : ∀ k, k < n → ∀ j, j < 32 → mz_t (fp k) j = true → j < n) : Met l yX8_told wsX8_told ({ frames := 2, cells := 0, slots := 0, locals := 50 }) (va_Pc [.ref mo, .int (nI i), .int p2] (fun U => U.heap = Hq ∧ va_P (dC, dI) vwCl [(mo, .inr (8, [.int (nI n), .ref m1, .ref m2, .ref m3, .long ka, .long kb, .ref m6, .ref m7, .ref m8, .ref m9, .ref m10, .ref m11, .ref m12, .ref m13, .ref m14, .ref m15, .ref m16])), (m1, .inl (cZ, 8, .inl fs)), (m2, .inl (cI, 8, .inl fp))] Hq ∧ va_K (dC, dI) vwCl [(cI, FieldType.int), (cJ, FieldType.long), (cZ, FieldType.boolean)] U ∧ mz_N U)) (va_Qi (fun (r : Int32) (_ : Unit) => mz_tlm n fs fp i p2 r) (fun _ t => t.heap = Hq) (fun _ : Nat => False)) 0 0 (fun _ : Nat => False) := by
  refine Met.ofW (cc := cX8_told) (maxL := 5) (ret := (some .int)) (by decide) rfl ?_
  intro p e s m args below meth c s₁ B hml hv
  obtain ⟨rfl, hH, hP, hK, hN⟩ := hv
  subst hH
  have hx := B.exec
  have hb := B.bytes
  have hr := B.returns
  have hts := atoms_spec (ws := wsX8_told) B.pre
  have hown : s.vm.findClass RX8 = some m.cls := findClass_of_methodNamed B.named
  have hlocks := B.notSynchronized
  have hS : va_S (fun _ : Nat => False) s.heap s.heap [] := va_S.rf
  have hiX8 : ∀ w ∈ u_ws RX8 TX8 17, w ∈ wsX8_told := by decide +kernel
  have hl := lv_entry ([.ref mo, .int (nI i), .int p2]) (n := 5) (Nat.le_of_ble_eq_true rfl)
  rw [lg_entry_eq]
  generalize (lg_sl ([.ref mo, .int (nI i), .int p2]) ++ List.replicate (5 - (lg_sl ([.ref mo, .int (nI i), .int p2])).length) Slot.unset).toArray = ls at hl ⊢
  have hl : lv_has ls 5 [(0, .ref mo), (1, .int (nI i)), (2, .int p2)] := hl
  refine lv_aload_n hx hb dX8_told_0 rfl (lv_at hl 0 rfl) ?_
  refine lv_iload_n hx hb dX8_told_1 rfl (lv_at hl 1 rfl) ?_
  have hPc := hP.sub (ws' := [(mo, .inr (8, [.int (nI n), .ref m1, .ref m2, .ref m3, .long ka, .long kb, .ref m6, .ref m7, .ref m8, .ref m9, .ref m10, .ref m11, .ref m12, .ref m13, .ref m14, .ref m15, .ref m16]))]) [0] rfl
  refine va_calli (va_runV (As := [.int (nI i)]) (rest := []) ⟨hx, hb, hml, hown, hts⟩ (mz_m_isThing_in l dC dI cI cJ cZ mo m1 m2 m3 m6 m7 m8 m9 m10 m11 m12 m13 m14 m15 m16 n ka kb i s.heap (by first | assumption | omega) (by first | assumption | omega)) (cwV 1 hts gX8_told_X8_isThing rfl rfl rfl (by decide +kernel) ⟨Nat.le_of_ble_eq_true rfl, Nat.le_of_ble_eq_true rfl⟩) ⟨fun a U g mk q => mz_blP q, va_recv hK hPc (ci := 8) (q0 := 0) rfl rfl, fun U hU hW => ⟨rfl, hU, hPc, va_K.moved hW.alike hK, mz_nw hW hN⟩⟩ rfl rfl hl.1 rfl (lv_room (Nat.le_of_ble_eq_true rfl)) dX8_told_2 ⟨Nat.le_of_ble_eq_true rfl, Nat.le_of_ble_eq_true rfl⟩) hS (fun q _ h => h.elim) (fun q h => h.elim) (fun r_2 u t H1 locs ht hvm hw_2 hB hz1 hk1 hS => ?_)
  have hE : s.heap = H1 := hB.symm.trans ht
  subst hE
  obtain rfl : r_2 = 1 := hw_2
  refine lv_if_ne (tgt := 10) hx hb dX8_told_5 (by decide) (fun _ => ?_) (fun c_5 => absurd c_5 (by decide +kernel))
  refine lv_iconst (v := 0) hx hb dX8_told_10 (by decide +kernel) ?_
  refine lv_istore_n (lv' := [(3, .int 0), (0, .ref mo), (1, .int (nI i)), (2, .int p2)]) hx hb dX8_told_11 rfl hl (by decide) rfl (fun ls hl => ?_)
  refine lv_iload_n hx hb dX8_told_12 rfl (lv_at hl 3 rfl) ?_
  by_cases hs_0 : p2 = 0
  · refine mz_ti (y := 0) hs_0 ?_
    refine lv_tableIn (tgt := 44) (off := 31) hx hb dX8_told_13 (by decide +kernel) (by decide +kernel) (by decide +kernel) (by decide) ?_
    refine lv_aload_n hx hb dX8_told_44 rfl (lv_at hl 1 rfl) ?_
    refine va_get (D := (dC, dI)) (ci := 8) (v := .ref m1) (C := RX8) (T := TX8) (N := 17) hx hb hts hiX8 hown hK hP 0 rfl rfl 1 (by decide) (hts (.fieldLink RX8 9 "MadeItSoModel" "isSeen" "[Z") (by decide +kernel)) (fun _ h9 => h9) rfl dX8_told_45 ?_
    refine lv_iload_n hx hb dX8_told_48 rfl (lv_at hl 2 rfl) ?_
    refine va_zald hx hb hK hP 1 2 rfl rfl (vp_in_nI (by omega) (by omega)) dX8_told_49 ?_
    refine mz_ti (y := (fs i)) (by rw [mz_cl (by omega)]) ?_
    refine lv_if_eq (tgt := 57) hx hb dX8_told_50 (by decide) (fun c_50 => ?_) (fun c_50 => ?_)
    · skip
      refine lv_iconst (v := 0) hx hb dX8_told_57 (by decide +kernel) ?_
      refine W.widen (k := 0) (n := 0) (Nat.le_of_ble_eq_true rfl) (Nat.le_of_ble_eq_true rfl) ?_
      exact W.iret (v := 0) hx hb hr (fun t ht hW => ⟨⟨0, (), rfl, (mz_tm0n hs_0 c_50), ht⟩, hS.F ht⟩) hS.2.2 dX8_told_58
    · skip
      refine lv_iconst (v := 1) hx hb dX8_told_53 (by decide +kernel) ?_
      refine lv_goto (tgt := 58) hx hb dX8_told_54 (by decide) ?_
      refine W.widen (k := 0) (n := 0) (Nat.le_of_ble_eq_true rfl) (Nat.le_of_ble_eq_true rfl) ?_
      exact W.iret (v := 1) hx hb hr (fun t ht hW => ⟨⟨1, (), rfl, (mz_tm0y hs_0 c_50), ht⟩, hS.F ht⟩) hS.2.2 dX8_told_58
  by_cases hs_1 : p2 = 1
  · refine mz_ti (y := 1) hs_1 ?_
    refine lv_tableIn (tgt := 59) (off := 46) hx hb dX8_told_13 (by decide +kernel) (by decide +kernel) (by decide +kernel) (by decide) ?_
    refine lv_aload_n hx hb dX8_told_59 rfl (lv_at hl 1 rfl) ?_
    refine va_get (D := (dC, dI)) (ci := 8) (v := .ref m2) (C := RX8) (T := TX8) (N := 17) hx hb hts hiX8 hown hK hP 0 rfl rfl 2 (by decide) (hts (.fieldLink RX8 13 "MadeItSoModel" "parents" "[I") (by decide +kernel)) (fun _ h9 => h9) rfl dX8_told_60 ?_
    refine lv_iload_n hx hb dX8_told_63 rfl (lv_at hl 2 rfl) ?_
    refine va_iald hx hb hK hP 2 0 rfl rfl (vp_in_nI (by omega) (by omega)) dX8_told_64 ?_
    refine mz_ti (y := (fp i)) (by rw [mz_cl (by omega)]) ?_
    refine W.widen (k := 0) (n := 0) (Nat.le_of_ble_eq_true rfl) (Nat.le_of_ble_eq_true rfl) ?_
    exact W.iret (v := (fp i)) hx hb hr (fun t ht hW => ⟨⟨(fp i), (), rfl, (mz_tm1 hs_1), ht⟩, hS.F ht⟩) hS.2.2 dX8_told_65
  by_cases hs_2 : p2 = 2
  · refine mz_ti (y := 2) hs_2 ?_
    refine lv_tableIn (tgt := 66) (off := 53) hx hb dX8_told_13 (by decide +kernel) (by decide +kernel) (by decide +kernel) (by decide) ?_
    refine lv_iconst (v := 0) hx hb dX8_told_66 (by decide +kernel) ?_
    refine lv_istore (lv' := [(4, .int 0), (3, .int 0), (0, .ref mo), (1, .int (nI i)), (2, .int p2)]) hx hb dX8_told_67 hl (by decide) rfl (fun ls hl => ?_)
    refine mz_loopU (fun k H locs ls => ∃ (i_69 : Nat), ∃ (x3_69 : Int32), i_69 ≤ n ∧ (mz_chm n fp i i_69 x3_69) ∧ H = s.heap ∧ va_S (fun _ : Nat => False) s.heap H locs ∧ lv_has ls 5 [(4, .int (nI i_69)), (3, .int x3_69), (0, .ref mo), (1, .int (nI i)), (2, .int p2)] ∧ k = n - i_69) ?_ _ _ _ _ ⟨0, 0, by omega, mz_ch_z, rfl, hS, lv_sub hl [0, 1, 2, 3, 4] rfl, rfl⟩
    intro k_69 H locs ls hI_69 ih_69
    obtain ⟨i_69, x3_69, hi_69, hg_69, hH_69, hS, hl, hk_69⟩ := hI_69
    subst hH_69
    refine lv_iload hx hb dX8_told_69 (lv_at hl 0 rfl) ?_
    refine lv_aload_n hx hb dX8_told_71 rfl (lv_at hl 2 rfl) ?_
    refine va_get (D := (dC, dI)) (ci := 8) (v := .int (nI n)) (C := RX8) (T := TX8) (N := 17) hx hb hts hiX8 hown hK hP 0 rfl rfl 0 (by decide) (hts (.fieldLink RX8 58 "MadeItSoModel" "many" "I") (by decide +kernel)) (fun _ h9 => h9) rfl dX8_told_72 ?_
    refine lv_icmp_ge (tgt := 105) hx hb dX8_told_75 (by decide) (fun c_75 => ?_) (fun c_75 => ?_)
    · skip
      have d_75 : n ≤ i_69 := (nI_leI (a := n) (b := i_69) (by omega) (by omega)).mp c_75
      refine lv_iload_n hx hb dX8_told_105 rfl (lv_at hl 1 rfl) ?_
      refine W.widen (k := 0) (n := 0) (Nat.le_of_ble_eq_true rfl) (Nat.le_of_ble_eq_true rfl) ?_
      exact W.iret (v := x3_69) hx hb hr (fun t ht hW => ⟨⟨x3_69, (), rfl, (mz_tm2 hs_2 (by obtain rfl : i_69 = n := (by omega); exact hg_69)), ht⟩, hS.F ht⟩) hS.2.2 dX8_told_106
    · skip
      have d_75 : ¬ n ≤ i_69 := fun h => c_75 ((nI_leI (a := n) (b := i_69) (by omega) (by omega)).mpr h)
      refine lv_iload_n hx hb dX8_told_78 rfl (lv_at hl 1 rfl) ?_
      refine lv_aload_n hx hb dX8_told_79 rfl (lv_at hl 2 rfl) ?_
      refine lv_iload_n hx hb dX8_told_80 rfl (lv_at hl 3 rfl) ?_
      refine lv_iload hx hb dX8_told_81 (lv_at hl 0 rfl) ?_
      have hPc := hP.sub (ws' := [(mo, .inr (8, [.int (nI n), .ref m1, .ref m2, .ref m3, .long ka, .long kb, .ref m6, .ref m7, .ref m8, .ref m9, .ref m10, .ref m11, .ref m12, .ref m13, .ref m14, .ref m15, .ref m16])), (m2, .inl (cI, 8, .inl fp))]) [0, 2] rfl
      refine va_calli (va_runV (As := [.int (nI i), .int (nI i_69)]) (rest := [.int x3_69]) ⟨hx, hb, hml, hown, hts⟩ (mz_e_m_has l dC dI cI cJ cZ mo m1 m2 m3 m6 m7 m8 m9 m10 m11 m12 m13 m14 m15 m16 n ka kb fp i i_69 s.heap (by first | assumption | omega) (by first | assumption | omega) (by first | assumption | omega)) (cwV 2 hts gX8_told_X8_has rfl rfl rfl (by decide +kernel) ⟨Nat.le_of_ble_eq_true rfl, Nat.le_of_ble_eq_true rfl⟩) ⟨fun a U g mk q => mz_blP q, va_recv hK hPc (ci := 8) (q0 := 0) rfl rfl, fun U hU hW => ⟨rfl, hU, hPc, va_K.moved hW.alike hK, mz_nw hW hN⟩⟩ rfl rfl hl.1 rfl (lv_room (Nat.le_of_ble_eq_true rfl)) dX8_told_83 ⟨Nat.le_of_ble_eq_true rfl, Nat.le_of_ble_eq_true rfl⟩) hS (fun q _ h => h.elim) (fun q h => h.elim) (fun r_83 u t H1 locs ht hvm hw_83 hB hz1 hk1 hS => ?_)
      have hE : s.heap = H1 := hB.symm.trans ht
      subst hE
      rcases (show (r_83 = 1 ∧ mz_t (fp i_69) i = true) ∨ (r_83 = 0 ∧ mz_t (fp i_69) i = false) from hw_83) with ⟨rfl, ht_83⟩ | ⟨rfl, ht_83⟩
      · skip
        refine lv_if_eq (tgt := 96) hx hb dX8_told_86 (by decide) (fun c_86 => absurd c_86 (by decide +kernel)) (fun _ => ?_)
        refine lv_iconst (v := 1) hx hb dX8_told_89 (by decide +kernel) ?_
        refine lv_iload hx hb dX8_told_90 (lv_at hl 0 rfl) ?_
        refine lv_ishl hx hb dX8_told_92 ?_
        refine lv_goto (tgt := 97) hx hb dX8_told_93 (by decide) ?_
        refine lv_ior hx hb dX8_told_97 ?_
        refine lv_istore_n (lv' := [(3, .int (x3_69 ||| (1 <<< ((nI i_69) &&& 31)))), (4, .int (nI i_69)), (0, .ref mo), (1, .int (nI i)), (2, .int p2)]) hx hb dX8_told_98 rfl hl (by decide) rfl (fun ls hl => ?_)
        refine lv_iinc (v := (nI (i_69 + 1))) (lv' := [(4, .int (nI (i_69 + 1))), (3, .int (x3_69 ||| (1 <<< ((nI i_69) &&& 31)))), (0, .ref mo), (1, .int (nI i)), (2, .int p2)]) hx hb dX8_told_99 hl (k := 1) rfl (nI_1 _) (by decide) rfl (fun ls hl => ?_)
        refine lv_goto (tgt := 69) hx hb dX8_told_102 (by decide) ?_
        exact ih_69 _ (by omega) _ _ _ ⟨(i_69 + 1), (x3_69 ||| (1 <<< ((nI i_69) &&& 31))), by omega, (mz_ch_y (by omega) hg_69 ht_83), rfl, hS, lv_sub hl [0, 1, 2, 3, 4] rfl, rfl⟩
      · skip
        refine lv_if_eq (tgt := 96) hx hb dX8_told_86 (by decide) (fun _ => ?_) (fun c_86 => absurd (by decide +kernel) c_86)
        refine lv_iconst (v := 0) hx hb dX8_told_96 (by decide +kernel) ?_
        refine lv_ior hx hb dX8_told_97 ?_
        refine lv_istore_n (lv' := [(3, .int (x3_69 ||| 0)), (4, .int (nI i_69)), (0, .ref mo), (1, .int (nI i)), (2, .int p2)]) hx hb dX8_told_98 rfl hl (by decide) rfl (fun ls hl => ?_)
        refine lv_iinc (v := (nI (i_69 + 1))) (lv' := [(4, .int (nI (i_69 + 1))), (3, .int (x3_69 ||| 0)), (0, .ref mo), (1, .int (nI i)), (2, .int p2)]) hx hb dX8_told_99 hl (k := 1) rfl (nI_1 _) (by decide) rfl (fun ls hl => ?_)
        refine lv_goto (tgt := 69) hx hb dX8_told_102 (by decide) ?_
        exact ih_69 _ (by omega) _ _ _ ⟨(i_69 + 1), (x3_69 ||| 0), by omega, (mz_ch_n hg_69 ht_83), rfl, hS, lv_sub hl [0, 1, 2, 3, 4] rfl, rfl⟩
  by_cases hs_3 : p2 = 3
  · refine mz_ti (y := 3) hs_3 ?_
    refine lv_tableIn (tgt := 107) (off := 94) hx hb dX8_told_13 (by decide +kernel) (by decide +kernel) (by decide +kernel) (by decide) ?_
    refine lv_aload_n hx hb dX8_told_107 rfl (lv_at hl 1 rfl) ?_
    refine lv_iload_n hx hb dX8_told_108 rfl (lv_at hl 2 rfl) ?_
    refine lv_iconst (v := 0) hx hb dX8_told_109 (by decide +kernel) ?_
    have hPc := hP.sub (ws' := [(mo, .inr (8, [.int (nI n), .ref m1, .ref m2, .ref m3, .long ka, .long kb, .ref m6, .ref m7, .ref m8, .ref m9, .ref m10, .ref m11, .ref m12, .ref m13, .ref m14, .ref m15, .ref m16])), (m2, .inl (cI, 8, .inl fp))]) [0, 2] rfl
    refine va_calli (va_runV (As := [.int (nI i), .int 0]) (rest := []) ⟨hx, hb, hml, hown, hts⟩ (mz_f_m_belowOf l dC dI cI cJ cZ mo m1 m2 m3 m6 m7 m8 m9 m10 m11 m12 m13 m14 m15 m16 n ka kb fp i s.heap (by first | assumption | omega) (by first | assumption | omega)) (cwV 2 hts gX8_told_X8_belowOf rfl rfl rfl (by decide +kernel) ⟨Nat.le_of_ble_eq_true rfl, Nat.le_of_ble_eq_true rfl⟩) ⟨fun a U g mk q => mz_blP q, va_recv hK hPc (ci := 8) (q0 := 0) rfl rfl, fun U hU hW => ⟨rfl, hU, hPc, va_K.moved hW.alike hK, mz_nw hW hN⟩⟩ rfl rfl hl.1 rfl (lv_room (Nat.le_of_ble_eq_true rfl)) dX8_told_110 ⟨Nat.le_of_ble_eq_true rfl, Nat.le_of_ble_eq_true rfl⟩) hS (fun q _ h => h.elim) (fun q h => h.elim) (fun r_110 u t H1 locs ht hvm hw_110 hB hz1 hk1 hS => ?_)
    have hE : s.heap = H1 := hB.symm.trans ht
    subst hE
    refine W.widen (k := 0) (n := 0) (Nat.le_of_ble_eq_true rfl) (Nat.le_of_ble_eq_true rfl) ?_
    exact W.iret (v := r_110) hx hb hr (fun t ht hW => ⟨⟨r_110, (), rfl, (mz_tm3 hs_3 hw_110), ht⟩, hS.F ht⟩) hS.2.2 dX8_told_113
  refine lv_tableOut (tgt := 114) hx hb dX8_told_13 (mz_sw3 hs_0 hs_1 hs_2 hs_3) (by decide) ?_
  refine lv_iconst (v := (-1)) hx hb dX8_told_114 (by decide +kernel) ?_
  refine W.widen (k := 0) (n := 0) (Nat.le_of_ble_eq_true rfl) (Nat.le_of_ble_eq_true rfl) ?_
  exact W.iret (v := (-1)) hx hb hr (fun t ht hW => ⟨⟨(-1), (), rfl, (mz_tm4 hs_0 hs_1 hs_2 hs_3), ht⟩, hS.F ht⟩) hS.2.2 dX8_told_115
set_option maxHeartbeats 1000000 in
set_option maxRecDepth 100000 in
theorem mz_f_m_told_out (l : Launch) (dC : Nat → ClassId) (dI : Nat → Nat → Nat) (cI cJ cZ : ClassId) (mo : Nat) (m1 : Nat) (m2 : Nat) (m3 : Nat) (m6 : Nat) (m7 : Nat) (m8 : Nat) (m9 : Nat) (m10 : Nat) (m11 : Nat) (m12 : Nat) (m13 : Nat) (m14 : Nat) (m15 : Nat) (m16 : Nat) (n : Nat) (ka : Int64) (kb : Int64) (p1 : Int32) (p2 : Int32) (Hq : Heap) (hn : n ≤ 8) (hout1 : ¬ ∃ i : Nat, i < n ∧ p1 = nI i) : Met l yX8_told wsX8_told ({ frames := 1, cells := 0, slots := 0, locals := 21 }) (va_Pc [.ref mo, .int p1, .int p2] (fun U => U.heap = Hq ∧ va_P (dC, dI) vwCl [(mo, .inr (8, [.int (nI n), .ref m1, .ref m2, .ref m3, .long ka, .long kb, .ref m6, .ref m7, .ref m8, .ref m9, .ref m10, .ref m11, .ref m12, .ref m13, .ref m14, .ref m15, .ref m16]))] Hq ∧ va_K (dC, dI) vwCl [(cI, FieldType.int), (cJ, FieldType.long), (cZ, FieldType.boolean)] U ∧ mz_N U)) (va_Qi (fun (r : Int32) (_ : Unit) => r = (-1)) (fun _ t => t.heap = Hq) (fun _ : Nat => False)) 0 0 (fun _ : Nat => False) := by
  refine Met.ofW (cc := cX8_told) (maxL := 5) (ret := (some .int)) (by decide) rfl ?_
  intro p e s m args below meth c s₁ B hml hv
  obtain ⟨rfl, hH, hP, hK, hN⟩ := hv
  subst hH
  have hx := B.exec
  have hb := B.bytes
  have hr := B.returns
  have hts := atoms_spec (ws := wsX8_told) B.pre
  have hown : s.vm.findClass RX8 = some m.cls := findClass_of_methodNamed B.named
  have hlocks := B.notSynchronized
  have hS : va_S (fun _ : Nat => False) s.heap s.heap [] := va_S.rf
  have hl := lv_entry ([.ref mo, .int p1, .int p2]) (n := 5) (Nat.le_of_ble_eq_true rfl)
  rw [lg_entry_eq]
  generalize (lg_sl ([.ref mo, .int p1, .int p2]) ++ List.replicate (5 - (lg_sl ([.ref mo, .int p1, .int p2])).length) Slot.unset).toArray = ls at hl ⊢
  have hl : lv_has ls 5 [(0, .ref mo), (1, .int p1), (2, .int p2)] := hl
  refine lv_aload_n hx hb dX8_told_0 rfl (lv_at hl 0 rfl) ?_
  refine lv_iload_n hx hb dX8_told_1 rfl (lv_at hl 1 rfl) ?_
  have hPc := hP.sub (ws' := [(mo, .inr (8, [.int (nI n), .ref m1, .ref m2, .ref m3, .long ka, .long kb, .ref m6, .ref m7, .ref m8, .ref m9, .ref m10, .ref m11, .ref m12, .ref m13, .ref m14, .ref m15, .ref m16]))]) [0] rfl
  refine va_calli (va_runV (As := [.int p1]) (rest := []) ⟨hx, hb, hml, hown, hts⟩ (mz_m_isThing l dC dI cI cJ cZ mo m1 m2 m3 m6 m7 m8 m9 m10 m11 m12 m13 m14 m15 m16 n ka kb p1 s.heap (by first | assumption | omega)) (cwV 1 hts gX8_told_X8_isThing rfl rfl rfl (by decide +kernel) ⟨Nat.le_of_ble_eq_true rfl, Nat.le_of_ble_eq_true rfl⟩) ⟨fun a U g mk q => mz_blP q, va_recv hK hPc (ci := 8) (q0 := 0) rfl rfl, fun U hU hW => ⟨rfl, hU, hPc, va_K.moved hW.alike hK, mz_nw hW hN⟩⟩ rfl rfl hl.1 rfl (lv_room (Nat.le_of_ble_eq_true rfl)) dX8_told_2 ⟨Nat.le_of_ble_eq_true rfl, Nat.le_of_ble_eq_true rfl⟩) hS (fun q _ h => h.elim) (fun q h => h.elim) (fun r_2 u t H1 locs ht hvm hw_2 hB hz1 hk1 hS => ?_)
  have hE : s.heap = H1 := hB.symm.trans ht
  subst hE
  rcases (show (r_2 = 1 ∧ ∃ j : Nat, j < n ∧ p1 = nI j) ∨ r_2 = 0 from hw_2) with ⟨rfl, j_2, hj_2, he_2⟩ | rfl
  · skip
    subst he_2
    refine lv_if_ne (tgt := 10) hx hb dX8_told_5 (by decide) (fun _ => ?_) (fun c_5 => absurd c_5 (by decide +kernel))
    exact absurd ⟨_, hj_2, rfl⟩ hout1
  · skip
    refine lv_if_ne (tgt := 10) hx hb dX8_told_5 (by decide) (fun c_5 => absurd (by decide +kernel) c_5) (fun _ => ?_)
    refine lv_iconst (v := (-1)) hx hb dX8_told_8 (by decide +kernel) ?_
    refine W.widen (k := 0) (n := 0) (Nat.le_of_ble_eq_true rfl) (Nat.le_of_ble_eq_true rfl) ?_
    exact W.iret (v := (-1)) hx hb hr (fun t ht hW => ⟨⟨(-1), (), rfl, rfl, ht⟩, hS.F ht⟩) hS.2.2 dX8_told_9
set_option maxHeartbeats 1000000 in
set_option maxRecDepth 100000 in
theorem mz_f_m_seen (l : Launch) (dC : Nat → ClassId) (dI : Nat → Nat → Nat) (cI cJ cZ : ClassId) (mo : Nat) (m1 : Nat) (m2 : Nat) (m3 : Nat) (m6 : Nat) (m7 : Nat) (m8 : Nat) (m9 : Nat) (m10 : Nat) (m11 : Nat) (m12 : Nat) (m13 : Nat) (m14 : Nat) (m15 : Nat) (m16 : Nat) (n : Nat) (ka : Int64) (kb : Int64) (fs : Nat → Int32) (Hq : Heap) (hn : n ≤ 8) : Met l yX8_seen wsX8_seen ({ frames := 0, cells := 0, slots := 0, locals := 0 }) (va_Pc [.ref mo] (fun U => U.heap = Hq ∧ va_P (dC, dI) vwCl [(mo, .inr (8, [.int (nI n), .ref m1, .ref m2, .ref m3, .long ka, .long kb, .ref m6, .ref m7, .ref m8, .ref m9, .ref m10, .ref m11, .ref m12, .ref m13, .ref m14, .ref m15, .ref m16])), (m1, .inl (cZ, 8, .inl fs))] Hq ∧ va_K (dC, dI) vwCl [(cI, FieldType.int), (cJ, FieldType.long), (cZ, FieldType.boolean)] U ∧ mz_N U)) (va_Qi (fun (r : Int32) (_ : Unit) => mz_sn n r fs) (fun _ t => t.heap = Hq) (fun _ : Nat => False)) 0 0 (fun _ : Nat => False) := by
  refine Met.ofW (cc := cX8_seen) (maxL := 3) (ret := (some .int)) (by decide) rfl ?_
  intro p e s m args below meth c s₁ B hml hv
  obtain ⟨rfl, hH, hP, hK, hN⟩ := hv
  subst hH
  have hx := B.exec
  have hb := B.bytes
  have hr := B.returns
  have hts := atoms_spec (ws := wsX8_seen) B.pre
  have hown : s.vm.findClass RX8 = some m.cls := findClass_of_methodNamed B.named
  have hlocks := B.notSynchronized
  have hS : va_S (fun _ : Nat => False) s.heap s.heap [] := va_S.rf
  have hiX8 : ∀ w ∈ u_ws RX8 TX8 17, w ∈ wsX8_seen := by decide +kernel
  have hl := lv_entry ([.ref mo]) (n := 3) (Nat.le_of_ble_eq_true rfl)
  rw [lg_entry_eq]
  generalize (lg_sl ([.ref mo]) ++ List.replicate (3 - (lg_sl ([.ref mo])).length) Slot.unset).toArray = ls at hl ⊢
  have hl : lv_has ls 3 [(0, .ref mo)] := hl
  refine lv_iconst (v := 0) hx hb dX8_seen_0 (by decide +kernel) ?_
  refine lv_istore_n (lv' := [(1, .int 0), (0, .ref mo)]) hx hb dX8_seen_1 rfl hl (by decide) rfl (fun ls hl => ?_)
  refine lv_iconst (v := 0) hx hb dX8_seen_2 (by decide +kernel) ?_
  refine lv_istore_n (lv' := [(2, .int 0), (1, .int 0), (0, .ref mo)]) hx hb dX8_seen_3 rfl hl (by decide) rfl (fun ls hl => ?_)
  refine mz_loopU (fun k H locs ls => ∃ (i_4 : Nat), ∃ (x1_4 : Int32), i_4 ≤ n ∧ (mz_sn i_4 x1_4 fs) ∧ H = s.heap ∧ va_S (fun _ : Nat => False) s.heap H locs ∧ lv_has ls 3 [(2, .int (nI i_4)), (1, .int x1_4), (0, .ref mo)] ∧ k = n - i_4) ?_ _ _ _ _ ⟨0, 0, by omega, mz_sn_0, rfl, hS, lv_sub hl [0, 1, 2] rfl, rfl⟩
  intro k_4 H locs ls hI_4 ih_4
  obtain ⟨i_4, x1_4, hi_4, hg_4, hH_4, hS, hl, hk_4⟩ := hI_4
  subst hH_4
  refine lv_iload_n hx hb dX8_seen_4 rfl (lv_at hl 0 rfl) ?_
  refine lv_aload_n hx hb dX8_seen_5 rfl (lv_at hl 2 rfl) ?_
  refine va_get (D := (dC, dI)) (ci := 8) (v := .int (nI n)) (C := RX8) (T := TX8) (N := 17) hx hb hts hiX8 hown hK hP 0 rfl rfl 0 (by decide) (hts (.fieldLink RX8 58 "MadeItSoModel" "many" "I") (by decide +kernel)) (fun _ h9 => h9) rfl dX8_seen_6 ?_
  refine lv_icmp_ge (tgt := 37) hx hb dX8_seen_9 (by decide) (fun c_9 => ?_) (fun c_9 => ?_)
  · skip
    have d_9 : n ≤ i_4 := (nI_leI (a := n) (b := i_4) (by omega) (by omega)).mp c_9
    refine lv_iload_n hx hb dX8_seen_37 rfl (lv_at hl 1 rfl) ?_
    refine W.widen (k := 0) (n := 0) (Nat.le_of_ble_eq_true rfl) (Nat.le_of_ble_eq_true rfl) ?_
    exact W.iret (v := x1_4) hx hb hr (fun t ht hW => ⟨⟨x1_4, (), rfl, (by obtain rfl : i_4 = n := (by omega); exact hg_4), ht⟩, hS.F ht⟩) hS.2.2 dX8_seen_38
  · skip
    have d_9 : ¬ n ≤ i_4 := fun h => c_9 ((nI_leI (a := n) (b := i_4) (by omega) (by omega)).mpr h)
    refine lv_iload_n hx hb dX8_seen_12 rfl (lv_at hl 1 rfl) ?_
    refine lv_aload_n hx hb dX8_seen_13 rfl (lv_at hl 2 rfl) ?_
    refine va_get (D := (dC, dI)) (ci := 8) (v := .ref m1) (C := RX8) (T := TX8) (N := 17) hx hb hts hiX8 hown hK hP 0 rfl rfl 1 (by decide) (hts (.fieldLink RX8 9 "MadeItSoModel" "isSeen" "[Z") (by decide +kernel)) (fun _ h9 => h9) rfl dX8_seen_14 ?_
    refine lv_iload_n hx hb dX8_seen_17 rfl (lv_at hl 0 rfl) ?_
    refine va_zald hx hb hK hP 1 2 rfl rfl (vp_in_nI (by omega) (by omega)) dX8_seen_18 ?_
    refine mz_ti (y := (fs i_4)) (by rw [mz_cl (by omega)]) ?_
    refine lv_if_eq (tgt := 28) hx hb dX8_seen_19 (by decide) (fun c_19 => ?_) (fun c_19 => ?_)
    · skip
      refine lv_iconst (v := 0) hx hb dX8_seen_28 (by decide +kernel) ?_
      refine lv_ior hx hb dX8_seen_29 ?_
      refine lv_istore_n (lv' := [(1, .int (x1_4 ||| 0)), (2, .int (nI i_4)), (0, .ref mo)]) hx hb dX8_seen_30 rfl hl (by decide) rfl (fun ls hl => ?_)
      refine lv_iinc (v := (nI (i_4 + 1))) (lv' := [(2, .int (nI (i_4 + 1))), (1, .int (x1_4 ||| 0)), (0, .ref mo)]) hx hb dX8_seen_31 hl (k := 1) rfl (nI_1 _) (by decide) rfl (fun ls hl => ?_)
      refine lv_goto (tgt := 4) hx hb dX8_seen_34 (by decide) ?_
      exact ih_4 _ (by omega) _ _ _ ⟨(i_4 + 1), (x1_4 ||| 0), by omega, (mz_sn_n0 hg_4 c_19), rfl, hS, lv_sub hl [0, 1, 2] rfl, rfl⟩
    · skip
      refine lv_iconst (v := 1) hx hb dX8_seen_22 (by decide +kernel) ?_
      refine lv_iload_n hx hb dX8_seen_23 rfl (lv_at hl 0 rfl) ?_
      refine lv_ishl hx hb dX8_seen_24 ?_
      refine lv_goto (tgt := 29) hx hb dX8_seen_25 (by decide) ?_
      refine lv_ior hx hb dX8_seen_29 ?_
      refine lv_istore_n (lv' := [(1, .int (x1_4 ||| (1 <<< ((nI i_4) &&& 31)))), (2, .int (nI i_4)), (0, .ref mo)]) hx hb dX8_seen_30 rfl hl (by decide) rfl (fun ls hl => ?_)
      refine lv_iinc (v := (nI (i_4 + 1))) (lv' := [(2, .int (nI (i_4 + 1))), (1, .int (x1_4 ||| (1 <<< ((nI i_4) &&& 31)))), (0, .ref mo)]) hx hb dX8_seen_31 hl (k := 1) rfl (nI_1 _) (by decide) rfl (fun ls hl => ?_)
      refine lv_goto (tgt := 4) hx hb dX8_seen_34 (by decide) ?_
      exact ih_4 _ (by omega) _ _ _ ⟨(i_4 + 1), (x1_4 ||| (1 <<< ((nI i_4) &&& 31))), by omega, (mz_sn_y (by omega) hg_4 (fun _ _ => rfl) c_19), rfl, hS, lv_sub hl [0, 1, 2] rfl, rfl⟩
set_option maxHeartbeats 1000000 in
set_option maxRecDepth 100000 in
theorem mz_f_m_count (l : Launch) (dC : Nat → ClassId) (dI : Nat → Nat → Nat) (cI cJ cZ : ClassId) (mo : Nat) (m1 : Nat) (m2 : Nat) (m3 : Nat) (m6 : Nat) (m7 : Nat) (m8 : Nat) (m9 : Nat) (m10 : Nat) (m11 : Nat) (m12 : Nat) (m13 : Nat) (m14 : Nat) (m15 : Nat) (m16 : Nat) (n : Nat) (ka : Int64) (kb : Int64) (fs : Nat → Int32) (fp : Nat → Int32) (p1 : Int32) (Hq : Heap) (hn : n ≤ 8) : Met l yX8_count wsX8_count ({ frames := 1, cells := 0, slots := 0, locals := 22 }) (va_Pc [.ref mo, .int p1] (fun U => U.heap = Hq ∧ va_P (dC, dI) vwCl [(mo, .inr (8, [.int (nI n), .ref m1, .ref m2, .ref m3, .long ka, .long kb, .ref m6, .ref m7, .ref m8, .ref m9, .ref m10, .ref m11, .ref m12, .ref m13, .ref m14, .ref m15, .ref m16])), (m1, .inl (cZ, 8, .inl fs)), (m2, .inl (cI, 8, .inl fp))] Hq ∧ va_K (dC, dI) vwCl [(cI, FieldType.int), (cJ, FieldType.long), (cZ, FieldType.boolean)] U ∧ mz_N U)) (va_Qi (fun (r : Int32) (_ : Unit) => mz_cnt n (mz_sm fp n) p1 r (fun q => mz_sn n q fs)) (fun _ t => t.heap = Hq) (fun _ : Nat => False)) 0 0 (fun _ : Nat => False) := by
  refine Met.ofW (cc := cX8_count) (maxL := 4) (ret := (some .int)) (by decide) rfl ?_
  intro p e s m args below meth c s₁ B hml hv
  obtain ⟨rfl, hH, hP, hK, hN⟩ := hv
  subst hH
  have hx := B.exec
  have hb := B.bytes
  have hr := B.returns
  have hts := atoms_spec (ws := wsX8_count) B.pre
  have hown : s.vm.findClass RX8 = some m.cls := findClass_of_methodNamed B.named
  have hlocks := B.notSynchronized
  have hS : va_S (fun _ : Nat => False) s.heap s.heap [] := va_S.rf
  have hiX8 : ∀ w ∈ u_ws RX8 TX8 17, w ∈ wsX8_count := by decide +kernel
  have hl := lv_entry ([.ref mo, .int p1]) (n := 4) (Nat.le_of_ble_eq_true rfl)
  rw [lg_entry_eq]
  generalize (lg_sl ([.ref mo, .int p1]) ++ List.replicate (4 - (lg_sl ([.ref mo, .int p1])).length) Slot.unset).toArray = ls at hl ⊢
  have hl : lv_has ls 4 [(0, .ref mo), (1, .int p1)] := hl
  refine lv_iconst (v := 0) hx hb dX8_count_0 (by decide +kernel) ?_
  refine lv_istore_n (lv' := [(2, .int 0), (0, .ref mo), (1, .int p1)]) hx hb dX8_count_1 rfl hl (by decide) rfl (fun ls hl => ?_)
  refine lv_iload_n hx hb dX8_count_2 rfl (lv_at hl 2 rfl) ?_
  by_cases hs_0 : p1 = 0
  · refine mz_ti (y := 0) hs_0 ?_
    refine lv_tableIn (tgt := 28) (off := 25) hx hb dX8_count_3 (by decide +kernel) (by decide +kernel) (by decide +kernel) (by decide) ?_
    refine lv_aload_n hx hb dX8_count_28 rfl (lv_at hl 1 rfl) ?_
    refine va_get (D := (dC, dI)) (ci := 8) (v := .int (nI n)) (C := RX8) (T := TX8) (N := 17) hx hb hts hiX8 hown hK hP 0 rfl rfl 0 (by decide) (hts (.fieldLink RX8 58 "MadeItSoModel" "many" "I") (by decide +kernel)) (fun _ h9 => h9) rfl dX8_count_29 ?_
    refine W.widen (k := 0) (n := 0) (Nat.le_of_ble_eq_true rfl) (Nat.le_of_ble_eq_true rfl) ?_
    exact W.iret (v := (nI n)) hx hb hr (fun t ht hW => ⟨⟨(nI n), (), rfl, (mz_cn0 hs_0), ht⟩, hS.F ht⟩) hS.2.2 dX8_count_32
  by_cases hs_1 : p1 = 1
  · refine mz_ti (y := 1) hs_1 ?_
    refine lv_tableIn (tgt := 33) (off := 30) hx hb dX8_count_3 (by decide +kernel) (by decide +kernel) (by decide +kernel) (by decide) ?_
    refine lv_iconst (v := 0) hx hb dX8_count_33 (by decide +kernel) ?_
    refine lv_istore_n (lv' := [(3, .int 0), (2, .int 0), (0, .ref mo), (1, .int p1)]) hx hb dX8_count_34 rfl hl (by decide) rfl (fun ls hl => ?_)
    refine mz_loopU (fun k H locs ls => ∃ (i_35 : Nat), ∃ (x2_35 : Int32), i_35 ≤ n ∧ (x2_35 = nI (mz_sm fp i_35)) ∧ H = s.heap ∧ va_S (fun _ : Nat => False) s.heap H locs ∧ lv_has ls 4 [(3, .int (nI i_35)), (2, .int x2_35), (0, .ref mo), (1, .int p1)] ∧ k = n - i_35) ?_ _ _ _ _ ⟨0, 0, by omega, rfl, rfl, hS, lv_sub hl [0, 1, 2, 3] rfl, rfl⟩
    intro k_35 H locs ls hI_35 ih_35
    obtain ⟨i_35, x2_35, hi_35, hr_35, hH_35, hS, hl, hk_35⟩ := hI_35
    subst hH_35
    refine lv_iload_n hx hb dX8_count_35 rfl (lv_at hl 0 rfl) ?_
    refine lv_aload_n hx hb dX8_count_36 rfl (lv_at hl 2 rfl) ?_
    refine va_get (D := (dC, dI)) (ci := 8) (v := .int (nI n)) (C := RX8) (T := TX8) (N := 17) hx hb hts hiX8 hown hK hP 0 rfl rfl 0 (by decide) (hts (.fieldLink RX8 58 "MadeItSoModel" "many" "I") (by decide +kernel)) (fun _ h9 => h9) rfl dX8_count_37 ?_
    refine lv_icmp_ge (tgt := 61) hx hb dX8_count_40 (by decide) (fun c_40 => ?_) (fun c_40 => ?_)
    · skip
      have d_40 : n ≤ i_35 := (nI_leI (a := n) (b := i_35) (by omega) (by omega)).mp c_40
      refine lv_iload_n hx hb dX8_count_61 rfl (lv_at hl 1 rfl) ?_
      refine W.widen (k := 0) (n := 0) (Nat.le_of_ble_eq_true rfl) (Nat.le_of_ble_eq_true rfl) ?_
      exact W.iret (v := x2_35) hx hb hr (fun t ht hW => ⟨⟨x2_35, (), rfl, (mz_cn1 hs_1 (by obtain rfl : i_35 = n := (by omega); exact hr_35)), ht⟩, hS.F ht⟩) hS.2.2 dX8_count_62
    · skip
      have d_40 : ¬ n ≤ i_35 := fun h => c_40 ((nI_leI (a := n) (b := i_35) (by omega) (by omega)).mpr h)
      refine lv_iload_n hx hb dX8_count_43 rfl (lv_at hl 1 rfl) ?_
      refine lv_aload_n hx hb dX8_count_44 rfl (lv_at hl 2 rfl) ?_
      refine va_get (D := (dC, dI)) (ci := 8) (v := .ref m2) (C := RX8) (T := TX8) (N := 17) hx hb hts hiX8 hown hK hP 0 rfl rfl 2 (by decide) (hts (.fieldLink RX8 13 "MadeItSoModel" "parents" "[I") (by decide +kernel)) (fun _ h9 => h9) rfl dX8_count_45 ?_
      refine lv_iload_n hx hb dX8_count_48 rfl (lv_at hl 0 rfl) ?_
      refine va_iald hx hb hK hP 2 0 rfl rfl (vp_in_nI (by omega) (by omega)) dX8_count_49 ?_
      refine mz_ti (y := (fp i_35)) (by rw [mz_cl (by omega)]) ?_
      have hPc := hP.sub (ws' := []) [] rfl
      refine va_calli (va_runS (As := [.int (fp i_35)]) (rest := [.int x2_35]) ⟨hx, hb, hml, hown, hts⟩ (mz_f_m_bits l dC dI cI cJ cZ (fp i_35) s.heap ) (va_cwS 1 hts gX8_count_X8_bits rfl rfl rfl (by decide +kernel) ⟨Nat.le_of_ble_eq_true rfl, Nat.le_of_ble_eq_true rfl⟩) ⟨fun a U g mk q => mz_blP q, fun U hU hW => ⟨rfl, hU, hPc, va_K.moved hW.alike hK, mz_nw hW hN⟩⟩ rfl rfl hl.1 rfl (lv_room (Nat.le_of_ble_eq_true rfl)) dX8_count_50 ⟨Nat.le_of_ble_eq_true rfl, Nat.le_of_ble_eq_true rfl⟩) hS (fun q _ h => h.elim) (fun q h => h.elim) (fun r_50 u t H1 locs ht hvm hw_50 hB hz1 hk1 hS => ?_)
      have hE : s.heap = H1 := hB.symm.trans ht
      subst hE
      obtain rfl : r_50 = (nI (mz_pc (fp i_35) 8)) := hw_50
      refine lv_iadd hx hb dX8_count_53 ?_
      refine lv_istore_n (lv' := [(2, .int (x2_35 + (nI (mz_pc (fp i_35) 8)))), (3, .int (nI i_35)), (0, .ref mo), (1, .int p1)]) hx hb dX8_count_54 rfl hl (by decide) rfl (fun ls hl => ?_)
      refine lv_iinc (v := (nI (i_35 + 1))) (lv' := [(3, .int (nI (i_35 + 1))), (2, .int (x2_35 + (nI (mz_pc (fp i_35) 8)))), (0, .ref mo), (1, .int p1)]) hx hb dX8_count_55 hl (k := 1) rfl (nI_1 _) (by decide) rfl (fun ls hl => ?_)
      refine lv_goto (tgt := 35) hx hb dX8_count_58 (by decide) ?_
      exact ih_35 _ (by omega) _ _ _ ⟨(i_35 + 1), (x2_35 + (nI (mz_pc (fp i_35) 8))), by omega, (mz_sm_s hr_35), rfl, hS, lv_sub hl [0, 1, 2, 3] rfl, rfl⟩
  by_cases hs_2 : p1 = 2
  · refine mz_ti (y := 2) hs_2 ?_
    refine lv_tableIn (tgt := 63) (off := 60) hx hb dX8_count_3 (by decide +kernel) (by decide +kernel) (by decide +kernel) (by decide) ?_
    refine lv_aload_n hx hb dX8_count_63 rfl (lv_at hl 1 rfl) ?_
    have hPc := hP.sub (ws' := [(mo, .inr (8, [.int (nI n), .ref m1, .ref m2, .ref m3, .long ka, .long kb, .ref m6, .ref m7, .ref m8, .ref m9, .ref m10, .ref m11, .ref m12, .ref m13, .ref m14, .ref m15, .ref m16])), (m1, .inl (cZ, 8, .inl fs))]) [0, 1] rfl
    refine va_calli (va_runV (As := []) (rest := []) ⟨hx, hb, hml, hown, hts⟩ (mz_f_m_seen l dC dI cI cJ cZ mo m1 m2 m3 m6 m7 m8 m9 m10 m11 m12 m13 m14 m15 m16 n ka kb fs s.heap (by first | assumption | omega)) (cwV 0 hts gX8_count_X8_seen rfl rfl rfl (by decide +kernel) ⟨Nat.le_of_ble_eq_true rfl, Nat.le_of_ble_eq_true rfl⟩) ⟨fun a U g mk q => mz_blP q, va_recv hK hPc (ci := 8) (q0 := 0) rfl rfl, fun U hU hW => ⟨rfl, hU, hPc, va_K.moved hW.alike hK, mz_nw hW hN⟩⟩ rfl rfl hl.1 rfl (lv_room (Nat.le_of_ble_eq_true rfl)) dX8_count_64 ⟨Nat.le_of_ble_eq_true rfl, Nat.le_of_ble_eq_true rfl⟩) hS (fun q _ h => h.elim) (fun q h => h.elim) (fun r_64 u t H1 locs ht hvm hw_64 hB hz1 hk1 hS => ?_)
    have hE : s.heap = H1 := hB.symm.trans ht
    subst hE
    refine W.widen (k := 0) (n := 0) (Nat.le_of_ble_eq_true rfl) (Nat.le_of_ble_eq_true rfl) ?_
    exact W.iret (v := r_64) hx hb hr (fun t ht hW => ⟨⟨r_64, (), rfl, (mz_cn2 hs_2 hw_64), ht⟩, hS.F ht⟩) hS.2.2 dX8_count_67
  refine lv_tableOut (tgt := 68) hx hb dX8_count_3 (mz_sw2 hs_0 hs_1 hs_2) (by decide) ?_
  refine lv_iconst (v := (-1)) hx hb dX8_count_68 (by decide +kernel) ?_
  refine W.widen (k := 0) (n := 0) (Nat.le_of_ble_eq_true rfl) (Nat.le_of_ble_eq_true rfl) ?_
  exact W.iret (v := (-1)) hx hb hr (fun t ht hW => ⟨⟨(-1), (), rfl, (mz_cn3 hs_0 hs_1 hs_2), ht⟩, hS.F ht⟩) hS.2.2 dX8_count_69
set_option maxHeartbeats 1000000 in
set_option maxRecDepth 100000 in
theorem mz_f_m_thing (l : Launch) (dC : Nat → ClassId) (dI : Nat → Nat → Nat) (cI cJ cZ : ClassId) (mo : Nat) (m1 : Nat) (m2 : Nat) (m3 : Nat) (m6 : Nat) (m7 : Nat) (m8 : Nat) (m9 : Nat) (m10 : Nat) (m11 : Nat) (m12 : Nat) (m13 : Nat) (m14 : Nat) (m15 : Nat) (m16 : Nat) (n : Nat) (ka : Int64) (kb : Int64) (fs : Nat → Int32) (fp : Nat → Int32) (fb : Nat → Int32) (p1 : Int32) (sz : Nat) (hn8 : n < 8) (ha : mz_acy n fp) : Met l yX8_thing wsX8_thing ({ frames := 1, cells := 0, slots := 0, locals := 22 }) (va_Pc [.ref mo, .int p1] (fun U => U.heap.size = sz ∧ va_P (dC, dI) vwCl [(mo, .inr (8, [.int (nI n), .ref m1, .ref m2, .ref m3, .long ka, .long kb, .ref m6, .ref m7, .ref m8, .ref m9, .ref m10, .ref m11, .ref m12, .ref m13, .ref m14, .ref m15, .ref m16])), (m1, .inl (cZ, 8, .inl fs)), (m2, .inl (cI, 8, .inl fp)), (m3, .inl (cI, 1024, .inl fb))] U.heap ∧ va_K (dC, dI) vwCl [(cI, FieldType.int), (cJ, FieldType.long), (cZ, FieldType.boolean)] U ∧ va_D (fun _ => True) [(mo, .inr (8, [.int (nI n), .ref m1, .ref m2, .ref m3, .long ka, .long kb, .ref m6, .ref m7, .ref m8, .ref m9, .ref m10, .ref m11, .ref m12, .ref m13, .ref m14, .ref m15, .ref m16])), (m1, .inl (cZ, 8, .inl fs)), (m2, .inl (cI, 8, .inl fp)), (m3, .inl (cI, 1024, .inl fb))] ∧ mz_N U)) (va_Qi (fun (r : Int32) (_ : Unit) => r = (nI n)) (fun _ t => ∃ (gs : Nat → Int32), ∃ (gp : Nat → Int32), ∃ (gb : Nat → Int32), (mz_acy (n + 1) gp) ∧ (gp = upd fp n 0) ∧ (mz_bkp fb gb n 128) ∧ (gs = upd fs n (vp_nar .boolean p1)) ∧ va_P (dC, dI) vwCl [(mo, .inr (8, [.int (nI ((n + 1))), .ref m1, .ref m2, .ref m3, .long ka, .long kb, .ref m6, .ref m7, .ref m8, .ref m9, .ref m10, .ref m11, .ref m12, .ref m13, .ref m14, .ref m15, .ref m16])), (m1, .inl (cZ, 8, .inl gs)), (m2, .inl (cI, 8, .inl gp)), (m3, .inl (cI, 1024, .inl gb))] t.heap ∧ va_D (va_A [(mo, .inr (8, [.int (nI n), .ref m1, .ref m2, .ref m3, .long ka, .long kb, .ref m6, .ref m7, .ref m8, .ref m9, .ref m10, .ref m11, .ref m12, .ref m13, .ref m14, .ref m15, .ref m16])), (m1, .inl (cZ, 8, .inl fs)), (m2, .inl (cI, 8, .inl fp)), (m3, .inl (cI, 1024, .inl fb))] sz) [(mo, .inr (8, [.int (nI ((n + 1))), .ref m1, .ref m2, .ref m3, .long ka, .long kb, .ref m6, .ref m7, .ref m8, .ref m9, .ref m10, .ref m11, .ref m12, .ref m13, .ref m14, .ref m15, .ref m16])), (m1, .inl (cZ, 8, .inl gs)), (m2, .inl (cI, 8, .inl gp)), (m3, .inl (cI, 1024, .inl gb))]) (va_A [(mo, .inr (8, [.int (nI n), .ref m1, .ref m2, .ref m3, .long ka, .long kb, .ref m6, .ref m7, .ref m8, .ref m9, .ref m10, .ref m11, .ref m12, .ref m13, .ref m14, .ref m15, .ref m16])), (m1, .inl (cZ, 8, .inl fs)), (m2, .inl (cI, 8, .inl fp)), (m3, .inl (cI, 1024, .inl fb))] sz)) 0 0 (va_A [(mo, .inr (8, [.int (nI n), .ref m1, .ref m2, .ref m3, .long ka, .long kb, .ref m6, .ref m7, .ref m8, .ref m9, .ref m10, .ref m11, .ref m12, .ref m13, .ref m14, .ref m15, .ref m16])), (m1, .inl (cZ, 8, .inl fs)), (m2, .inl (cI, 8, .inl fp)), (m3, .inl (cI, 1024, .inl fb))] sz) := by
  refine Met.ofW (cc := cX8_thing) (maxL := 2) (ret := (some .int)) (by decide) rfl ?_
  intro p e s m args below meth c s₁ B hml hv
  obtain ⟨rfl, hsz, hP, hK, hD0, hN⟩ := hv
  subst hsz
  have hx := B.exec
  have hb := B.bytes
  have hr := B.returns
  have hts := atoms_spec (ws := wsX8_thing) B.pre
  have hown : s.vm.findClass RX8 = some m.cls := findClass_of_methodNamed B.named
  have hlocks := B.notSynchronized
  have hD := hD0.self (sz := s.heap.size)
  generalize hAe : va_A [(mo, .inr (8, [.int (nI n), .ref m1, .ref m2, .ref m3, .long ka, .long kb, .ref m6, .ref m7, .ref m8, .ref m9, .ref m10, .ref m11, .ref m12, .ref m13, .ref m14, .ref m15, .ref m16])), (m1, .inl (cZ, 8, .inl fs)), (m2, .inl (cI, 8, .inl fp)), (m3, .inl (cI, 1024, .inl fb))] s.heap.size = A at hD ⊢
  have hA : ∀ q : Nat, s.heap.size ≤ q → A q := fun q h => by rw [← hAe]; exact Or.inr h
  have hS : va_S A s.heap s.heap [] := va_S.rf
  have hiX8 : ∀ w ∈ u_ws RX8 TX8 17, w ∈ wsX8_thing := by decide +kernel
  have hl := lv_entry ([.ref mo, .int p1]) (n := 2) (Nat.le_of_ble_eq_true rfl)
  rw [lg_entry_eq]
  generalize (lg_sl ([.ref mo, .int p1]) ++ List.replicate (2 - (lg_sl ([.ref mo, .int p1])).length) Slot.unset).toArray = ls at hl ⊢
  have hl : lv_has ls 2 [(0, .ref mo), (1, .int p1)] := hl
  refine lv_aload_n hx hb dX8_thing_0 rfl (lv_at hl 0 rfl) ?_
  refine va_get (D := (dC, dI)) (ci := 8) (v := .int (nI n)) (C := RX8) (T := TX8) (N := 17) hx hb hts hiX8 hown hK hP 0 rfl rfl 0 (by decide) (hts (.fieldLink RX8 58 "MadeItSoModel" "many" "I") (by decide +kernel)) (fun _ h9 => h9) rfl dX8_thing_1 ?_
  refine lv_bipush (v := 8) hx hb dX8_thing_4 (by decide +kernel) ?_
  refine lv_icmp_ne (tgt := 11) hx hb dX8_thing_6 (by decide) (fun _ => ?_) (fun c_6 => absurd c_6 (fun h => absurd ((nI_eq (a := n) (b := 8) (by omega) (by omega)).mp h) (by omega)))
  refine lv_aload_n hx hb dX8_thing_11 rfl (lv_at hl 0 rfl) ?_
  refine va_get (D := (dC, dI)) (ci := 8) (v := .ref m1) (C := RX8) (T := TX8) (N := 17) hx hb hts hiX8 hown hK hP 0 rfl rfl 1 (by decide) (hts (.fieldLink RX8 9 "MadeItSoModel" "isSeen" "[Z") (by decide +kernel)) (fun _ h9 => h9) rfl dX8_thing_12 ?_
  refine lv_aload_n hx hb dX8_thing_15 rfl (lv_at hl 0 rfl) ?_
  refine va_get (D := (dC, dI)) (ci := 8) (v := .int (nI n)) (C := RX8) (T := TX8) (N := 17) hx hb hts hiX8 hown hK hP 0 rfl rfl 0 (by decide) (hts (.fieldLink RX8 58 "MadeItSoModel" "many" "I") (by decide +kernel)) (fun _ h9 => h9) rfl dX8_thing_16 ?_
  refine lv_iload_n hx hb dX8_thing_19 rfl (lv_at hl 1 rfl) ?_
  refine va_zast hx hb hK hP hD hS 1 2 rfl rfl (vp_in_nI (by omega) (by omega)) dX8_thing_20 (fun H locs hP hD hS => ?_)
  rw [mz_cl (n := n) (by omega)] at hP hD
  have hP : va_P (dC, dI) vwCl [(mo, .inr (8, [.int (nI n), .ref m1, .ref m2, .ref m3, .long ka, .long kb, .ref m6, .ref m7, .ref m8, .ref m9, .ref m10, .ref m11, .ref m12, .ref m13, .ref m14, .ref m15, .ref m16])), (m1, .inl (cZ, 8, .inl (upd fs n (vp_nar .boolean p1)))), (m2, .inl (cI, 8, .inl fp)), (m3, .inl (cI, 1024, .inl fb))] H := hP
  have hD : va_D A [(mo, .inr (8, [.int (nI n), .ref m1, .ref m2, .ref m3, .long ka, .long kb, .ref m6, .ref m7, .ref m8, .ref m9, .ref m10, .ref m11, .ref m12, .ref m13, .ref m14, .ref m15, .ref m16])), (m1, .inl (cZ, 8, .inl (upd fs n (vp_nar .boolean p1)))), (m2, .inl (cI, 8, .inl fp)), (m3, .inl (cI, 1024, .inl fb))] := hD
  refine lv_aload_n hx hb dX8_thing_21 rfl (lv_at hl 0 rfl) ?_
  refine va_get (D := (dC, dI)) (ci := 8) (v := .ref m2) (C := RX8) (T := TX8) (N := 17) hx hb hts hiX8 hown hK hP 0 rfl rfl 2 (by decide) (hts (.fieldLink RX8 13 "MadeItSoModel" "parents" "[I") (by decide +kernel)) (fun _ h9 => h9) rfl dX8_thing_22 ?_
  refine lv_aload_n hx hb dX8_thing_25 rfl (lv_at hl 0 rfl) ?_
  refine va_get (D := (dC, dI)) (ci := 8) (v := .int (nI n)) (C := RX8) (T := TX8) (N := 17) hx hb hts hiX8 hown hK hP 0 rfl rfl 0 (by decide) (hts (.fieldLink RX8 58 "MadeItSoModel" "many" "I") (by decide +kernel)) (fun _ h9 => h9) rfl dX8_thing_26 ?_
  refine lv_iconst (v := 0) hx hb dX8_thing_29 (by decide +kernel) ?_
  refine va_iast hx hb hK hP hD hS 2 0 rfl rfl (vp_in_nI (by omega) (by omega)) dX8_thing_30 (fun H locs hP hD hS => ?_)
  rw [mz_cl (n := n) (by omega)] at hP hD
  have hP : va_P (dC, dI) vwCl [(mo, .inr (8, [.int (nI n), .ref m1, .ref m2, .ref m3, .long ka, .long kb, .ref m6, .ref m7, .ref m8, .ref m9, .ref m10, .ref m11, .ref m12, .ref m13, .ref m14, .ref m15, .ref m16])), (m1, .inl (cZ, 8, .inl (upd fs n (vp_nar .boolean p1)))), (m2, .inl (cI, 8, .inl (upd fp n 0))), (m3, .inl (cI, 1024, .inl fb))] H := hP
  have hD : va_D A [(mo, .inr (8, [.int (nI n), .ref m1, .ref m2, .ref m3, .long ka, .long kb, .ref m6, .ref m7, .ref m8, .ref m9, .ref m10, .ref m11, .ref m12, .ref m13, .ref m14, .ref m15, .ref m16])), (m1, .inl (cZ, 8, .inl (upd fs n (vp_nar .boolean p1)))), (m2, .inl (cI, 8, .inl (upd fp n 0))), (m3, .inl (cI, 1024, .inl fb))] := hD
  refine lv_aload_n hx hb dX8_thing_31 rfl (lv_at hl 0 rfl) ?_
  refine lv_aload_n hx hb dX8_thing_32 rfl (lv_at hl 0 rfl) ?_
  refine va_get (D := (dC, dI)) (ci := 8) (v := .int (nI n)) (C := RX8) (T := TX8) (N := 17) hx hb hts hiX8 hown hK hP 0 rfl rfl 0 (by decide) (hts (.fieldLink RX8 58 "MadeItSoModel" "many" "I") (by decide +kernel)) (fun _ h9 => h9) rfl dX8_thing_33 ?_
  have hPc := hP.sub (ws' := [(mo, .inr (8, [.int (nI n), .ref m1, .ref m2, .ref m3, .long ka, .long kb, .ref m6, .ref m7, .ref m8, .ref m9, .ref m10, .ref m11, .ref m12, .ref m13, .ref m14, .ref m15, .ref m16])), (m3, .inl (cI, 1024, .inl fb))]) [0, 3] rfl
  have hDc := hD.sub (ws' := [(mo, .inr (8, [.int (nI n), .ref m1, .ref m2, .ref m3, .long ka, .long kb, .ref m6, .ref m7, .ref m8, .ref m9, .ref m10, .ref m11, .ref m12, .ref m13, .ref m14, .ref m15, .ref m16])), (m3, .inl (cI, 1024, .inl fb))]) [0, 3] (by decide) rfl
  have hFc := va_free (wc := [(mo, .inr (8, [.int (nI n), .ref m1, .ref m2, .ref m3, .long ka, .long kb, .ref m6, .ref m7, .ref m8, .ref m9, .ref m10, .ref m11, .ref m12, .ref m13, .ref m14, .ref m15, .ref m16])), (m3, .inl (cI, 1024, .inl fb))]) hD hS hA [0, 3] rfl
  refine va_callv (va_runV (As := [.int (nI n)]) (rest := []) ⟨hx, hb, hml, hown, hts⟩ (mz_e_m_fresh l dC dI cI cJ cZ mo m1 m2 m3 m6 m7 m8 m9 m10 m11 m12 m13 m14 m15 m16 n ka kb fb n H.size (by first | assumption | omega)) (cwV 1 hts gX8_thing_X8_fresh rfl rfl rfl (by decide +kernel) ⟨Nat.le_of_ble_eq_true rfl, Nat.le_of_ble_eq_true rfl⟩) ⟨fun a U g mk q => mz_blI q, va_recv hK hPc (ci := 8) (q0 := 0) rfl rfl, fun U hU hW => ⟨rfl, by rw [hU], by rw [hU]; exact hPc, va_K.moved hW.alike hK, hDc.weaken (fun _ _ _ _ => trivial), mz_nw hW hN⟩⟩ rfl rfl hl.1 rfl (lv_room (Nat.le_of_ble_eq_true rfl)) dX8_thing_36 ⟨Nat.le_of_ble_eq_true rfl, Nat.le_of_ble_eq_true rfl⟩) hS (fun q _ h => hFc q h) hFc (fun u t H1 locs ht hvm hw_36 hB hz1 hk1 hS => ?_)
  obtain ⟨gb_36, hx0_36, hP1, hD1⟩ := hB
  rw [ht] at hP1
  obtain ⟨hP, hD⟩ := va_join (wr := [(m1, .inl (cZ, 8, .inl (upd fs n (vp_nar .boolean p1)))), (m2, .inl (cI, 8, .inl (upd fp n 0)))]) (w1 := [(mo, .inr (8, [.int (nI n), .ref m1, .ref m2, .ref m3, .long ka, .long kb, .ref m6, .ref m7, .ref m8, .ref m9, .ref m10, .ref m11, .ref m12, .ref m13, .ref m14, .ref m15, .ref m16])), (m3, .inl (cI, 1024, .inl gb_36))]) hP hD [0, 3] [1, 2] rfl rfl (by decide) (by decide) hk1 hFc hP1 hD1
  generalize H1 = H at hP hS ⊢
  have hP : va_P (dC, dI) vwCl [(m1, .inl (cZ, 8, .inl (upd fs n (vp_nar .boolean p1)))), (m2, .inl (cI, 8, .inl (upd fp n 0))), (mo, .inr (8, [.int (nI n), .ref m1, .ref m2, .ref m3, .long ka, .long kb, .ref m6, .ref m7, .ref m8, .ref m9, .ref m10, .ref m11, .ref m12, .ref m13, .ref m14, .ref m15, .ref m16])), (m3, .inl (cI, 1024, .inl gb_36))] H := hP
  have hD : va_D A [(m1, .inl (cZ, 8, .inl (upd fs n (vp_nar .boolean p1)))), (m2, .inl (cI, 8, .inl (upd fp n 0))), (mo, .inr (8, [.int (nI n), .ref m1, .ref m2, .ref m3, .long ka, .long kb, .ref m6, .ref m7, .ref m8, .ref m9, .ref m10, .ref m11, .ref m12, .ref m13, .ref m14, .ref m15, .ref m16])), (m3, .inl (cI, 1024, .inl gb_36))] := hD
  refine lv_aload_n hx hb dX8_thing_39 rfl (lv_at hl 0 rfl) ?_
  refine lv_dup hx hb dX8_thing_40 rfl ?_
  refine va_get (D := (dC, dI)) (ci := 8) (v := .int (nI n)) (C := RX8) (T := TX8) (N := 17) hx hb hts hiX8 hown hK hP 2 rfl rfl 0 (by decide) (hts (.fieldLink RX8 58 "MadeItSoModel" "many" "I") (by decide +kernel)) (fun _ h9 => h9) rfl dX8_thing_41 ?_
  refine lv_iconst (v := 1) hx hb dX8_thing_44 (by decide +kernel) ?_
  refine lv_iadd hx hb dX8_thing_45 ?_
  refine mz_ti (y := (nI (n + 1))) (nI_add _ _) ?_
  refine va_put (D := (dC, dI)) (ci := 8) (v := .int (nI (n + 1))) (ty := .int) (C := RX8) (T := TX8) (N := 17) hx hb hts hiX8 tyX8 tyX8_ok nmX8 hown hK hP hD hS 2 rfl rfl 0 (by decide) (hts (.fieldLink RX8 58 "MadeItSoModel" "many" "I") (by decide +kernel)) (fun _ h9 => h9) rfl (by decide +kernel) rfl rfl (Nat.le_of_ble_eq_true rfl) dX8_thing_46 (fun H locs hP hD hS => ?_)
  have hP : va_P (dC, dI) vwCl [(m1, .inl (cZ, 8, .inl (upd fs n (vp_nar .boolean p1)))), (m2, .inl (cI, 8, .inl (upd fp n 0))), (mo, .inr (8, [.int (nI (n + 1)), .ref m1, .ref m2, .ref m3, .long ka, .long kb, .ref m6, .ref m7, .ref m8, .ref m9, .ref m10, .ref m11, .ref m12, .ref m13, .ref m14, .ref m15, .ref m16])), (m3, .inl (cI, 1024, .inl gb_36))] H := hP
  have hD : va_D A [(m1, .inl (cZ, 8, .inl (upd fs n (vp_nar .boolean p1)))), (m2, .inl (cI, 8, .inl (upd fp n 0))), (mo, .inr (8, [.int (nI (n + 1)), .ref m1, .ref m2, .ref m3, .long ka, .long kb, .ref m6, .ref m7, .ref m8, .ref m9, .ref m10, .ref m11, .ref m12, .ref m13, .ref m14, .ref m15, .ref m16])), (m3, .inl (cI, 1024, .inl gb_36))] := hD
  refine lv_aload_n hx hb dX8_thing_49 rfl (lv_at hl 0 rfl) ?_
  refine va_get (D := (dC, dI)) (ci := 8) (v := .int (nI (n + 1))) (C := RX8) (T := TX8) (N := 17) hx hb hts hiX8 hown hK hP 2 rfl rfl 0 (by decide) (hts (.fieldLink RX8 58 "MadeItSoModel" "many" "I") (by decide +kernel)) (fun _ h9 => h9) rfl dX8_thing_50 ?_
  refine lv_iconst (v := 1) hx hb dX8_thing_53 (by decide +kernel) ?_
  refine lv_isub hx hb dX8_thing_54 ?_
  refine mz_ti (y := (nI n)) (nI_pred _) ?_
  have hP9 := hP.sub (ws' := [(mo, .inr (8, [.int (nI ((n + 1))), .ref m1, .ref m2, .ref m3, .long ka, .long kb, .ref m6, .ref m7, .ref m8, .ref m9, .ref m10, .ref m11, .ref m12, .ref m13, .ref m14, .ref m15, .ref m16])), (m1, .inl (cZ, 8, .inl (upd fs n (vp_nar .boolean p1)))), (m2, .inl (cI, 8, .inl (upd fp n 0))), (m3, .inl (cI, 1024, .inl gb_36))]) [2, 0, 1, 3] rfl
  have hD9 := hD.sub (ws' := [(mo, .inr (8, [.int (nI ((n + 1))), .ref m1, .ref m2, .ref m3, .long ka, .long kb, .ref m6, .ref m7, .ref m8, .ref m9, .ref m10, .ref m11, .ref m12, .ref m13, .ref m14, .ref m15, .ref m16])), (m1, .inl (cZ, 8, .inl (upd fs n (vp_nar .boolean p1)))), (m2, .inl (cI, 8, .inl (upd fp n 0))), (m3, .inl (cI, 1024, .inl gb_36))]) [2, 0, 1, 3] (by decide) rfl
  refine W.widen (k := 0) (n := 0) (Nat.le_of_ble_eq_true rfl) (Nat.le_of_ble_eq_true rfl) ?_
  exact W.iret (v := (nI n)) hx hb hr (fun t ht hW => ⟨⟨(nI n), (), rfl, rfl, (upd fs n (vp_nar .boolean p1)), (upd fp n 0), gb_36, (mz_acy_more ha (fun t ht => pk_un (by omega)) pk_us), rfl, hx0_36, rfl, by rw [ht]; exact hP9, hD9⟩, hS.F ht⟩) hS.2.2 dX8_thing_55
