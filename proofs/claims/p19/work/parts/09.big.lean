/-! Big, Total, helpers of MadeItSo: any state -/
set_option maxHeartbeats 1000000 in
set_option maxRecDepth 100000 in
theorem mz_t_trim (l : Launch) (dC : Nat → ClassId) (dI : Nat → Nat → Nat) (cI cJ cZ : ClassId) (h0 : Nat) (h0l : Nat) (u : Nat) (f : Nat → Int64) (sz : Nat) (hu : u ≤ 128) : Met l yX0_trim wsX0_trim ({ frames := 0, cells := 0, slots := 0, locals := 0 }) (va_Pc [.ref h0] (fun U => U.heap.size = sz ∧ va_P (dC, dI) vwCl [(h0, .inr (0, [.ref h0l, .int (nI u)])), (h0l, .inl (cJ, 128, .inr (.inl f)))] U.heap ∧ va_K (dC, dI) vwCl [(cI, FieldType.int), (cJ, FieldType.long), (cZ, FieldType.boolean)] U ∧ va_D (fun _ => True) [(h0, .inr (0, [.ref h0l, .int (nI u)])), (h0l, .inl (cJ, 128, .inr (.inl f)))] ∧ mz_N U)) (va_Qv (fun (_ : Unit) => True) (fun _ t => ∃ (gu : Nat), ∃ (gf : Nat → Int64), (gu ≤ 128) ∧ va_P (dC, dI) vwCl [(h0, .inr (0, [.ref h0l, .int (nI gu)])), (h0l, .inl (cJ, 128, .inr (.inl gf)))] t.heap ∧ va_D (va_A [(h0, .inr (0, [.ref h0l, .int (nI u)])), (h0l, .inl (cJ, 128, .inr (.inl f)))] sz) [(h0, .inr (0, [.ref h0l, .int (nI gu)])), (h0l, .inl (cJ, 128, .inr (.inl gf)))]) (va_A [(h0, .inr (0, [.ref h0l, .int (nI u)])), (h0l, .inl (cJ, 128, .inr (.inl f)))] sz)) 0 0 (va_A [(h0, .inr (0, [.ref h0l, .int (nI u)])), (h0l, .inl (cJ, 128, .inr (.inl f)))] sz) := by
  refine Met.ofW (cc := cX0_trim) (maxL := 2) (ret := none) (by decide) rfl ?_
  intro p e s m args below meth c s₁ B hml hv
  obtain ⟨rfl, hsz, hP, hK, hD0, hN⟩ := hv
  subst hsz
  have hx := B.exec
  have hb := B.bytes
  have hr := B.returns
  have hts := atoms_spec (ws := wsX0_trim) B.pre
  have hown : s.vm.findClass RX0 = some m.cls := findClass_of_methodNamed B.named
  have hlocks := B.notSynchronized
  have hD := hD0.self (sz := s.heap.size)
  generalize hAe : va_A [(h0, .inr (0, [.ref h0l, .int (nI u)])), (h0l, .inl (cJ, 128, .inr (.inl f)))] s.heap.size = A at hD ⊢
  have hA : ∀ q : Nat, s.heap.size ≤ q → A q := fun q h => by rw [← hAe]; exact Or.inr h
  have hS : va_S A s.heap s.heap [] := va_S.rf
  have hiX0 : ∀ w ∈ u_ws RX0 TX0 2, w ∈ wsX0_trim := by decide +kernel
  have hl := lv_entry ([.ref h0]) (n := 2) (Nat.le_of_ble_eq_true rfl)
  rw [lg_entry_eq]
  generalize (lg_sl ([.ref h0]) ++ List.replicate (2 - (lg_sl ([.ref h0])).length) Slot.unset).toArray = ls at hl ⊢
  have hl : lv_has ls 2 [(0, .ref h0)] := hl
  refine lv_aload_n hx hb dX0_trim_0 rfl (lv_at hl 0 rfl) ?_
  refine va_get (D := (dC, dI)) (ci := 0) (v := .int (nI u)) (C := RX0) (T := TX0) (N := 2) hx hb hts hiX0 hown hK hP 0 rfl rfl 1 (by decide) (hts (.fieldLink RX0 13 "MadeItSo$Big" "used" "I") (by decide +kernel)) (fun _ h9 => h9) rfl dX0_trim_1 ?_
  refine lv_iconst (v := 1) hx hb dX0_trim_4 (by decide +kernel) ?_
  refine lv_isub hx hb dX0_trim_5 ?_
  refine lv_topi (fun v_5 ev_5 => ?_)
  refine lv_istore_n (lv' := [(1, .int v_5), (0, .ref h0)]) hx hb dX0_trim_6 rfl hl (by decide) rfl (fun ls hl => ?_)
  refine mz_loopU (fun k H locs ls => ∃ (x1_7 : Int32), ∃ (nh01_7 : Nat), (x1_7 = -1 ∨ ∃ j : Nat, j < 128 ∧ x1_7 = nI j) ∧ (nh01_7 ≤ 128) ∧ va_P (dC, dI) vwCl [(h0, .inr (0, [.ref h0l, .int (nI nh01_7)])), (h0l, .inl (cJ, 128, .inr (.inl f)))] H ∧ va_D A [(h0, .inr (0, [.ref h0l, .int (nI nh01_7)])), (h0l, .inl (cJ, 128, .inr (.inl f)))] ∧ va_S A s.heap H locs ∧ lv_has ls 2 [(1, .int x1_7), (0, .ref h0)] ∧ k = (x1_7.toInt + 1).toNat) ?_ _ _ _ _ ⟨v_5, u, mz_sub1 (by omega) ev_5, (by first | assumption | omega), hP, hD, hS, lv_sub hl [0, 1] rfl, rfl⟩
  intro k_7 H locs ls hI_7 ih_7
  obtain ⟨x1_7, nh01_7, hx_7, hu_7, hP, hD, hS, hl, hk_7⟩ := hI_7
  refine lv_iload_n hx hb dX0_trim_7 rfl (lv_at hl 0 rfl) ?_
  refine lv_if_lt (tgt := 33) hx hb dX0_trim_8 (by decide) (fun c_8 => ?_) (fun c_8 => ?_)
  · skip
    have hP9 := hP.sub (ws' := [(h0, .inr (0, [.ref h0l, .int (nI nh01_7)])), (h0l, .inl (cJ, 128, .inr (.inl f)))]) [0, 1] rfl
    have hD9 := hD.sub (ws' := [(h0, .inr (0, [.ref h0l, .int (nI nh01_7)])), (h0l, .inl (cJ, 128, .inr (.inl f)))]) [0, 1] (by decide) rfl
    refine W.widen (k := 0) (n := 0) (Nat.le_of_ble_eq_true rfl) (Nat.le_of_ble_eq_true rfl) ?_
    exact W.vret hx hb hr (fun t ht hW => ⟨⟨(), rfl, trivial, nh01_7, f, (by first | assumption | omega), by rw [ht]; exact hP9, hD9⟩, hS.F ht⟩) hS.2.2 dX0_trim_33
  · skip
    rcases hx_7 with h_11 | ⟨j_11, hj_11, h_11⟩
    · exact absurd (show x1_7 < 0 by rw [h_11]; decide) c_8
    subst h_11
    refine lv_aload_n hx hb dX0_trim_11 rfl (lv_at hl 1 rfl) ?_
    refine va_get (D := (dC, dI)) (ci := 0) (v := .ref h0l) (C := RX0) (T := TX0) (N := 2) hx hb hts hiX0 hown hK hP 0 rfl rfl 0 (by decide) (hts (.fieldLink RX0 9 "MadeItSo$Big" "limbs" "[J") (by decide +kernel)) (fun _ h9 => h9) rfl dX0_trim_12 ?_
    refine lv_iload_n hx hb dX0_trim_15 rfl (lv_at hl 0 rfl) ?_
    refine va_lald hx hb hK hP 1 1 rfl rfl (vp_in_nI (by omega) (by omega)) dX0_trim_16 ?_
    refine lv_topl (fun v_16 ev_16 => ?_)
    refine lv_lconst (v := 0) hx hb dX0_trim_17 (by decide +kernel) ?_
    refine W.lcmp hx hb dX0_trim_18 ?_
    refine lv_if_ne (tgt := 33) hx hb dX0_trim_19 (by decide) (fun c_19 => ?_) (fun c_19 => ?_)
    · skip
      have d_19 := mz_lc0 c_19
      have hP9 := hP.sub (ws' := [(h0, .inr (0, [.ref h0l, .int (nI nh01_7)])), (h0l, .inl (cJ, 128, .inr (.inl f)))]) [0, 1] rfl
      have hD9 := hD.sub (ws' := [(h0, .inr (0, [.ref h0l, .int (nI nh01_7)])), (h0l, .inl (cJ, 128, .inr (.inl f)))]) [0, 1] (by decide) rfl
      refine W.widen (k := 0) (n := 0) (Nat.le_of_ble_eq_true rfl) (Nat.le_of_ble_eq_true rfl) ?_
      exact W.vret hx hb hr (fun t ht hW => ⟨⟨(), rfl, trivial, nh01_7, f, (by first | assumption | omega), by rw [ht]; exact hP9, hD9⟩, hS.F ht⟩) hS.2.2 dX0_trim_33
    · skip
      have d_19 := mz_lc1 c_19
      refine lv_aload_n hx hb dX0_trim_22 rfl (lv_at hl 1 rfl) ?_
      refine lv_iload_n hx hb dX0_trim_23 rfl (lv_at hl 0 rfl) ?_
      refine va_put (D := (dC, dI)) (ci := 0) (v := .int (nI j_11)) (ty := .int) (C := RX0) (T := TX0) (N := 2) hx hb hts hiX0 tyX0 tyX0_ok nmX0 hown hK hP hD hS 0 rfl rfl 1 (by decide) (hts (.fieldLink RX0 13 "MadeItSo$Big" "used" "I") (by decide +kernel)) (fun _ h9 => h9) rfl (by decide +kernel) rfl rfl (Nat.le_of_ble_eq_true rfl) dX0_trim_24 (fun H locs hP hD hS => ?_)
      have hP : va_P (dC, dI) vwCl [(h0, .inr (0, [.ref h0l, .int (nI j_11)])), (h0l, .inl (cJ, 128, .inr (.inl f)))] H := hP
      have hD : va_D A [(h0, .inr (0, [.ref h0l, .int (nI j_11)])), (h0l, .inl (cJ, 128, .inr (.inl f)))] := hD
      obtain ⟨v_27, ev_27⟩ : ∃ y : Int32, y = (nI j_11) + Int32.ofInt (-1) := ⟨_, rfl⟩
      refine lv_iinc (v := v_27) (lv' := [(1, .int v_27), (0, .ref h0)]) hx hb dX0_trim_27 hl (k := 0) rfl ev_27.symm (by decide) rfl (fun ls hl => ?_)
      refine lv_goto (tgt := 7) hx hb dX0_trim_30 (by decide) ?_
      exact ih_7 _ (by rw [hk_7]; exact mz_preds hj_11 ev_27) _ _ _ ⟨v_27, j_11, (mz_pred hj_11 ev_27), (by first | assumption | omega), hP, hD, hS, lv_sub hl [0, 1] rfl, rfl⟩
set_option maxHeartbeats 1000000 in
set_option maxRecDepth 100000 in
theorem mz_t_becomeDigit (l : Launch) (dC : Nat → ClassId) (dI : Nat → Nat → Nat) (cI cJ cZ : ClassId) (h0 : Nat) (h0l : Nat) (u : Nat) (f : Nat → Int64) (p0 : Int32) (sz : Nat) (hu : u ≤ 128) : Met l yX0_becomeDigit wsX0_becomeDigit ({ frames := 1, cells := 0, slots := 0, locals := 21 }) (va_Pc [.ref h0, .int p0] (fun U => U.heap.size = sz ∧ va_P (dC, dI) vwCl [(h0, .inr (0, [.ref h0l, .int (nI u)])), (h0l, .inl (cJ, 128, .inr (.inl f)))] U.heap ∧ va_K (dC, dI) vwCl [(cI, FieldType.int), (cJ, FieldType.long), (cZ, FieldType.boolean)] U ∧ va_D (fun _ => True) [(h0, .inr (0, [.ref h0l, .int (nI u)])), (h0l, .inl (cJ, 128, .inr (.inl f)))] ∧ mz_N U)) (va_Qv (fun (_ : Unit) => True) (fun _ t => ∃ (gu : Nat), ∃ (gf : Nat → Int64), (gu ≤ 128) ∧ va_P (dC, dI) vwCl [(h0, .inr (0, [.ref h0l, .int (nI gu)])), (h0l, .inl (cJ, 128, .inr (.inl gf)))] t.heap ∧ va_D (va_A [(h0, .inr (0, [.ref h0l, .int (nI u)])), (h0l, .inl (cJ, 128, .inr (.inl f)))] sz) [(h0, .inr (0, [.ref h0l, .int (nI gu)])), (h0l, .inl (cJ, 128, .inr (.inl gf)))]) (va_A [(h0, .inr (0, [.ref h0l, .int (nI u)])), (h0l, .inl (cJ, 128, .inr (.inl f)))] sz)) 0 0 (va_A [(h0, .inr (0, [.ref h0l, .int (nI u)])), (h0l, .inl (cJ, 128, .inr (.inl f)))] sz) := by
  refine Met.ofW (cc := cX0_becomeDigit) (maxL := 3) (ret := none) (by decide) rfl ?_
  intro p e s m args below meth c s₁ B hml hv
  obtain ⟨rfl, hsz, hP, hK, hD0, hN⟩ := hv
  subst hsz
  have hx := B.exec
  have hb := B.bytes
  have hr := B.returns
  have hts := atoms_spec (ws := wsX0_becomeDigit) B.pre
  have hown : s.vm.findClass RX0 = some m.cls := findClass_of_methodNamed B.named
  have hlocks := B.notSynchronized
  have hD := hD0.self (sz := s.heap.size)
  generalize hAe : va_A [(h0, .inr (0, [.ref h0l, .int (nI u)])), (h0l, .inl (cJ, 128, .inr (.inl f)))] s.heap.size = A at hD ⊢
  have hA : ∀ q : Nat, s.heap.size ≤ q → A q := fun q h => by rw [← hAe]; exact Or.inr h
  have hS : va_S A s.heap s.heap [] := va_S.rf
  have hiX0 : ∀ w ∈ u_ws RX0 TX0 2, w ∈ wsX0_becomeDigit := by decide +kernel
  have hl := lv_entry ([.ref h0, .int p0]) (n := 3) (Nat.le_of_ble_eq_true rfl)
  rw [lg_entry_eq]
  generalize (lg_sl ([.ref h0, .int p0]) ++ List.replicate (3 - (lg_sl ([.ref h0, .int p0])).length) Slot.unset).toArray = ls at hl ⊢
  have hl : lv_has ls 3 [(0, .ref h0), (1, .int p0)] := hl
  refine lv_iconst (v := 1) hx hb dX0_becomeDigit_0 (by decide +kernel) ?_
  refine lv_istore_n (lv' := [(2, .int 1), (0, .ref h0), (1, .int p0)]) hx hb dX0_becomeDigit_1 rfl hl (by decide) rfl (fun ls hl => ?_)
  refine mz_loopU (fun k H locs ls => ∃ (i_2 : Nat), ∃ (fh0l_2 : Nat → Int64), i_2 ≤ 129 ∧ va_P (dC, dI) vwCl [(h0, .inr (0, [.ref h0l, .int (nI u)])), (h0l, .inl (cJ, 128, .inr (.inl fh0l_2)))] H ∧ va_D A [(h0, .inr (0, [.ref h0l, .int (nI u)])), (h0l, .inl (cJ, 128, .inr (.inl fh0l_2)))] ∧ va_S A s.heap H locs ∧ lv_has ls 3 [(2, .int (nI i_2)), (0, .ref h0), (1, .int p0)] ∧ k = 129 - i_2) ?_ _ _ _ _ ⟨1, f, by omega, hP, hD, hS, lv_sub hl [0, 1, 2] rfl, rfl⟩
  intro k_2 H locs ls hI_2 ih_2
  obtain ⟨i_2, fh0l_2, hi_2, hP, hD, hS, hl, hk_2⟩ := hI_2
  refine lv_iload_n hx hb dX0_becomeDigit_2 rfl (lv_at hl 0 rfl) ?_
  refine lv_aload_n hx hb dX0_becomeDigit_3 rfl (lv_at hl 1 rfl) ?_
  refine va_get (D := (dC, dI)) (ci := 0) (v := .int (nI u)) (C := RX0) (T := TX0) (N := 2) hx hb hts hiX0 hown hK hP 0 rfl rfl 1 (by decide) (hts (.fieldLink RX0 13 "MadeItSo$Big" "used" "I") (by decide +kernel)) (fun _ h9 => h9) rfl dX0_becomeDigit_4 ?_
  refine lv_icmp_ge (tgt := 23) hx hb dX0_becomeDigit_7 (by decide) (fun c_7 => ?_) (fun c_7 => ?_)
  · skip
    have d_7 : u ≤ i_2 := (nI_leI (a := u) (b := i_2) (by omega) (by omega)).mp c_7
    refine lv_aload_n hx hb dX0_becomeDigit_23 rfl (lv_at hl 1 rfl) ?_
    refine va_get (D := (dC, dI)) (ci := 0) (v := .ref h0l) (C := RX0) (T := TX0) (N := 2) hx hb hts hiX0 hown hK hP 0 rfl rfl 0 (by decide) (hts (.fieldLink RX0 9 "MadeItSo$Big" "limbs" "[J") (by decide +kernel)) (fun _ h9 => h9) rfl dX0_becomeDigit_24 ?_
    refine lv_iconst (v := 0) hx hb dX0_becomeDigit_27 (by decide +kernel) ?_
    refine lv_iload_n hx hb dX0_becomeDigit_28 rfl (lv_at hl 2 rfl) ?_
    refine lv_i2l hx hb dX0_becomeDigit_29 rfl ?_
    refine lv_topl (fun v_29 ev_29 => ?_)
    refine va_last hx hb hK hP hD hS 1 1 rfl rfl (mz_in (by decide +kernel)) dX0_becomeDigit_30 (fun H locs hP hD hS => ?_)
    have hP : va_P (dC, dI) vwCl [(h0, .inr (0, [.ref h0l, .int (nI u)])), (h0l, .inl (cJ, 128, .inr (.inl (vp_updL fh0l_2 (0 : Int32).toNatClampNeg v_29))))] H := hP
    have hD : va_D A [(h0, .inr (0, [.ref h0l, .int (nI u)])), (h0l, .inl (cJ, 128, .inr (.inl (vp_updL fh0l_2 (0 : Int32).toNatClampNeg v_29))))] := hD
    generalize (vp_updL fh0l_2 (0 : Int32).toNatClampNeg v_29) = f_30 at hP hD
    refine lv_aload_n hx hb dX0_becomeDigit_31 rfl (lv_at hl 1 rfl) ?_
    refine lv_iconst (v := 1) hx hb dX0_becomeDigit_32 (by decide +kernel) ?_
    refine va_put (D := (dC, dI)) (ci := 0) (v := .int 1) (ty := .int) (C := RX0) (T := TX0) (N := 2) hx hb hts hiX0 tyX0 tyX0_ok nmX0 hown hK hP hD hS 0 rfl rfl 1 (by decide) (hts (.fieldLink RX0 13 "MadeItSo$Big" "used" "I") (by decide +kernel)) (fun _ h9 => h9) rfl (by decide +kernel) rfl rfl (Nat.le_of_ble_eq_true rfl) dX0_becomeDigit_33 (fun H locs hP hD hS => ?_)
    have hP : va_P (dC, dI) vwCl [(h0, .inr (0, [.ref h0l, .int 1])), (h0l, .inl (cJ, 128, .inr (.inl f_30)))] H := hP
    have hD : va_D A [(h0, .inr (0, [.ref h0l, .int 1])), (h0l, .inl (cJ, 128, .inr (.inl f_30)))] := hD
    refine lv_aload_n hx hb dX0_becomeDigit_36 rfl (lv_at hl 1 rfl) ?_
    have hPc := hP.sub (ws' := [(h0, .inr (0, [.ref h0l, .int 1])), (h0l, .inl (cJ, 128, .inr (.inl f_30)))]) [0, 1] rfl
    have hDc := hD.sub (ws' := [(h0, .inr (0, [.ref h0l, .int 1])), (h0l, .inl (cJ, 128, .inr (.inl f_30)))]) [0, 1] (by decide) rfl
    have hFc := va_free (wc := [(h0, .inr (0, [.ref h0l, .int 1])), (h0l, .inl (cJ, 128, .inr (.inl f_30)))]) hD hS hA [0, 1] rfl
    refine va_callv (va_runV (As := []) (rest := []) ⟨hx, hb, hml, hown, hts⟩ (mz_t_trim l dC dI cI cJ cZ h0 h0l 1 f_30 H.size (by first | assumption | omega)) (cwV 0 hts gX0_becomeDigit_X0_trim rfl rfl rfl (by decide +kernel) ⟨Nat.le_of_ble_eq_true rfl, Nat.le_of_ble_eq_true rfl⟩) ⟨fun a U g mk q => mz_blI q, va_recv hK hPc (ci := 0) (q0 := 0) rfl rfl, fun U hU hW => ⟨rfl, by rw [hU], by rw [hU]; exact hPc, va_K.moved hW.alike hK, hDc.weaken (fun _ _ _ _ => trivial), mz_nw hW hN⟩⟩ rfl rfl hl.1 rfl (lv_room (Nat.le_of_ble_eq_true rfl)) dX0_becomeDigit_37 ⟨Nat.le_of_ble_eq_true rfl, Nat.le_of_ble_eq_true rfl⟩) hS (fun q _ h => hFc q h) hFc (fun u t H1 locs ht hvm hw_37 hB hz1 hk1 hS => ?_)
    obtain ⟨gu_37, gf_37, hx0_37, hP1, hD1⟩ := hB
    rw [ht] at hP1
    obtain ⟨hP, hD⟩ := va_join (wr := []) (w1 := [(h0, .inr (0, [.ref h0l, .int (nI gu_37)])), (h0l, .inl (cJ, 128, .inr (.inl gf_37)))]) hP hD [0, 1] [] rfl rfl (by decide) (by decide) hk1 hFc hP1 hD1
    generalize H1 = H at hP hS ⊢
    have hP : va_P (dC, dI) vwCl [(h0, .inr (0, [.ref h0l, .int (nI gu_37)])), (h0l, .inl (cJ, 128, .inr (.inl gf_37)))] H := hP
    have hD : va_D A [(h0, .inr (0, [.ref h0l, .int (nI gu_37)])), (h0l, .inl (cJ, 128, .inr (.inl gf_37)))] := hD
    have hP9 := hP.sub (ws' := [(h0, .inr (0, [.ref h0l, .int (nI gu_37)])), (h0l, .inl (cJ, 128, .inr (.inl gf_37)))]) [0, 1] rfl
    have hD9 := hD.sub (ws' := [(h0, .inr (0, [.ref h0l, .int (nI gu_37)])), (h0l, .inl (cJ, 128, .inr (.inl gf_37)))]) [0, 1] (by decide) rfl
    refine W.widen (k := 0) (n := 0) (Nat.le_of_ble_eq_true rfl) (Nat.le_of_ble_eq_true rfl) ?_
    exact W.vret hx hb hr (fun t ht hW => ⟨⟨(), rfl, trivial, gu_37, gf_37, (by first | assumption | omega), by rw [ht]; exact hP9, hD9⟩, hS.F ht⟩) hS.2.2 dX0_becomeDigit_40
  · skip
    have d_7 : ¬ u ≤ i_2 := fun h => c_7 ((nI_leI (a := u) (b := i_2) (by omega) (by omega)).mpr h)
    refine lv_aload_n hx hb dX0_becomeDigit_10 rfl (lv_at hl 1 rfl) ?_
    refine va_get (D := (dC, dI)) (ci := 0) (v := .ref h0l) (C := RX0) (T := TX0) (N := 2) hx hb hts hiX0 hown hK hP 0 rfl rfl 0 (by decide) (hts (.fieldLink RX0 9 "MadeItSo$Big" "limbs" "[J") (by decide +kernel)) (fun _ h9 => h9) rfl dX0_becomeDigit_11 ?_
    refine lv_iload_n hx hb dX0_becomeDigit_14 rfl (lv_at hl 0 rfl) ?_
    refine lv_lconst (v := 0) hx hb dX0_becomeDigit_15 (by decide +kernel) ?_
    refine va_last hx hb hK hP hD hS 1 1 rfl rfl (vp_in_nI (by omega) (by omega)) dX0_becomeDigit_16 (fun H locs hP hD hS => ?_)
    have hP : va_P (dC, dI) vwCl [(h0, .inr (0, [.ref h0l, .int (nI u)])), (h0l, .inl (cJ, 128, .inr (.inl (vp_updL fh0l_2 ((nI i_2) : Int32).toNatClampNeg 0))))] H := hP
    have hD : va_D A [(h0, .inr (0, [.ref h0l, .int (nI u)])), (h0l, .inl (cJ, 128, .inr (.inl (vp_updL fh0l_2 ((nI i_2) : Int32).toNatClampNeg 0))))] := hD
    generalize (vp_updL fh0l_2 ((nI i_2) : Int32).toNatClampNeg 0) = f_16 at hP hD
    refine lv_iinc (v := (nI (i_2 + 1))) (lv' := [(2, .int (nI (i_2 + 1))), (0, .ref h0), (1, .int p0)]) hx hb dX0_becomeDigit_17 hl (k := 0) rfl (nI_1 _) (by decide) rfl (fun ls hl => ?_)
    refine lv_goto (tgt := 2) hx hb dX0_becomeDigit_20 (by decide) ?_
    exact ih_2 _ (by omega) _ _ _ ⟨(i_2 + 1), f_16, by omega, hP, hD, hS, lv_sub hl [0, 1, 2] rfl, rfl⟩
set_option maxHeartbeats 1000000 in
set_option maxRecDepth 100000 in
theorem mz_t_become (l : Launch) (dC : Nat → ClassId) (dI : Nat → Nat → Nat) (cI cJ cZ : ClassId) (h0 : Nat) (h0l : Nat) (u : Nat) (f : Nat → Int64) (h1 : Nat) (h1l : Nat) (v : Nat) (f1 : Nat → Int64) (sz : Nat) (hu : u ≤ 128) (hv9 : v ≤ 128) : Met l yX0_become wsX0_become ({ frames := 1, cells := 0, slots := 0, locals := 13 }) (va_Pc [.ref h0, .ref h1] (fun U => U.heap.size = sz ∧ va_P (dC, dI) vwCl [(h0, .inr (0, [.ref h0l, .int (nI u)])), (h0l, .inl (cJ, 128, .inr (.inl f))), (h1, .inr (0, [.ref h1l, .int (nI v)])), (h1l, .inl (cJ, 128, .inr (.inl f1)))] U.heap ∧ va_K (dC, dI) vwCl [(cI, FieldType.int), (cJ, FieldType.long), (cZ, FieldType.boolean)] U ∧ va_D (fun _ => True) [(h0, .inr (0, [.ref h0l, .int (nI u)])), (h0l, .inl (cJ, 128, .inr (.inl f))), (h1, .inr (0, [.ref h1l, .int (nI v)])), (h1l, .inl (cJ, 128, .inr (.inl f1)))] ∧ mz_N U)) (va_Qv (fun (_ : Unit) => True) (fun _ t => ∃ (gf : Nat → Int64), va_P (dC, dI) vwCl [(h0, .inr (0, [.ref h0l, .int (nI v)])), (h0l, .inl (cJ, 128, .inr (.inl gf))), (h1, .inr (0, [.ref h1l, .int (nI v)])), (h1l, .inl (cJ, 128, .inr (.inl f1)))] t.heap ∧ va_D (va_A [(h0, .inr (0, [.ref h0l, .int (nI u)])), (h0l, .inl (cJ, 128, .inr (.inl f))), (h1, .inr (0, [.ref h1l, .int (nI v)])), (h1l, .inl (cJ, 128, .inr (.inl f1)))] sz) [(h0, .inr (0, [.ref h0l, .int (nI v)])), (h0l, .inl (cJ, 128, .inr (.inl gf))), (h1, .inr (0, [.ref h1l, .int (nI v)])), (h1l, .inl (cJ, 128, .inr (.inl f1)))]) (va_A [(h0, .inr (0, [.ref h0l, .int (nI u)])), (h0l, .inl (cJ, 128, .inr (.inl f))), (h1, .inr (0, [.ref h1l, .int (nI v)])), (h1l, .inl (cJ, 128, .inr (.inl f1)))] sz)) 0 0 (va_A [(h0, .inr (0, [.ref h0l, .int (nI u)])), (h0l, .inl (cJ, 128, .inr (.inl f))), (h1, .inr (0, [.ref h1l, .int (nI v)])), (h1l, .inl (cJ, 128, .inr (.inl f1)))] sz) := by
  refine Met.ofW (cc := cX0_become) (maxL := 4) (ret := none) (by decide) rfl ?_
  intro p e s m args below meth c s₁ B hml hv
  obtain ⟨rfl, hsz, hP, hK, hD0, hN⟩ := hv
  subst hsz
  have hx := B.exec
  have hb := B.bytes
  have hr := B.returns
  have hts := atoms_spec (ws := wsX0_become) B.pre
  have hown : s.vm.findClass RX0 = some m.cls := findClass_of_methodNamed B.named
  have hlocks := B.notSynchronized
  have hD := hD0.self (sz := s.heap.size)
  generalize hAe : va_A [(h0, .inr (0, [.ref h0l, .int (nI u)])), (h0l, .inl (cJ, 128, .inr (.inl f))), (h1, .inr (0, [.ref h1l, .int (nI v)])), (h1l, .inl (cJ, 128, .inr (.inl f1)))] s.heap.size = A at hD ⊢
  have hA : ∀ q : Nat, s.heap.size ≤ q → A q := fun q h => by rw [← hAe]; exact Or.inr h
  have hS : va_S A s.heap s.heap [] := va_S.rf
  have hiX0 : ∀ w ∈ u_ws RX0 TX0 2, w ∈ wsX0_become := by decide +kernel
  have hl := lv_entry ([.ref h0, .ref h1]) (n := 4) (Nat.le_of_ble_eq_true rfl)
  rw [lg_entry_eq]
  generalize (lg_sl ([.ref h0, .ref h1]) ++ List.replicate (4 - (lg_sl ([.ref h0, .ref h1])).length) Slot.unset).toArray = ls at hl ⊢
  have hl : lv_has ls 4 [(0, .ref h0), (1, .ref h1)] := hl
  refine lv_aload_n hx hb dX0_become_0 rfl (lv_at hl 0 rfl) ?_
  refine va_get (D := (dC, dI)) (ci := 0) (v := .int (nI u)) (C := RX0) (T := TX0) (N := 2) hx hb hts hiX0 hown hK hP 0 rfl rfl 1 (by decide) (hts (.fieldLink RX0 13 "MadeItSo$Big" "used" "I") (by decide +kernel)) (fun _ h9 => h9) rfl dX0_become_1 ?_
  refine lv_aload_n hx hb dX0_become_4 rfl (lv_at hl 1 rfl) ?_
  refine va_get (D := (dC, dI)) (ci := 0) (v := .int (nI v)) (C := RX0) (T := TX0) (N := 2) hx hb hts hiX0 hown hK hP 2 rfl rfl 1 (by decide) (hts (.fieldLink RX0 13 "MadeItSo$Big" "used" "I") (by decide +kernel)) (fun _ h9 => h9) rfl dX0_become_5 ?_
  refine va_mmax hx hb (by rw [hml]; exact hl.1.symm) hown (hts (.methodLink RX0 20 Lib.Math.max.name) (by decide +kernel)) (hts (.static Lib.Math.max.name) (by decide +kernel)) (hts (.initialized "java/lang/Math") (by decide +kernel)) (hts (.code Lib.Math.max.name Lib.Math.max.code 2 (some .int)) (by decide +kernel)) (Nat.le_of_ble_eq_true rfl) (Nat.le_of_ble_eq_true rfl) (Nat.le_of_ble_eq_true rfl) (Nat.le_of_ble_eq_true rfl) dX0_become_8 ?_
  refine mz_ti (y := (nI (max u v))) (mz_max (a := u) (b := v) (by omega) (by omega)) ?_
  refine lv_istore_n (lv' := [(2, .int (nI (max u v))), (0, .ref h0), (1, .ref h1)]) hx hb dX0_become_11 rfl hl (by decide) rfl (fun ls hl => ?_)
  refine lv_iconst (v := 0) hx hb dX0_become_12 (by decide +kernel) ?_
  refine lv_istore_n (lv' := [(3, .int 0), (2, .int (nI (max u v))), (0, .ref h0), (1, .ref h1)]) hx hb dX0_become_13 rfl hl (by decide) rfl (fun ls hl => ?_)
  refine mz_loopU (fun k H locs ls => ∃ (i_14 : Nat), ∃ (fh0l_14 : Nat → Int64), i_14 ≤ 128 ∧ va_P (dC, dI) vwCl [(h0, .inr (0, [.ref h0l, .int (nI u)])), (h0l, .inl (cJ, 128, .inr (.inl fh0l_14))), (h1, .inr (0, [.ref h1l, .int (nI v)])), (h1l, .inl (cJ, 128, .inr (.inl f1)))] H ∧ va_D A [(h0, .inr (0, [.ref h0l, .int (nI u)])), (h0l, .inl (cJ, 128, .inr (.inl fh0l_14))), (h1, .inr (0, [.ref h1l, .int (nI v)])), (h1l, .inl (cJ, 128, .inr (.inl f1)))] ∧ va_S A s.heap H locs ∧ lv_has ls 4 [(3, .int (nI i_14)), (2, .int (nI (max u v))), (0, .ref h0), (1, .ref h1)] ∧ k = 128 - i_14) ?_ _ _ _ _ ⟨0, f, by omega, hP, hD, hS, lv_sub hl [0, 1, 2, 3] rfl, rfl⟩
  intro k_14 H locs ls hI_14 ih_14
  obtain ⟨i_14, fh0l_14, hi_14, hP, hD, hS, hl, hk_14⟩ := hI_14
  refine lv_iload_n hx hb dX0_become_14 rfl (lv_at hl 0 rfl) ?_
  refine lv_iload_n hx hb dX0_become_15 rfl (lv_at hl 1 rfl) ?_
  refine lv_icmp_ge (tgt := 37) hx hb dX0_become_16 (by decide) (fun c_16 => ?_) (fun c_16 => ?_)
  · skip
    have d_16 : (max u v) ≤ i_14 := (nI_leI (a := (max u v)) (b := i_14) (by omega) (by omega)).mp c_16
    refine lv_aload_n hx hb dX0_become_37 rfl (lv_at hl 2 rfl) ?_
    refine lv_aload_n hx hb dX0_become_38 rfl (lv_at hl 3 rfl) ?_
    refine va_get (D := (dC, dI)) (ci := 0) (v := .int (nI v)) (C := RX0) (T := TX0) (N := 2) hx hb hts hiX0 hown hK hP 2 rfl rfl 1 (by decide) (hts (.fieldLink RX0 13 "MadeItSo$Big" "used" "I") (by decide +kernel)) (fun _ h9 => h9) rfl dX0_become_39 ?_
    refine va_put (D := (dC, dI)) (ci := 0) (v := .int (nI v)) (ty := .int) (C := RX0) (T := TX0) (N := 2) hx hb hts hiX0 tyX0 tyX0_ok nmX0 hown hK hP hD hS 0 rfl rfl 1 (by decide) (hts (.fieldLink RX0 13 "MadeItSo$Big" "used" "I") (by decide +kernel)) (fun _ h9 => h9) rfl (by decide +kernel) rfl rfl (Nat.le_of_ble_eq_true rfl) dX0_become_42 (fun H locs hP hD hS => ?_)
    have hP : va_P (dC, dI) vwCl [(h0, .inr (0, [.ref h0l, .int (nI v)])), (h0l, .inl (cJ, 128, .inr (.inl fh0l_14))), (h1, .inr (0, [.ref h1l, .int (nI v)])), (h1l, .inl (cJ, 128, .inr (.inl f1)))] H := hP
    have hD : va_D A [(h0, .inr (0, [.ref h0l, .int (nI v)])), (h0l, .inl (cJ, 128, .inr (.inl fh0l_14))), (h1, .inr (0, [.ref h1l, .int (nI v)])), (h1l, .inl (cJ, 128, .inr (.inl f1)))] := hD
    have hP9 := hP.sub (ws' := [(h0, .inr (0, [.ref h0l, .int (nI v)])), (h0l, .inl (cJ, 128, .inr (.inl fh0l_14))), (h1, .inr (0, [.ref h1l, .int (nI v)])), (h1l, .inl (cJ, 128, .inr (.inl f1)))]) [0, 1, 2, 3] rfl
    have hD9 := hD.sub (ws' := [(h0, .inr (0, [.ref h0l, .int (nI v)])), (h0l, .inl (cJ, 128, .inr (.inl fh0l_14))), (h1, .inr (0, [.ref h1l, .int (nI v)])), (h1l, .inl (cJ, 128, .inr (.inl f1)))]) [0, 1, 2, 3] (by decide) rfl
    refine W.widen (k := 0) (n := 0) (Nat.le_of_ble_eq_true rfl) (Nat.le_of_ble_eq_true rfl) ?_
    exact W.vret hx hb hr (fun t ht hW => ⟨⟨(), rfl, trivial, fh0l_14, by rw [ht]; exact hP9, hD9⟩, hS.F ht⟩) hS.2.2 dX0_become_45
  · skip
    have d_16 : ¬ (max u v) ≤ i_14 := fun h => c_16 ((nI_leI (a := (max u v)) (b := i_14) (by omega) (by omega)).mpr h)
    refine lv_aload_n hx hb dX0_become_19 rfl (lv_at hl 2 rfl) ?_
    refine va_get (D := (dC, dI)) (ci := 0) (v := .ref h0l) (C := RX0) (T := TX0) (N := 2) hx hb hts hiX0 hown hK hP 0 rfl rfl 0 (by decide) (hts (.fieldLink RX0 9 "MadeItSo$Big" "limbs" "[J") (by decide +kernel)) (fun _ h9 => h9) rfl dX0_become_20 ?_
    refine lv_iload_n hx hb dX0_become_23 rfl (lv_at hl 0 rfl) ?_
    refine lv_aload_n hx hb dX0_become_24 rfl (lv_at hl 3 rfl) ?_
    refine va_get (D := (dC, dI)) (ci := 0) (v := .ref h1l) (C := RX0) (T := TX0) (N := 2) hx hb hts hiX0 hown hK hP 2 rfl rfl 0 (by decide) (hts (.fieldLink RX0 9 "MadeItSo$Big" "limbs" "[J") (by decide +kernel)) (fun _ h9 => h9) rfl dX0_become_25 ?_
    refine lv_iload_n hx hb dX0_become_28 rfl (lv_at hl 0 rfl) ?_
    refine va_lald hx hb hK hP 3 1 rfl rfl (vp_in_nI (by omega) (by omega)) dX0_become_29 ?_
    refine lv_topl (fun v_29 ev_29 => ?_)
    refine va_last hx hb hK hP hD hS 1 1 rfl rfl (vp_in_nI (by omega) (by omega)) dX0_become_30 (fun H locs hP hD hS => ?_)
    have hP : va_P (dC, dI) vwCl [(h0, .inr (0, [.ref h0l, .int (nI u)])), (h0l, .inl (cJ, 128, .inr (.inl (vp_updL fh0l_14 ((nI i_14) : Int32).toNatClampNeg v_29)))), (h1, .inr (0, [.ref h1l, .int (nI v)])), (h1l, .inl (cJ, 128, .inr (.inl f1)))] H := hP
    have hD : va_D A [(h0, .inr (0, [.ref h0l, .int (nI u)])), (h0l, .inl (cJ, 128, .inr (.inl (vp_updL fh0l_14 ((nI i_14) : Int32).toNatClampNeg v_29)))), (h1, .inr (0, [.ref h1l, .int (nI v)])), (h1l, .inl (cJ, 128, .inr (.inl f1)))] := hD
    generalize (vp_updL fh0l_14 ((nI i_14) : Int32).toNatClampNeg v_29) = f_30 at hP hD
    refine lv_iinc (v := (nI (i_14 + 1))) (lv' := [(3, .int (nI (i_14 + 1))), (2, .int (nI (max u v))), (0, .ref h0), (1, .ref h1)]) hx hb dX0_become_31 hl (k := 0) rfl (nI_1 _) (by decide) rfl (fun ls hl => ?_)
    refine lv_goto (tgt := 14) hx hb dX0_become_34 (by decide) ?_
    exact ih_14 _ (by omega) _ _ _ ⟨(i_14 + 1), f_30, by omega, hP, hD, hS, lv_sub hl [0, 1, 2, 3] rfl, rfl⟩
set_option maxHeartbeats 1000000 in
set_option maxRecDepth 100000 in
theorem mz_t_times (l : Launch) (dC : Nat → ClassId) (dI : Nat → Nat → Nat) (cI cJ cZ : ClassId) (h0 : Nat) (h0l : Nat) (u : Nat) (f : Nat → Int64) (p0 : Int64) (sz : Nat) (hu : u ≤ 128) : Met l yX0_times wsX0_times ({ frames := 1, cells := 0, slots := 0, locals := 21 }) (va_Pc [.ref h0, .long p0] (fun U => U.heap.size = sz ∧ va_P (dC, dI) vwCl [(h0, .inr (0, [.ref h0l, .int (nI u)])), (h0l, .inl (cJ, 128, .inr (.inl f)))] U.heap ∧ va_K (dC, dI) vwCl [(cI, FieldType.int), (cJ, FieldType.long), (cZ, FieldType.boolean)] U ∧ va_D (fun _ => True) [(h0, .inr (0, [.ref h0l, .int (nI u)])), (h0l, .inl (cJ, 128, .inr (.inl f)))] ∧ mz_N U)) (va_Qv (fun (_ : Unit) => True) (fun _ t => ∃ (gu : Nat), ∃ (gf : Nat → Int64), (gu ≤ 128) ∧ va_P (dC, dI) vwCl [(h0, .inr (0, [.ref h0l, .int (nI gu)])), (h0l, .inl (cJ, 128, .inr (.inl gf)))] t.heap ∧ va_D (va_A [(h0, .inr (0, [.ref h0l, .int (nI u)])), (h0l, .inl (cJ, 128, .inr (.inl f)))] sz) [(h0, .inr (0, [.ref h0l, .int (nI gu)])), (h0l, .inl (cJ, 128, .inr (.inl gf)))]) (va_A [(h0, .inr (0, [.ref h0l, .int (nI u)])), (h0l, .inl (cJ, 128, .inr (.inl f)))] sz)) 0 0 (va_A [(h0, .inr (0, [.ref h0l, .int (nI u)])), (h0l, .inl (cJ, 128, .inr (.inl f)))] sz) := by
  refine Met.ofW (cc := cX0_times) (maxL := 16) (ret := none) (by decide) rfl ?_
  intro p e s m args below meth c s₁ B hml hv
  obtain ⟨rfl, hsz, hP, hK, hD0, hN⟩ := hv
  subst hsz
  have hx := B.exec
  have hb := B.bytes
  have hr := B.returns
  have hts := atoms_spec (ws := wsX0_times) B.pre
  have hown : s.vm.findClass RX0 = some m.cls := findClass_of_methodNamed B.named
  have hlocks := B.notSynchronized
  have hD := hD0.self (sz := s.heap.size)
  generalize hAe : va_A [(h0, .inr (0, [.ref h0l, .int (nI u)])), (h0l, .inl (cJ, 128, .inr (.inl f)))] s.heap.size = A at hD ⊢
  have hA : ∀ q : Nat, s.heap.size ≤ q → A q := fun q h => by rw [← hAe]; exact Or.inr h
  have hS : va_S A s.heap s.heap [] := va_S.rf
  have hiX0 : ∀ w ∈ u_ws RX0 TX0 2, w ∈ wsX0_times := by decide +kernel
  have hl := lv_entry ([.ref h0, .long p0]) (n := 16) (Nat.le_of_ble_eq_true rfl)
  rw [lg_entry_eq]
  generalize (lg_sl ([.ref h0, .long p0]) ++ List.replicate (16 - (lg_sl ([.ref h0, .long p0])).length) Slot.unset).toArray = ls at hl ⊢
  have hl : lv_has ls 16 [(0, .ref h0), (1, .long p0)] := hl
  refine lv_lload_n hx hb dX0_times_0 rfl (lv_at hl 1 rfl) ?_
  refine lv_ldc2 hx hb hown (hts (.constantLong RX0 26 (1073741823)) (by decide +kernel)) dX0_times_1 ?_
  refine lv_land hx hb dX0_times_4 ?_
  refine lv_topl (fun v_4 ev_4 => ?_)
  refine lv_lstore_n (lv' := [(3, .long v_4), (0, .ref h0), (1, .long p0)]) hx hb dX0_times_5 rfl hl (by decide) rfl (fun ls hl => ?_)
  refine lv_lload_n hx hb dX0_times_6 rfl (lv_at hl 2 rfl) ?_
  refine lv_bipush (v := 30) hx hb dX0_times_7 (by decide +kernel) ?_
  refine lv_lushr hx hb dX0_times_9 rfl ?_
  refine lv_topl (fun v_9 ev_9 => ?_)
  refine lv_lstore (lv' := [(5, .long v_9), (3, .long v_4), (0, .ref h0), (1, .long p0)]) hx hb dX0_times_10 hl (by decide) rfl (fun ls hl => ?_)
  refine lv_lconst (v := 0) hx hb dX0_times_12 (by decide +kernel) ?_
  refine lv_lstore (lv' := [(7, .long 0), (5, .long v_9), (3, .long v_4), (0, .ref h0), (1, .long p0)]) hx hb dX0_times_13 hl (by decide) rfl (fun ls hl => ?_)
  refine lv_lconst (v := 0) hx hb dX0_times_15 (by decide +kernel) ?_
  refine lv_lstore (lv' := [(9, .long 0), (7, .long 0), (5, .long v_9), (3, .long v_4), (0, .ref h0), (1, .long p0)]) hx hb dX0_times_16 hl (by decide) rfl (fun ls hl => ?_)
  refine lv_aload_n hx hb dX0_times_18 rfl (lv_at hl 4 rfl) ?_
  refine lv_aload_n hx hb dX0_times_19 rfl (lv_at hl 4 rfl) ?_
  refine va_get (D := (dC, dI)) (ci := 0) (v := .int (nI u)) (C := RX0) (T := TX0) (N := 2) hx hb hts hiX0 hown hK hP 0 rfl rfl 1 (by decide) (hts (.fieldLink RX0 13 "MadeItSo$Big" "used" "I") (by decide +kernel)) (fun _ h9 => h9) rfl dX0_times_20 ?_
  refine lv_iconst (v := 2) hx hb dX0_times_23 (by decide +kernel) ?_
  refine lv_iadd hx hb dX0_times_24 ?_
  refine mz_ti (y := (nI (u + 2))) (nI_add _ _) ?_
  refine lv_sipush (v := 128) hx hb dX0_times_25 (by decide +kernel) ?_
  refine va_mmin hx hb (by rw [hml]; exact hl.1.symm) hown (hts (.methodLink RX0 28 Lib.Math.min.name) (by decide +kernel)) (hts (.static Lib.Math.min.name) (by decide +kernel)) (hts (.initialized "java/lang/Math") (by decide +kernel)) (hts (.code Lib.Math.min.name Lib.Math.min.code 2 (some .int)) (by decide +kernel)) (Nat.le_of_ble_eq_true rfl) (Nat.le_of_ble_eq_true rfl) (Nat.le_of_ble_eq_true rfl) (Nat.le_of_ble_eq_true rfl) dX0_times_28 ?_
  refine mz_ti (y := (nI (min ((u + 2)) 128))) (mz_min (a := (u + 2)) (b := 128) (by omega) (by omega)) ?_
  refine va_put (D := (dC, dI)) (ci := 0) (v := .int (nI (min ((u + 2)) 128))) (ty := .int) (C := RX0) (T := TX0) (N := 2) hx hb hts hiX0 tyX0 tyX0_ok nmX0 hown hK hP hD hS 0 rfl rfl 1 (by decide) (hts (.fieldLink RX0 13 "MadeItSo$Big" "used" "I") (by decide +kernel)) (fun _ h9 => h9) rfl (by decide +kernel) rfl rfl (Nat.le_of_ble_eq_true rfl) dX0_times_31 (fun H locs hP hD hS => ?_)
  have hP : va_P (dC, dI) vwCl [(h0, .inr (0, [.ref h0l, .int (nI (min ((u + 2)) 128))])), (h0l, .inl (cJ, 128, .inr (.inl f)))] H := hP
  have hD : va_D A [(h0, .inr (0, [.ref h0l, .int (nI (min ((u + 2)) 128))])), (h0l, .inl (cJ, 128, .inr (.inl f)))] := hD
  refine lv_iconst (v := 0) hx hb dX0_times_34 (by decide +kernel) ?_
  refine lv_istore (lv' := [(11, .int 0), (9, .long 0), (7, .long 0), (5, .long v_9), (3, .long v_4), (0, .ref h0), (1, .long p0)]) hx hb dX0_times_35 hl (by decide) rfl (fun ls hl => ?_)
  refine mz_loopU (fun k H locs ls => ∃ (i_37 : Nat), ∃ (x9_37 : Int64), ∃ (x7_37 : Int64), ∃ (fh0l_37 : Nat → Int64), i_37 ≤ 128 ∧ va_P (dC, dI) vwCl [(h0, .inr (0, [.ref h0l, .int (nI (min ((u + 2)) 128))])), (h0l, .inl (cJ, 128, .inr (.inl fh0l_37)))] H ∧ va_D A [(h0, .inr (0, [.ref h0l, .int (nI (min ((u + 2)) 128))])), (h0l, .inl (cJ, 128, .inr (.inl fh0l_37)))] ∧ va_S A s.heap H locs ∧ lv_has ls 16 [(11, .int (nI i_37)), (9, .long x9_37), (7, .long x7_37), (5, .long v_9), (3, .long v_4), (0, .ref h0), (1, .long p0)] ∧ k = 128 - i_37) ?_ _ _ _ _ ⟨0, 0, 0, f, by omega, hP, hD, hS, lv_sub hl [0, 1, 2, 3, 4, 5, 6] rfl, rfl⟩
  intro k_37 H locs ls hI_37 ih_37
  obtain ⟨i_37, x9_37, x7_37, fh0l_37, hi_37, hP, hD, hS, hl, hk_37⟩ := hI_37
  refine lv_iload hx hb dX0_times_37 (lv_at hl 0 rfl) ?_
  refine lv_aload_n hx hb dX0_times_39 rfl (lv_at hl 5 rfl) ?_
  refine va_get (D := (dC, dI)) (ci := 0) (v := .int (nI (min ((u + 2)) 128))) (C := RX0) (T := TX0) (N := 2) hx hb hts hiX0 hown hK hP 0 rfl rfl 1 (by decide) (hts (.fieldLink RX0 13 "MadeItSo$Big" "used" "I") (by decide +kernel)) (fun _ h9 => h9) rfl dX0_times_40 ?_
  refine lv_icmp_ge (tgt := 100) hx hb dX0_times_43 (by decide) (fun c_43 => ?_) (fun c_43 => ?_)
  · skip
    have d_43 : (min ((u + 2)) 128) ≤ i_37 := (nI_leI (a := (min ((u + 2)) 128)) (b := i_37) (by omega) (by omega)).mp c_43
    refine lv_aload_n hx hb dX0_times_100 rfl (lv_at hl 5 rfl) ?_
    have hPc := hP.sub (ws' := [(h0, .inr (0, [.ref h0l, .int (nI (min ((u + 2)) 128))])), (h0l, .inl (cJ, 128, .inr (.inl fh0l_37)))]) [0, 1] rfl
    have hDc := hD.sub (ws' := [(h0, .inr (0, [.ref h0l, .int (nI (min ((u + 2)) 128))])), (h0l, .inl (cJ, 128, .inr (.inl fh0l_37)))]) [0, 1] (by decide) rfl
    have hFc := va_free (wc := [(h0, .inr (0, [.ref h0l, .int (nI (min ((u + 2)) 128))])), (h0l, .inl (cJ, 128, .inr (.inl fh0l_37)))]) hD hS hA [0, 1] rfl
    refine va_callv (va_runV (As := []) (rest := []) ⟨hx, hb, hml, hown, hts⟩ (mz_t_trim l dC dI cI cJ cZ h0 h0l (min ((u + 2)) 128) fh0l_37 H.size (by first | assumption | omega)) (cwV 0 hts gX0_times_X0_trim rfl rfl rfl (by decide +kernel) ⟨Nat.le_of_ble_eq_true rfl, Nat.le_of_ble_eq_true rfl⟩) ⟨fun a U g mk q => mz_blI q, va_recv hK hPc (ci := 0) (q0 := 0) rfl rfl, fun U hU hW => ⟨rfl, by rw [hU], by rw [hU]; exact hPc, va_K.moved hW.alike hK, hDc.weaken (fun _ _ _ _ => trivial), mz_nw hW hN⟩⟩ rfl rfl hl.1 rfl (lv_room (Nat.le_of_ble_eq_true rfl)) dX0_times_101 ⟨Nat.le_of_ble_eq_true rfl, Nat.le_of_ble_eq_true rfl⟩) hS (fun q _ h => hFc q h) hFc (fun u t H1 locs ht hvm hw_101 hB hz1 hk1 hS => ?_)
    obtain ⟨gu_101, gf_101, hx0_101, hP1, hD1⟩ := hB
    rw [ht] at hP1
    obtain ⟨hP, hD⟩ := va_join (wr := []) (w1 := [(h0, .inr (0, [.ref h0l, .int (nI gu_101)])), (h0l, .inl (cJ, 128, .inr (.inl gf_101)))]) hP hD [0, 1] [] rfl rfl (by decide) (by decide) hk1 hFc hP1 hD1
    generalize H1 = H at hP hS ⊢
    have hP : va_P (dC, dI) vwCl [(h0, .inr (0, [.ref h0l, .int (nI gu_101)])), (h0l, .inl (cJ, 128, .inr (.inl gf_101)))] H := hP
    have hD : va_D A [(h0, .inr (0, [.ref h0l, .int (nI gu_101)])), (h0l, .inl (cJ, 128, .inr (.inl gf_101)))] := hD
    have hP9 := hP.sub (ws' := [(h0, .inr (0, [.ref h0l, .int (nI gu_101)])), (h0l, .inl (cJ, 128, .inr (.inl gf_101)))]) [0, 1] rfl
    have hD9 := hD.sub (ws' := [(h0, .inr (0, [.ref h0l, .int (nI gu_101)])), (h0l, .inl (cJ, 128, .inr (.inl gf_101)))]) [0, 1] (by decide) rfl
    refine W.widen (k := 0) (n := 0) (Nat.le_of_ble_eq_true rfl) (Nat.le_of_ble_eq_true rfl) ?_
    exact W.vret hx hb hr (fun t ht hW => ⟨⟨(), rfl, trivial, gu_101, gf_101, (by first | assumption | omega), by rw [ht]; exact hP9, hD9⟩, hS.F ht⟩) hS.2.2 dX0_times_104
  · skip
    have d_43 : ¬ (min ((u + 2)) 128) ≤ i_37 := fun h => c_43 ((nI_leI (a := (min ((u + 2)) 128)) (b := i_37) (by omega) (by omega)).mpr h)
    refine lv_aload_n hx hb dX0_times_46 rfl (lv_at hl 5 rfl) ?_
    refine va_get (D := (dC, dI)) (ci := 0) (v := .ref h0l) (C := RX0) (T := TX0) (N := 2) hx hb hts hiX0 hown hK hP 0 rfl rfl 0 (by decide) (hts (.fieldLink RX0 9 "MadeItSo$Big" "limbs" "[J") (by decide +kernel)) (fun _ h9 => h9) rfl dX0_times_47 ?_
    refine lv_iload hx hb dX0_times_50 (lv_at hl 0 rfl) ?_
    refine va_lald hx hb hK hP 1 1 rfl rfl (vp_in_nI (by omega) (by omega)) dX0_times_52 ?_
    refine lv_topl (fun v_52 ev_52 => ?_)
    refine lv_lstore (lv' := [(12, .long v_52), (11, .int (nI i_37)), (9, .long x9_37), (7, .long x7_37), (5, .long v_9), (3, .long v_4), (0, .ref h0), (1, .long p0)]) hx hb dX0_times_53 hl (by decide) rfl (fun ls hl => ?_)
    refine lv_lload hx hb dX0_times_55 (lv_at hl 3 rfl) ?_
    refine lv_lload hx hb dX0_times_57 (lv_at hl 0 rfl) ?_
    refine lv_lload_n hx hb dX0_times_59 rfl (lv_at hl 5 rfl) ?_
    refine lv_lmul hx hb dX0_times_60 ?_
    refine lv_topl (fun v_60 ev_60 => ?_)
    refine lv_ladd hx hb dX0_times_61 ?_
    refine lv_topl (fun v_61 ev_61 => ?_)
    refine lv_lload hx hb dX0_times_62 (lv_at hl 2 rfl) ?_
    refine lv_lload hx hb dX0_times_64 (lv_at hl 4 rfl) ?_
    refine lv_lmul hx hb dX0_times_66 ?_
    refine lv_topl (fun v_66 ev_66 => ?_)
    refine lv_ladd hx hb dX0_times_67 ?_
    refine lv_topl (fun v_67 ev_67 => ?_)
    refine lv_lstore (lv' := [(14, .long v_67), (12, .long v_52), (11, .int (nI i_37)), (9, .long x9_37), (7, .long x7_37), (5, .long v_9), (3, .long v_4), (0, .ref h0), (1, .long p0)]) hx hb dX0_times_68 hl (by decide) rfl (fun ls hl => ?_)
    refine lv_aload_n hx hb dX0_times_70 rfl (lv_at hl 7 rfl) ?_
    refine va_get (D := (dC, dI)) (ci := 0) (v := .ref h0l) (C := RX0) (T := TX0) (N := 2) hx hb hts hiX0 hown hK hP 0 rfl rfl 0 (by decide) (hts (.fieldLink RX0 9 "MadeItSo$Big" "limbs" "[J") (by decide +kernel)) (fun _ h9 => h9) rfl dX0_times_71 ?_
    refine lv_iload hx hb dX0_times_74 (lv_at hl 2 rfl) ?_
    refine lv_lload hx hb dX0_times_76 (lv_at hl 0 rfl) ?_
    refine lv_ldc2 hx hb hown (hts (.constantLong RX0 26 (1073741823)) (by decide +kernel)) dX0_times_78 ?_
    refine lv_land hx hb dX0_times_81 ?_
    refine lv_topl (fun v_81 ev_81 => ?_)
    refine va_last hx hb hK hP hD hS 1 1 rfl rfl (vp_in_nI (by omega) (by omega)) dX0_times_82 (fun H locs hP hD hS => ?_)
    have hP : va_P (dC, dI) vwCl [(h0, .inr (0, [.ref h0l, .int (nI (min ((u + 2)) 128))])), (h0l, .inl (cJ, 128, .inr (.inl (vp_updL fh0l_37 ((nI i_37) : Int32).toNatClampNeg v_81))))] H := hP
    have hD : va_D A [(h0, .inr (0, [.ref h0l, .int (nI (min ((u + 2)) 128))])), (h0l, .inl (cJ, 128, .inr (.inl (vp_updL fh0l_37 ((nI i_37) : Int32).toNatClampNeg v_81))))] := hD
    generalize (vp_updL fh0l_37 ((nI i_37) : Int32).toNatClampNeg v_81) = f_82 at hP hD
    refine lv_lload hx hb dX0_times_83 (lv_at hl 0 rfl) ?_
    refine lv_bipush (v := 30) hx hb dX0_times_85 (by decide +kernel) ?_
    refine lv_lushr hx hb dX0_times_87 rfl ?_
    refine lv_topl (fun v_87 ev_87 => ?_)
    refine lv_lstore (lv' := [(7, .long v_87), (14, .long v_67), (12, .long v_52), (11, .int (nI i_37)), (9, .long x9_37), (5, .long v_9), (3, .long v_4), (0, .ref h0), (1, .long p0)]) hx hb dX0_times_88 hl (by decide) rfl (fun ls hl => ?_)
    refine lv_lload hx hb dX0_times_90 (lv_at hl 2 rfl) ?_
    refine lv_lstore (lv' := [(9, .long v_52), (7, .long v_87), (14, .long v_67), (12, .long v_52), (11, .int (nI i_37)), (5, .long v_9), (3, .long v_4), (0, .ref h0), (1, .long p0)]) hx hb dX0_times_92 hl (by decide) rfl (fun ls hl => ?_)
    refine lv_iinc (v := (nI (i_37 + 1))) (lv' := [(11, .int (nI (i_37 + 1))), (9, .long v_52), (7, .long v_87), (14, .long v_67), (12, .long v_52), (5, .long v_9), (3, .long v_4), (0, .ref h0), (1, .long p0)]) hx hb dX0_times_94 hl (k := 4) rfl (nI_1 _) (by decide) rfl (fun ls hl => ?_)
    refine lv_goto (tgt := 37) hx hb dX0_times_97 (by decide) ?_
    exact ih_37 _ (by omega) _ _ _ ⟨(i_37 + 1), v_52, v_87, f_82, by omega, hP, hD, hS, lv_sub hl [0, 1, 2, 5, 6, 7, 8] rfl, rfl⟩
set_option maxHeartbeats 1000000 in
set_option maxRecDepth 100000 in
theorem mz_t_plus (l : Launch) (dC : Nat → ClassId) (dI : Nat → Nat → Nat) (cI cJ cZ : ClassId) (h0 : Nat) (h0l : Nat) (u : Nat) (f : Nat → Int64) (h1 : Nat) (h1l : Nat) (v : Nat) (f1 : Nat → Int64) (sz : Nat) (hu : u ≤ 128) (hv9 : v ≤ 128) : Met l yX0_plus wsX0_plus ({ frames := 1, cells := 0, slots := 0, locals := 21 }) (va_Pc [.ref h0, .ref h1] (fun U => U.heap.size = sz ∧ va_P (dC, dI) vwCl [(h0, .inr (0, [.ref h0l, .int (nI u)])), (h0l, .inl (cJ, 128, .inr (.inl f))), (h1, .inr (0, [.ref h1l, .int (nI v)])), (h1l, .inl (cJ, 128, .inr (.inl f1)))] U.heap ∧ va_K (dC, dI) vwCl [(cI, FieldType.int), (cJ, FieldType.long), (cZ, FieldType.boolean)] U ∧ va_D (fun _ => True) [(h0, .inr (0, [.ref h0l, .int (nI u)])), (h0l, .inl (cJ, 128, .inr (.inl f))), (h1, .inr (0, [.ref h1l, .int (nI v)])), (h1l, .inl (cJ, 128, .inr (.inl f1)))] ∧ mz_N U)) (va_Qv (fun (_ : Unit) => True) (fun _ t => ∃ (gu : Nat), ∃ (gf : Nat → Int64), (gu ≤ 128) ∧ va_P (dC, dI) vwCl [(h0, .inr (0, [.ref h0l, .int (nI gu)])), (h0l, .inl (cJ, 128, .inr (.inl gf))), (h1, .inr (0, [.ref h1l, .int (nI v)])), (h1l, .inl (cJ, 128, .inr (.inl f1)))] t.heap ∧ va_D (va_A [(h0, .inr (0, [.ref h0l, .int (nI u)])), (h0l, .inl (cJ, 128, .inr (.inl f))), (h1, .inr (0, [.ref h1l, .int (nI v)])), (h1l, .inl (cJ, 128, .inr (.inl f1)))] sz) [(h0, .inr (0, [.ref h0l, .int (nI gu)])), (h0l, .inl (cJ, 128, .inr (.inl gf))), (h1, .inr (0, [.ref h1l, .int (nI v)])), (h1l, .inl (cJ, 128, .inr (.inl f1)))]) (va_A [(h0, .inr (0, [.ref h0l, .int (nI u)])), (h0l, .inl (cJ, 128, .inr (.inl f))), (h1, .inr (0, [.ref h1l, .int (nI v)])), (h1l, .inl (cJ, 128, .inr (.inl f1)))] sz)) 0 0 (va_A [(h0, .inr (0, [.ref h0l, .int (nI u)])), (h0l, .inl (cJ, 128, .inr (.inl f))), (h1, .inr (0, [.ref h1l, .int (nI v)])), (h1l, .inl (cJ, 128, .inr (.inl f1)))] sz) := by
  refine Met.ofW (cc := cX0_plus) (maxL := 7) (ret := none) (by decide) rfl ?_
  intro p e s m args below meth c s₁ B hml hv
  obtain ⟨rfl, hsz, hP, hK, hD0, hN⟩ := hv
  subst hsz
  have hx := B.exec
  have hb := B.bytes
  have hr := B.returns
  have hts := atoms_spec (ws := wsX0_plus) B.pre
  have hown : s.vm.findClass RX0 = some m.cls := findClass_of_methodNamed B.named
  have hlocks := B.notSynchronized
  have hD := hD0.self (sz := s.heap.size)
  generalize hAe : va_A [(h0, .inr (0, [.ref h0l, .int (nI u)])), (h0l, .inl (cJ, 128, .inr (.inl f))), (h1, .inr (0, [.ref h1l, .int (nI v)])), (h1l, .inl (cJ, 128, .inr (.inl f1)))] s.heap.size = A at hD ⊢
  have hA : ∀ q : Nat, s.heap.size ≤ q → A q := fun q h => by rw [← hAe]; exact Or.inr h
  have hS : va_S A s.heap s.heap [] := va_S.rf
  have hiX0 : ∀ w ∈ u_ws RX0 TX0 2, w ∈ wsX0_plus := by decide +kernel
  have hl := lv_entry ([.ref h0, .ref h1]) (n := 7) (Nat.le_of_ble_eq_true rfl)
  rw [lg_entry_eq]
  generalize (lg_sl ([.ref h0, .ref h1]) ++ List.replicate (7 - (lg_sl ([.ref h0, .ref h1])).length) Slot.unset).toArray = ls at hl ⊢
  have hl : lv_has ls 7 [(0, .ref h0), (1, .ref h1)] := hl
  refine lv_lconst (v := 0) hx hb dX0_plus_0 (by decide +kernel) ?_
  refine lv_lstore_n (lv' := [(2, .long 0), (0, .ref h0), (1, .ref h1)]) hx hb dX0_plus_1 rfl hl (by decide) rfl (fun ls hl => ?_)
  refine lv_aload_n hx hb dX0_plus_2 rfl (lv_at hl 1 rfl) ?_
  refine lv_aload_n hx hb dX0_plus_3 rfl (lv_at hl 1 rfl) ?_
  refine va_get (D := (dC, dI)) (ci := 0) (v := .int (nI u)) (C := RX0) (T := TX0) (N := 2) hx hb hts hiX0 hown hK hP 0 rfl rfl 1 (by decide) (hts (.fieldLink RX0 13 "MadeItSo$Big" "used" "I") (by decide +kernel)) (fun _ h9 => h9) rfl dX0_plus_4 ?_
  refine lv_aload_n hx hb dX0_plus_7 rfl (lv_at hl 2 rfl) ?_
  refine va_get (D := (dC, dI)) (ci := 0) (v := .int (nI v)) (C := RX0) (T := TX0) (N := 2) hx hb hts hiX0 hown hK hP 2 rfl rfl 1 (by decide) (hts (.fieldLink RX0 13 "MadeItSo$Big" "used" "I") (by decide +kernel)) (fun _ h9 => h9) rfl dX0_plus_8 ?_
  refine va_mmax hx hb (by rw [hml]; exact hl.1.symm) hown (hts (.methodLink RX0 20 Lib.Math.max.name) (by decide +kernel)) (hts (.static Lib.Math.max.name) (by decide +kernel)) (hts (.initialized "java/lang/Math") (by decide +kernel)) (hts (.code Lib.Math.max.name Lib.Math.max.code 2 (some .int)) (by decide +kernel)) (Nat.le_of_ble_eq_true rfl) (Nat.le_of_ble_eq_true rfl) (Nat.le_of_ble_eq_true rfl) (Nat.le_of_ble_eq_true rfl) dX0_plus_11 ?_
  refine mz_ti (y := (nI (max u v))) (mz_max (a := u) (b := v) (by omega) (by omega)) ?_
  refine lv_iconst (v := 1) hx hb dX0_plus_14 (by decide +kernel) ?_
  refine lv_iadd hx hb dX0_plus_15 ?_
  refine mz_ti (y := (nI ((max u v) + 1))) (nI_add _ _) ?_
  refine lv_sipush (v := 128) hx hb dX0_plus_16 (by decide +kernel) ?_
  refine va_mmin hx hb (by rw [hml]; exact hl.1.symm) hown (hts (.methodLink RX0 28 Lib.Math.min.name) (by decide +kernel)) (hts (.static Lib.Math.min.name) (by decide +kernel)) (hts (.initialized "java/lang/Math") (by decide +kernel)) (hts (.code Lib.Math.min.name Lib.Math.min.code 2 (some .int)) (by decide +kernel)) (Nat.le_of_ble_eq_true rfl) (Nat.le_of_ble_eq_true rfl) (Nat.le_of_ble_eq_true rfl) (Nat.le_of_ble_eq_true rfl) dX0_plus_19 ?_
  refine mz_ti (y := (nI (min (((max u v) + 1)) 128))) (mz_min (a := ((max u v) + 1)) (b := 128) (by omega) (by omega)) ?_
  refine va_put (D := (dC, dI)) (ci := 0) (v := .int (nI (min (((max u v) + 1)) 128))) (ty := .int) (C := RX0) (T := TX0) (N := 2) hx hb hts hiX0 tyX0 tyX0_ok nmX0 hown hK hP hD hS 0 rfl rfl 1 (by decide) (hts (.fieldLink RX0 13 "MadeItSo$Big" "used" "I") (by decide +kernel)) (fun _ h9 => h9) rfl (by decide +kernel) rfl rfl (Nat.le_of_ble_eq_true rfl) dX0_plus_22 (fun H locs hP hD hS => ?_)
  have hP : va_P (dC, dI) vwCl [(h0, .inr (0, [.ref h0l, .int (nI (min (((max u v) + 1)) 128))])), (h0l, .inl (cJ, 128, .inr (.inl f))), (h1, .inr (0, [.ref h1l, .int (nI v)])), (h1l, .inl (cJ, 128, .inr (.inl f1)))] H := hP
  have hD : va_D A [(h0, .inr (0, [.ref h0l, .int (nI (min (((max u v) + 1)) 128))])), (h0l, .inl (cJ, 128, .inr (.inl f))), (h1, .inr (0, [.ref h1l, .int (nI v)])), (h1l, .inl (cJ, 128, .inr (.inl f1)))] := hD
  refine lv_iconst (v := 0) hx hb dX0_plus_25 (by decide +kernel) ?_
  refine lv_istore (lv' := [(4, .int 0), (2, .long 0), (0, .ref h0), (1, .ref h1)]) hx hb dX0_plus_26 hl (by decide) rfl (fun ls hl => ?_)
  refine mz_loopU (fun k H locs ls => ∃ (i_28 : Nat), ∃ (x2_28 : Int64), ∃ (fh0l_28 : Nat → Int64), i_28 ≤ 128 ∧ va_P (dC, dI) vwCl [(h0, .inr (0, [.ref h0l, .int (nI (min (((max u v) + 1)) 128))])), (h0l, .inl (cJ, 128, .inr (.inl fh0l_28))), (h1, .inr (0, [.ref h1l, .int (nI v)])), (h1l, .inl (cJ, 128, .inr (.inl f1)))] H ∧ va_D A [(h0, .inr (0, [.ref h0l, .int (nI (min (((max u v) + 1)) 128))])), (h0l, .inl (cJ, 128, .inr (.inl fh0l_28))), (h1, .inr (0, [.ref h1l, .int (nI v)])), (h1l, .inl (cJ, 128, .inr (.inl f1)))] ∧ va_S A s.heap H locs ∧ lv_has ls 7 [(4, .int (nI i_28)), (2, .long x2_28), (0, .ref h0), (1, .ref h1)] ∧ k = 128 - i_28) ?_ _ _ _ _ ⟨0, 0, f, by omega, hP, hD, hS, lv_sub hl [0, 1, 2, 3] rfl, rfl⟩
  intro k_28 H locs ls hI_28 ih_28
  obtain ⟨i_28, x2_28, fh0l_28, hi_28, hP, hD, hS, hl, hk_28⟩ := hI_28
  refine lv_iload hx hb dX0_plus_28 (lv_at hl 0 rfl) ?_
  refine lv_aload_n hx hb dX0_plus_30 rfl (lv_at hl 2 rfl) ?_
  refine va_get (D := (dC, dI)) (ci := 0) (v := .int (nI (min (((max u v) + 1)) 128))) (C := RX0) (T := TX0) (N := 2) hx hb hts hiX0 hown hK hP 0 rfl rfl 1 (by decide) (hts (.fieldLink RX0 13 "MadeItSo$Big" "used" "I") (by decide +kernel)) (fun _ h9 => h9) rfl dX0_plus_31 ?_
  refine lv_icmp_ge (tgt := 81) hx hb dX0_plus_34 (by decide) (fun c_34 => ?_) (fun c_34 => ?_)
  · skip
    have d_34 : (min (((max u v) + 1)) 128) ≤ i_28 := (nI_leI (a := (min (((max u v) + 1)) 128)) (b := i_28) (by omega) (by omega)).mp c_34
    refine lv_aload_n hx hb dX0_plus_81 rfl (lv_at hl 2 rfl) ?_
    have hPc := hP.sub (ws' := [(h0, .inr (0, [.ref h0l, .int (nI (min (((max u v) + 1)) 128))])), (h0l, .inl (cJ, 128, .inr (.inl fh0l_28)))]) [0, 1] rfl
    have hDc := hD.sub (ws' := [(h0, .inr (0, [.ref h0l, .int (nI (min (((max u v) + 1)) 128))])), (h0l, .inl (cJ, 128, .inr (.inl fh0l_28)))]) [0, 1] (by decide) rfl
    have hFc := va_free (wc := [(h0, .inr (0, [.ref h0l, .int (nI (min (((max u v) + 1)) 128))])), (h0l, .inl (cJ, 128, .inr (.inl fh0l_28)))]) hD hS hA [0, 1] rfl
    refine va_callv (va_runV (As := []) (rest := []) ⟨hx, hb, hml, hown, hts⟩ (mz_t_trim l dC dI cI cJ cZ h0 h0l (min (((max u v) + 1)) 128) fh0l_28 H.size (by first | assumption | omega)) (cwV 0 hts gX0_plus_X0_trim rfl rfl rfl (by decide +kernel) ⟨Nat.le_of_ble_eq_true rfl, Nat.le_of_ble_eq_true rfl⟩) ⟨fun a U g mk q => mz_blI q, va_recv hK hPc (ci := 0) (q0 := 0) rfl rfl, fun U hU hW => ⟨rfl, by rw [hU], by rw [hU]; exact hPc, va_K.moved hW.alike hK, hDc.weaken (fun _ _ _ _ => trivial), mz_nw hW hN⟩⟩ rfl rfl hl.1 rfl (lv_room (Nat.le_of_ble_eq_true rfl)) dX0_plus_82 ⟨Nat.le_of_ble_eq_true rfl, Nat.le_of_ble_eq_true rfl⟩) hS (fun q _ h => hFc q h) hFc (fun u t H1 locs ht hvm hw_82 hB hz1 hk1 hS => ?_)
    obtain ⟨gu_82, gf_82, hx0_82, hP1, hD1⟩ := hB
    rw [ht] at hP1
    obtain ⟨hP, hD⟩ := va_join (wr := [(h1, .inr (0, [.ref h1l, .int (nI v)])), (h1l, .inl (cJ, 128, .inr (.inl f1)))]) (w1 := [(h0, .inr (0, [.ref h0l, .int (nI gu_82)])), (h0l, .inl (cJ, 128, .inr (.inl gf_82)))]) hP hD [0, 1] [2, 3] rfl rfl (by decide) (by decide) hk1 hFc hP1 hD1
    generalize H1 = H at hP hS ⊢
    have hP : va_P (dC, dI) vwCl [(h1, .inr (0, [.ref h1l, .int (nI v)])), (h1l, .inl (cJ, 128, .inr (.inl f1))), (h0, .inr (0, [.ref h0l, .int (nI gu_82)])), (h0l, .inl (cJ, 128, .inr (.inl gf_82)))] H := hP
    have hD : va_D A [(h1, .inr (0, [.ref h1l, .int (nI v)])), (h1l, .inl (cJ, 128, .inr (.inl f1))), (h0, .inr (0, [.ref h0l, .int (nI gu_82)])), (h0l, .inl (cJ, 128, .inr (.inl gf_82)))] := hD
    have hP9 := hP.sub (ws' := [(h0, .inr (0, [.ref h0l, .int (nI gu_82)])), (h0l, .inl (cJ, 128, .inr (.inl gf_82))), (h1, .inr (0, [.ref h1l, .int (nI v)])), (h1l, .inl (cJ, 128, .inr (.inl f1)))]) [2, 3, 0, 1] rfl
    have hD9 := hD.sub (ws' := [(h0, .inr (0, [.ref h0l, .int (nI gu_82)])), (h0l, .inl (cJ, 128, .inr (.inl gf_82))), (h1, .inr (0, [.ref h1l, .int (nI v)])), (h1l, .inl (cJ, 128, .inr (.inl f1)))]) [2, 3, 0, 1] (by decide) rfl
    refine W.widen (k := 0) (n := 0) (Nat.le_of_ble_eq_true rfl) (Nat.le_of_ble_eq_true rfl) ?_
    exact W.vret hx hb hr (fun t ht hW => ⟨⟨(), rfl, trivial, gu_82, gf_82, (by first | assumption | omega), by rw [ht]; exact hP9, hD9⟩, hS.F ht⟩) hS.2.2 dX0_plus_85
  · skip
    have d_34 : ¬ (min (((max u v) + 1)) 128) ≤ i_28 := fun h => c_34 ((nI_leI (a := (min (((max u v) + 1)) 128)) (b := i_28) (by omega) (by omega)).mpr h)
    refine lv_lload_n hx hb dX0_plus_37 rfl (lv_at hl 1 rfl) ?_
    refine lv_aload_n hx hb dX0_plus_38 rfl (lv_at hl 2 rfl) ?_
    refine va_get (D := (dC, dI)) (ci := 0) (v := .ref h0l) (C := RX0) (T := TX0) (N := 2) hx hb hts hiX0 hown hK hP 0 rfl rfl 0 (by decide) (hts (.fieldLink RX0 9 "MadeItSo$Big" "limbs" "[J") (by decide +kernel)) (fun _ h9 => h9) rfl dX0_plus_39 ?_
    refine lv_iload hx hb dX0_plus_42 (lv_at hl 0 rfl) ?_
    refine va_lald hx hb hK hP 1 1 rfl rfl (vp_in_nI (by omega) (by omega)) dX0_plus_44 ?_
    refine lv_topl (fun v_44 ev_44 => ?_)
    refine lv_ladd hx hb dX0_plus_45 ?_
    refine lv_topl (fun v_45 ev_45 => ?_)
    refine lv_aload_n hx hb dX0_plus_46 rfl (lv_at hl 3 rfl) ?_
    refine va_get (D := (dC, dI)) (ci := 0) (v := .ref h1l) (C := RX0) (T := TX0) (N := 2) hx hb hts hiX0 hown hK hP 2 rfl rfl 0 (by decide) (hts (.fieldLink RX0 9 "MadeItSo$Big" "limbs" "[J") (by decide +kernel)) (fun _ h9 => h9) rfl dX0_plus_47 ?_
    refine lv_iload hx hb dX0_plus_50 (lv_at hl 0 rfl) ?_
    refine va_lald hx hb hK hP 3 1 rfl rfl (vp_in_nI (by omega) (by omega)) dX0_plus_52 ?_
    refine lv_topl (fun v_52 ev_52 => ?_)
    refine lv_ladd hx hb dX0_plus_53 ?_
    refine lv_topl (fun v_53 ev_53 => ?_)
    refine lv_lstore (lv' := [(5, .long v_53), (4, .int (nI i_28)), (2, .long x2_28), (0, .ref h0), (1, .ref h1)]) hx hb dX0_plus_54 hl (by decide) rfl (fun ls hl => ?_)
    refine lv_aload_n hx hb dX0_plus_56 rfl (lv_at hl 3 rfl) ?_
    refine va_get (D := (dC, dI)) (ci := 0) (v := .ref h0l) (C := RX0) (T := TX0) (N := 2) hx hb hts hiX0 hown hK hP 0 rfl rfl 0 (by decide) (hts (.fieldLink RX0 9 "MadeItSo$Big" "limbs" "[J") (by decide +kernel)) (fun _ h9 => h9) rfl dX0_plus_57 ?_
    refine lv_iload hx hb dX0_plus_60 (lv_at hl 1 rfl) ?_
    refine lv_lload hx hb dX0_plus_62 (lv_at hl 0 rfl) ?_
    refine lv_ldc2 hx hb hown (hts (.constantLong RX0 26 (1073741823)) (by decide +kernel)) dX0_plus_64 ?_
    refine lv_land hx hb dX0_plus_67 ?_
    refine lv_topl (fun v_67 ev_67 => ?_)
    refine va_last hx hb hK hP hD hS 1 1 rfl rfl (vp_in_nI (by omega) (by omega)) dX0_plus_68 (fun H locs hP hD hS => ?_)
    have hP : va_P (dC, dI) vwCl [(h0, .inr (0, [.ref h0l, .int (nI (min (((max u v) + 1)) 128))])), (h0l, .inl (cJ, 128, .inr (.inl (vp_updL fh0l_28 ((nI i_28) : Int32).toNatClampNeg v_67)))), (h1, .inr (0, [.ref h1l, .int (nI v)])), (h1l, .inl (cJ, 128, .inr (.inl f1)))] H := hP
    have hD : va_D A [(h0, .inr (0, [.ref h0l, .int (nI (min (((max u v) + 1)) 128))])), (h0l, .inl (cJ, 128, .inr (.inl (vp_updL fh0l_28 ((nI i_28) : Int32).toNatClampNeg v_67)))), (h1, .inr (0, [.ref h1l, .int (nI v)])), (h1l, .inl (cJ, 128, .inr (.inl f1)))] := hD
    generalize (vp_updL fh0l_28 ((nI i_28) : Int32).toNatClampNeg v_67) = f_68 at hP hD
    refine lv_lload hx hb dX0_plus_69 (lv_at hl 0 rfl) ?_
    refine lv_bipush (v := 30) hx hb dX0_plus_71 (by decide +kernel) ?_
    refine lv_lushr hx hb dX0_plus_73 rfl ?_
    refine lv_topl (fun v_73 ev_73 => ?_)
    refine lv_lstore_n (lv' := [(2, .long v_73), (5, .long v_53), (4, .int (nI i_28)), (0, .ref h0), (1, .ref h1)]) hx hb dX0_plus_74 rfl hl (by decide) rfl (fun ls hl => ?_)
    refine lv_iinc (v := (nI (i_28 + 1))) (lv' := [(4, .int (nI (i_28 + 1))), (2, .long v_73), (5, .long v_53), (0, .ref h0), (1, .ref h1)]) hx hb dX0_plus_75 hl (k := 2) rfl (nI_1 _) (by decide) rfl (fun ls hl => ?_)
    refine lv_goto (tgt := 28) hx hb dX0_plus_78 (by decide) ?_
    exact ih_28 _ (by omega) _ _ _ ⟨(i_28 + 1), v_73, f_68, by omega, hP, hD, hS, lv_sub hl [0, 1, 3, 4] rfl, rfl⟩
set_option maxHeartbeats 1000000 in
set_option maxRecDepth 100000 in
theorem mz_t_same (l : Launch) (dC : Nat → ClassId) (dI : Nat → Nat → Nat) (cI cJ cZ : ClassId) (h0 : Nat) (h0l : Nat) (u : Nat) (f : Nat → Int64) (h1 : Nat) (h1l : Nat) (v : Nat) (f1 : Nat → Int64) (Hq : Heap) (hu : u ≤ 128) (hv9 : v ≤ 128) : Met l yX0_same wsX0_same ({ frames := 0, cells := 0, slots := 0, locals := 0 }) (va_Pc [.ref h0, .ref h1] (fun U => U.heap = Hq ∧ va_P (dC, dI) vwCl [(h0, .inr (0, [.ref h0l, .int (nI u)])), (h0l, .inl (cJ, 128, .inr (.inl f))), (h1, .inr (0, [.ref h1l, .int (nI v)])), (h1l, .inl (cJ, 128, .inr (.inl f1)))] Hq ∧ va_K (dC, dI) vwCl [(cI, FieldType.int), (cJ, FieldType.long), (cZ, FieldType.boolean)] U ∧ mz_N U)) (va_Qi (fun (r : Int32) (_ : Unit) => r = 0 ∨ r = 1) (fun _ t => t.heap = Hq) (fun _ : Nat => False)) 0 0 (fun _ : Nat => False) := by
  refine Met.ofW (cc := cX0_same) (maxL := 3) (ret := (some .boolean)) (by decide) rfl ?_
  intro p e s m args below meth c s₁ B hml hv
  obtain ⟨rfl, hH, hP, hK, hN⟩ := hv
  subst hH
  have hx := B.exec
  have hb := B.bytes
  have hr := B.returns
  have hts := atoms_spec (ws := wsX0_same) B.pre
  have hown : s.vm.findClass RX0 = some m.cls := findClass_of_methodNamed B.named
  have hlocks := B.notSynchronized
  have hS : va_S (fun _ : Nat => False) s.heap s.heap [] := va_S.rf
  have hiX0 : ∀ w ∈ u_ws RX0 TX0 2, w ∈ wsX0_same := by decide +kernel
  have hl := lv_entry ([.ref h0, .ref h1]) (n := 3) (Nat.le_of_ble_eq_true rfl)
  rw [lg_entry_eq]
  generalize (lg_sl ([.ref h0, .ref h1]) ++ List.replicate (3 - (lg_sl ([.ref h0, .ref h1])).length) Slot.unset).toArray = ls at hl ⊢
  have hl : lv_has ls 3 [(0, .ref h0), (1, .ref h1)] := hl
  refine lv_aload_n hx hb dX0_same_0 rfl (lv_at hl 0 rfl) ?_
  refine va_get (D := (dC, dI)) (ci := 0) (v := .int (nI u)) (C := RX0) (T := TX0) (N := 2) hx hb hts hiX0 hown hK hP 0 rfl rfl 1 (by decide) (hts (.fieldLink RX0 13 "MadeItSo$Big" "used" "I") (by decide +kernel)) (fun _ h9 => h9) rfl dX0_same_1 ?_
  refine lv_aload_n hx hb dX0_same_4 rfl (lv_at hl 1 rfl) ?_
  refine va_get (D := (dC, dI)) (ci := 0) (v := .int (nI v)) (C := RX0) (T := TX0) (N := 2) hx hb hts hiX0 hown hK hP 2 rfl rfl 1 (by decide) (hts (.fieldLink RX0 13 "MadeItSo$Big" "used" "I") (by decide +kernel)) (fun _ h9 => h9) rfl dX0_same_5 ?_
  refine lv_icmp_eq (tgt := 13) hx hb dX0_same_8 (by decide) (fun c_8 => ?_) (fun c_8 => ?_)
  · skip
    have d_8 : u = v := (nI_eq (a := u) (b := v) (by omega) (by omega)).mp c_8
    refine lv_iconst (v := 0) hx hb dX0_same_13 (by decide +kernel) ?_
    refine lv_istore_n (lv' := [(2, .int 0), (0, .ref h0), (1, .ref h1)]) hx hb dX0_same_14 rfl hl (by decide) rfl (fun ls hl => ?_)
    refine mz_loopU (fun k H locs ls => ∃ (i_15 : Nat), i_15 ≤ 128 ∧ H = s.heap ∧ va_S (fun _ : Nat => False) s.heap H locs ∧ lv_has ls 3 [(2, .int (nI i_15)), (0, .ref h0), (1, .ref h1)] ∧ k = 128 - i_15) ?_ _ _ _ _ ⟨0, by omega, rfl, hS, lv_sub hl [0, 1, 2] rfl, rfl⟩
    intro k_15 H locs ls hI_15 ih_15
    obtain ⟨i_15, hi_15, hH_15, hS, hl, hk_15⟩ := hI_15
    subst hH_15
    refine lv_iload_n hx hb dX0_same_15 rfl (lv_at hl 0 rfl) ?_
    refine lv_aload_n hx hb dX0_same_16 rfl (lv_at hl 1 rfl) ?_
    refine va_get (D := (dC, dI)) (ci := 0) (v := .int (nI u)) (C := RX0) (T := TX0) (N := 2) hx hb hts hiX0 hown hK hP 0 rfl rfl 1 (by decide) (hts (.fieldLink RX0 13 "MadeItSo$Big" "used" "I") (by decide +kernel)) (fun _ h9 => h9) rfl dX0_same_17 ?_
    refine lv_icmp_ge (tgt := 47) hx hb dX0_same_20 (by decide) (fun c_20 => ?_) (fun c_20 => ?_)
    · skip
      have d_20 : u ≤ i_15 := (nI_leI (a := u) (b := i_15) (by omega) (by omega)).mp c_20
      refine lv_iconst (v := 1) hx hb dX0_same_47 (by decide +kernel) ?_
      refine W.widen (k := 0) (n := 0) (Nat.le_of_ble_eq_true rfl) (Nat.le_of_ble_eq_true rfl) ?_
      exact W.zret (v := 1) hx hb hr (mz_nz (by decide +kernel)) (fun t ht hW => ⟨⟨1, (), rfl, Or.inr rfl, ht⟩, hS.F ht⟩) hS.2.2 dX0_same_48
    · skip
      have d_20 : ¬ u ≤ i_15 := fun h => c_20 ((nI_leI (a := u) (b := i_15) (by omega) (by omega)).mpr h)
      refine lv_aload_n hx hb dX0_same_23 rfl (lv_at hl 1 rfl) ?_
      refine va_get (D := (dC, dI)) (ci := 0) (v := .ref h0l) (C := RX0) (T := TX0) (N := 2) hx hb hts hiX0 hown hK hP 0 rfl rfl 0 (by decide) (hts (.fieldLink RX0 9 "MadeItSo$Big" "limbs" "[J") (by decide +kernel)) (fun _ h9 => h9) rfl dX0_same_24 ?_
      refine lv_iload_n hx hb dX0_same_27 rfl (lv_at hl 0 rfl) ?_
      refine va_lald hx hb hK hP 1 1 rfl rfl (vp_in_nI (by omega) (by omega)) dX0_same_28 ?_
      refine lv_topl (fun v_28 ev_28 => ?_)
      refine lv_aload_n hx hb dX0_same_29 rfl (lv_at hl 2 rfl) ?_
      refine va_get (D := (dC, dI)) (ci := 0) (v := .ref h1l) (C := RX0) (T := TX0) (N := 2) hx hb hts hiX0 hown hK hP 2 rfl rfl 0 (by decide) (hts (.fieldLink RX0 9 "MadeItSo$Big" "limbs" "[J") (by decide +kernel)) (fun _ h9 => h9) rfl dX0_same_30 ?_
      refine lv_iload_n hx hb dX0_same_33 rfl (lv_at hl 0 rfl) ?_
      refine va_lald hx hb hK hP 3 1 rfl rfl (vp_in_nI (by omega) (by omega)) dX0_same_34 ?_
      refine lv_topl (fun v_34 ev_34 => ?_)
      refine W.lcmp hx hb dX0_same_35 ?_
      refine lv_if_eq (tgt := 41) hx hb dX0_same_36 (by decide) (fun c_36 => ?_) (fun c_36 => ?_)
      · skip
        have d_36 := mz_lc1 c_36
        refine lv_iinc (v := (nI (i_15 + 1))) (lv' := [(2, .int (nI (i_15 + 1))), (0, .ref h0), (1, .ref h1)]) hx hb dX0_same_41 hl (k := 0) rfl (nI_1 _) (by decide) rfl (fun ls hl => ?_)
        refine lv_goto (tgt := 15) hx hb dX0_same_44 (by decide) ?_
        exact ih_15 _ (by omega) _ _ _ ⟨(i_15 + 1), by omega, rfl, hS, lv_sub hl [0, 1, 2] rfl, rfl⟩
      · skip
        have d_36 := mz_lc0 c_36
        refine lv_iconst (v := 0) hx hb dX0_same_39 (by decide +kernel) ?_
        refine W.widen (k := 0) (n := 0) (Nat.le_of_ble_eq_true rfl) (Nat.le_of_ble_eq_true rfl) ?_
        exact W.zret (v := 0) hx hb hr (mz_nz (by decide +kernel)) (fun t ht hW => ⟨⟨0, (), rfl, Or.inl rfl, ht⟩, hS.F ht⟩) hS.2.2 dX0_same_40
  · skip
    have d_8 : ¬ u = v := fun h => c_8 ((nI_eq (a := u) (b := v) (by omega) (by omega)).mpr h)
    refine lv_iconst (v := 0) hx hb dX0_same_11 (by decide +kernel) ?_
    refine W.widen (k := 0) (n := 0) (Nat.le_of_ble_eq_true rfl) (Nat.le_of_ble_eq_true rfl) ?_
    exact W.zret (v := 0) hx hb hr (mz_nz (by decide +kernel)) (fun t ht hW => ⟨⟨0, (), rfl, Or.inl rfl, ht⟩, hS.F ht⟩) hS.2.2 dX0_same_12
set_option maxHeartbeats 1000000 in
set_option maxRecDepth 100000 in
theorem mz_t_clear (l : Launch) (dC : Nat → ClassId) (dI : Nat → Nat → Nat) (cI cJ cZ : ClassId) (tt : Nat) (b1 : Nat) (b1l : Nat) (u1 : Nat) (f1 : Nat → Int64) (b2 : Nat) (b2l : Nat) (u2 : Nat) (f2 : Nat → Int64) (b3 : Nat) (b3l : Nat) (u3 : Nat) (f3 : Nat → Int64) (sz : Nat) (hu1 : u1 ≤ 128) (hu2 : u2 ≤ 128) (hu3 : u3 ≤ 128) : Met l yX5_clear wsX5_clear ({ frames := 2, cells := 0, slots := 0, locals := 43 }) (va_Pc [.ref tt] (fun U => U.heap.size = sz ∧ va_P (dC, dI) vwCl [(tt, .inr (5, [.ref b1, .ref b2, .ref b3])), (b1, .inr (0, [.ref b1l, .int (nI u1)])), (b1l, .inl (cJ, 128, .inr (.inl f1))), (b2, .inr (0, [.ref b2l, .int (nI u2)])), (b2l, .inl (cJ, 128, .inr (.inl f2))), (b3, .inr (0, [.ref b3l, .int (nI u3)])), (b3l, .inl (cJ, 128, .inr (.inl f3)))] U.heap ∧ va_K (dC, dI) vwCl [(cI, FieldType.int), (cJ, FieldType.long), (cZ, FieldType.boolean)] U ∧ va_D (fun _ => True) [(tt, .inr (5, [.ref b1, .ref b2, .ref b3])), (b1, .inr (0, [.ref b1l, .int (nI u1)])), (b1l, .inl (cJ, 128, .inr (.inl f1))), (b2, .inr (0, [.ref b2l, .int (nI u2)])), (b2l, .inl (cJ, 128, .inr (.inl f2))), (b3, .inr (0, [.ref b3l, .int (nI u3)])), (b3l, .inl (cJ, 128, .inr (.inl f3)))] ∧ mz_N U)) (va_Qv (fun (_ : Unit) => True) (fun _ t => ∃ (g1 : Nat), ∃ (h1 : Nat → Int64), ∃ (g2 : Nat), ∃ (h2 : Nat → Int64), ∃ (g3 : Nat), ∃ (h3 : Nat → Int64), (g1 ≤ 128) ∧ (g2 ≤ 128) ∧ (g3 ≤ 128) ∧ va_P (dC, dI) vwCl [(tt, .inr (5, [.ref b1, .ref b2, .ref b3])), (b1, .inr (0, [.ref b1l, .int (nI g1)])), (b1l, .inl (cJ, 128, .inr (.inl h1))), (b2, .inr (0, [.ref b2l, .int (nI g2)])), (b2l, .inl (cJ, 128, .inr (.inl h2))), (b3, .inr (0, [.ref b3l, .int (nI g3)])), (b3l, .inl (cJ, 128, .inr (.inl h3)))] t.heap ∧ va_D (va_A [(tt, .inr (5, [.ref b1, .ref b2, .ref b3])), (b1, .inr (0, [.ref b1l, .int (nI u1)])), (b1l, .inl (cJ, 128, .inr (.inl f1))), (b2, .inr (0, [.ref b2l, .int (nI u2)])), (b2l, .inl (cJ, 128, .inr (.inl f2))), (b3, .inr (0, [.ref b3l, .int (nI u3)])), (b3l, .inl (cJ, 128, .inr (.inl f3)))] sz) [(tt, .inr (5, [.ref b1, .ref b2, .ref b3])), (b1, .inr (0, [.ref b1l, .int (nI g1)])), (b1l, .inl (cJ, 128, .inr (.inl h1))), (b2, .inr (0, [.ref b2l, .int (nI g2)])), (b2l, .inl (cJ, 128, .inr (.inl h2))), (b3, .inr (0, [.ref b3l, .int (nI g3)])), (b3l, .inl (cJ, 128, .inr (.inl h3)))]) (va_A [(tt, .inr (5, [.ref b1, .ref b2, .ref b3])), (b1, .inr (0, [.ref b1l, .int (nI u1)])), (b1l, .inl (cJ, 128, .inr (.inl f1))), (b2, .inr (0, [.ref b2l, .int (nI u2)])), (b2l, .inl (cJ, 128, .inr (.inl f2))), (b3, .inr (0, [.ref b3l, .int (nI u3)])), (b3l, .inl (cJ, 128, .inr (.inl f3)))] sz)) 0 0 (va_A [(tt, .inr (5, [.ref b1, .ref b2, .ref b3])), (b1, .inr (0, [.ref b1l, .int (nI u1)])), (b1l, .inl (cJ, 128, .inr (.inl f1))), (b2, .inr (0, [.ref b2l, .int (nI u2)])), (b2l, .inl (cJ, 128, .inr (.inl f2))), (b3, .inr (0, [.ref b3l, .int (nI u3)])), (b3l, .inl (cJ, 128, .inr (.inl f3)))] sz) := by
  refine Met.ofW (cc := cX5_clear) (maxL := 1) (ret := none) (by decide) rfl ?_
  intro p e s m args below meth c s₁ B hml hv
  obtain ⟨rfl, hsz, hP, hK, hD0, hN⟩ := hv
  subst hsz
  have hx := B.exec
  have hb := B.bytes
  have hr := B.returns
  have hts := atoms_spec (ws := wsX5_clear) B.pre
  have hown : s.vm.findClass RX5 = some m.cls := findClass_of_methodNamed B.named
  have hlocks := B.notSynchronized
  have hD := hD0.self (sz := s.heap.size)
  generalize hAe : va_A [(tt, .inr (5, [.ref b1, .ref b2, .ref b3])), (b1, .inr (0, [.ref b1l, .int (nI u1)])), (b1l, .inl (cJ, 128, .inr (.inl f1))), (b2, .inr (0, [.ref b2l, .int (nI u2)])), (b2l, .inl (cJ, 128, .inr (.inl f2))), (b3, .inr (0, [.ref b3l, .int (nI u3)])), (b3l, .inl (cJ, 128, .inr (.inl f3)))] s.heap.size = A at hD ⊢
  have hA : ∀ q : Nat, s.heap.size ≤ q → A q := fun q h => by rw [← hAe]; exact Or.inr h
  have hS : va_S A s.heap s.heap [] := va_S.rf
  have hiX5 : ∀ w ∈ u_ws RX5 TX5 3, w ∈ wsX5_clear := by decide +kernel
  have hl := lv_entry ([.ref tt]) (n := 1) (Nat.le_of_ble_eq_true rfl)
  rw [lg_entry_eq]
  generalize (lg_sl ([.ref tt]) ++ List.replicate (1 - (lg_sl ([.ref tt])).length) Slot.unset).toArray = ls at hl ⊢
  have hl : lv_has ls 1 [(0, .ref tt)] := hl
  refine lv_aload_n hx hb dX5_clear_0 rfl (lv_at hl 0 rfl) ?_
  refine va_get (D := (dC, dI)) (ci := 5) (v := .ref b1) (C := RX5) (T := TX5) (N := 3) hx hb hts hiX5 hown hK hP 0 rfl rfl 0 (by decide) (hts (.fieldLink RX5 10 "MadeItSo$Total" "top" "LMadeItSo$Big;") (by decide +kernel)) (fun _ h9 => h9) rfl dX5_clear_1 ?_
  refine lv_iconst (v := 0) hx hb dX5_clear_4 (by decide +kernel) ?_
  have hPc := hP.sub (ws' := [(b1, .inr (0, [.ref b1l, .int (nI u1)])), (b1l, .inl (cJ, 128, .inr (.inl f1)))]) [1, 2] rfl
  have hDc := hD.sub (ws' := [(b1, .inr (0, [.ref b1l, .int (nI u1)])), (b1l, .inl (cJ, 128, .inr (.inl f1)))]) [1, 2] (by decide) rfl
  have hFc := va_free (wc := [(b1, .inr (0, [.ref b1l, .int (nI u1)])), (b1l, .inl (cJ, 128, .inr (.inl f1)))]) hD hS hA [1, 2] rfl
  refine va_callv (va_runV (As := [.int 0]) (rest := []) ⟨hx, hb, hml, hown, hts⟩ (mz_t_becomeDigit l dC dI cI cJ cZ b1 b1l u1 f1 0 s.heap.size (by first | assumption | omega)) (cwV 1 hts gX5_clear_X0_becomeDigit rfl rfl rfl (by decide +kernel) ⟨Nat.le_of_ble_eq_true rfl, Nat.le_of_ble_eq_true rfl⟩) ⟨fun a U g mk q => mz_blI q, va_recv hK hPc (ci := 0) (q0 := 0) rfl rfl, fun U hU hW => ⟨rfl, by rw [hU], by rw [hU]; exact hPc, va_K.moved hW.alike hK, hDc.weaken (fun _ _ _ _ => trivial), mz_nw hW hN⟩⟩ rfl rfl hl.1 rfl (lv_room (Nat.le_of_ble_eq_true rfl)) dX5_clear_5 ⟨Nat.le_of_ble_eq_true rfl, Nat.le_of_ble_eq_true rfl⟩) hS (fun q _ h => hFc q h) hFc (fun u t H1 locs ht hvm hw_5 hB hz1 hk1 hS => ?_)
  obtain ⟨gu_5, gf_5, hx0_5, hP1, hD1⟩ := hB
  rw [ht] at hP1
  obtain ⟨hP, hD⟩ := va_join (wr := [(tt, .inr (5, [.ref b1, .ref b2, .ref b3])), (b2, .inr (0, [.ref b2l, .int (nI u2)])), (b2l, .inl (cJ, 128, .inr (.inl f2))), (b3, .inr (0, [.ref b3l, .int (nI u3)])), (b3l, .inl (cJ, 128, .inr (.inl f3)))]) (w1 := [(b1, .inr (0, [.ref b1l, .int (nI gu_5)])), (b1l, .inl (cJ, 128, .inr (.inl gf_5)))]) hP hD [1, 2] [0, 3, 4, 5, 6] rfl rfl (by decide) (by decide) hk1 hFc hP1 hD1
  generalize H1 = H at hP hS ⊢
  have hP : va_P (dC, dI) vwCl [(tt, .inr (5, [.ref b1, .ref b2, .ref b3])), (b2, .inr (0, [.ref b2l, .int (nI u2)])), (b2l, .inl (cJ, 128, .inr (.inl f2))), (b3, .inr (0, [.ref b3l, .int (nI u3)])), (b3l, .inl (cJ, 128, .inr (.inl f3))), (b1, .inr (0, [.ref b1l, .int (nI gu_5)])), (b1l, .inl (cJ, 128, .inr (.inl gf_5)))] H := hP
  have hD : va_D A [(tt, .inr (5, [.ref b1, .ref b2, .ref b3])), (b2, .inr (0, [.ref b2l, .int (nI u2)])), (b2l, .inl (cJ, 128, .inr (.inl f2))), (b3, .inr (0, [.ref b3l, .int (nI u3)])), (b3l, .inl (cJ, 128, .inr (.inl f3))), (b1, .inr (0, [.ref b1l, .int (nI gu_5)])), (b1l, .inl (cJ, 128, .inr (.inl gf_5)))] := hD
  refine lv_aload_n hx hb dX5_clear_8 rfl (lv_at hl 0 rfl) ?_
  refine va_get (D := (dC, dI)) (ci := 5) (v := .ref b2) (C := RX5) (T := TX5) (N := 3) hx hb hts hiX5 hown hK hP 0 rfl rfl 1 (by decide) (hts (.fieldLink RX5 16 "MadeItSo$Total" "bottom" "LMadeItSo$Big;") (by decide +kernel)) (fun _ h9 => h9) rfl dX5_clear_9 ?_
  refine lv_iconst (v := 1) hx hb dX5_clear_12 (by decide +kernel) ?_
  have hPc := hP.sub (ws' := [(b2, .inr (0, [.ref b2l, .int (nI u2)])), (b2l, .inl (cJ, 128, .inr (.inl f2)))]) [1, 2] rfl
  have hDc := hD.sub (ws' := [(b2, .inr (0, [.ref b2l, .int (nI u2)])), (b2l, .inl (cJ, 128, .inr (.inl f2)))]) [1, 2] (by decide) rfl
  have hFc := va_free (wc := [(b2, .inr (0, [.ref b2l, .int (nI u2)])), (b2l, .inl (cJ, 128, .inr (.inl f2)))]) hD hS hA [1, 2] rfl
  refine va_callv (va_runV (As := [.int 1]) (rest := []) ⟨hx, hb, hml, hown, hts⟩ (mz_t_becomeDigit l dC dI cI cJ cZ b2 b2l u2 f2 1 H.size (by first | assumption | omega)) (cwV 1 hts gX5_clear_X0_becomeDigit rfl rfl rfl (by decide +kernel) ⟨Nat.le_of_ble_eq_true rfl, Nat.le_of_ble_eq_true rfl⟩) ⟨fun a U g mk q => mz_blI q, va_recv hK hPc (ci := 0) (q0 := 0) rfl rfl, fun U hU hW => ⟨rfl, by rw [hU], by rw [hU]; exact hPc, va_K.moved hW.alike hK, hDc.weaken (fun _ _ _ _ => trivial), mz_nw hW hN⟩⟩ rfl rfl hl.1 rfl (lv_room (Nat.le_of_ble_eq_true rfl)) dX5_clear_13 ⟨Nat.le_of_ble_eq_true rfl, Nat.le_of_ble_eq_true rfl⟩) hS (fun q _ h => hFc q h) hFc (fun u t H1 locs ht hvm hw_13 hB hz1 hk1 hS => ?_)
  obtain ⟨gu_13, gf_13, hx0_13, hP1, hD1⟩ := hB
  rw [ht] at hP1
  obtain ⟨hP, hD⟩ := va_join (wr := [(tt, .inr (5, [.ref b1, .ref b2, .ref b3])), (b3, .inr (0, [.ref b3l, .int (nI u3)])), (b3l, .inl (cJ, 128, .inr (.inl f3))), (b1, .inr (0, [.ref b1l, .int (nI gu_5)])), (b1l, .inl (cJ, 128, .inr (.inl gf_5)))]) (w1 := [(b2, .inr (0, [.ref b2l, .int (nI gu_13)])), (b2l, .inl (cJ, 128, .inr (.inl gf_13)))]) hP hD [1, 2] [0, 3, 4, 5, 6] rfl rfl (by decide) (by decide) hk1 hFc hP1 hD1
  generalize H1 = H at hP hS ⊢
  have hP : va_P (dC, dI) vwCl [(tt, .inr (5, [.ref b1, .ref b2, .ref b3])), (b3, .inr (0, [.ref b3l, .int (nI u3)])), (b3l, .inl (cJ, 128, .inr (.inl f3))), (b1, .inr (0, [.ref b1l, .int (nI gu_5)])), (b1l, .inl (cJ, 128, .inr (.inl gf_5))), (b2, .inr (0, [.ref b2l, .int (nI gu_13)])), (b2l, .inl (cJ, 128, .inr (.inl gf_13)))] H := hP
  have hD : va_D A [(tt, .inr (5, [.ref b1, .ref b2, .ref b3])), (b3, .inr (0, [.ref b3l, .int (nI u3)])), (b3l, .inl (cJ, 128, .inr (.inl f3))), (b1, .inr (0, [.ref b1l, .int (nI gu_5)])), (b1l, .inl (cJ, 128, .inr (.inl gf_5))), (b2, .inr (0, [.ref b2l, .int (nI gu_13)])), (b2l, .inl (cJ, 128, .inr (.inl gf_13)))] := hD
  have hP9 := hP.sub (ws' := [(tt, .inr (5, [.ref b1, .ref b2, .ref b3])), (b1, .inr (0, [.ref b1l, .int (nI gu_5)])), (b1l, .inl (cJ, 128, .inr (.inl gf_5))), (b2, .inr (0, [.ref b2l, .int (nI gu_13)])), (b2l, .inl (cJ, 128, .inr (.inl gf_13))), (b3, .inr (0, [.ref b3l, .int (nI u3)])), (b3l, .inl (cJ, 128, .inr (.inl f3)))]) [0, 3, 4, 5, 6, 1, 2] rfl
  have hD9 := hD.sub (ws' := [(tt, .inr (5, [.ref b1, .ref b2, .ref b3])), (b1, .inr (0, [.ref b1l, .int (nI gu_5)])), (b1l, .inl (cJ, 128, .inr (.inl gf_5))), (b2, .inr (0, [.ref b2l, .int (nI gu_13)])), (b2l, .inl (cJ, 128, .inr (.inl gf_13))), (b3, .inr (0, [.ref b3l, .int (nI u3)])), (b3l, .inl (cJ, 128, .inr (.inl f3)))]) [0, 3, 4, 5, 6, 1, 2] (by decide) rfl
  refine W.widen (k := 0) (n := 0) (Nat.le_of_ble_eq_true rfl) (Nat.le_of_ble_eq_true rfl) ?_
  exact W.vret hx hb hr (fun t ht hW => ⟨⟨(), rfl, trivial, gu_5, gf_5, gu_13, gf_13, u3, f3, (by first | assumption | omega), (by first | assumption | omega), (by first | assumption | omega), by rw [ht]; exact hP9, hD9⟩, hS.F ht⟩) hS.2.2 dX5_clear_16
set_option maxHeartbeats 1000000 in
set_option maxRecDepth 100000 in
theorem mz_t_add (l : Launch) (dC : Nat → ClassId) (dI : Nat → Nat → Nat) (cI cJ cZ : ClassId) (tt : Nat) (b1 : Nat) (b1l : Nat) (u1 : Nat) (f1 : Nat → Int64) (b2 : Nat) (b2l : Nat) (u2 : Nat) (f2 : Nat → Int64) (b3 : Nat) (b3l : Nat) (u3 : Nat) (f3 : Nat → Int64) (p0 : Int64) (p1 : Int64) (p2 : Int64) (sz : Nat) (hu1 : u1 ≤ 128) (hu2 : u2 ≤ 128) (hu3 : u3 ≤ 128) : Met l yX5_add wsX5_add ({ frames := 2, cells := 0, slots := 0, locals := 56 }) (va_Pc [.ref tt, .long p0, .long p1, .long p2] (fun U => U.heap.size = sz ∧ va_P (dC, dI) vwCl [(tt, .inr (5, [.ref b1, .ref b2, .ref b3])), (b1, .inr (0, [.ref b1l, .int (nI u1)])), (b1l, .inl (cJ, 128, .inr (.inl f1))), (b2, .inr (0, [.ref b2l, .int (nI u2)])), (b2l, .inl (cJ, 128, .inr (.inl f2))), (b3, .inr (0, [.ref b3l, .int (nI u3)])), (b3l, .inl (cJ, 128, .inr (.inl f3)))] U.heap ∧ va_K (dC, dI) vwCl [(cI, FieldType.int), (cJ, FieldType.long), (cZ, FieldType.boolean)] U ∧ va_D (fun _ => True) [(tt, .inr (5, [.ref b1, .ref b2, .ref b3])), (b1, .inr (0, [.ref b1l, .int (nI u1)])), (b1l, .inl (cJ, 128, .inr (.inl f1))), (b2, .inr (0, [.ref b2l, .int (nI u2)])), (b2l, .inl (cJ, 128, .inr (.inl f2))), (b3, .inr (0, [.ref b3l, .int (nI u3)])), (b3l, .inl (cJ, 128, .inr (.inl f3)))] ∧ mz_N U)) (va_Qv (fun (_ : Unit) => True) (fun _ t => ∃ (g1 : Nat), ∃ (h1 : Nat → Int64), ∃ (g2 : Nat), ∃ (h2 : Nat → Int64), ∃ (g3 : Nat), ∃ (h3 : Nat → Int64), (g1 ≤ 128) ∧ (g2 ≤ 128) ∧ (g3 ≤ 128) ∧ va_P (dC, dI) vwCl [(tt, .inr (5, [.ref b1, .ref b2, .ref b3])), (b1, .inr (0, [.ref b1l, .int (nI g1)])), (b1l, .inl (cJ, 128, .inr (.inl h1))), (b2, .inr (0, [.ref b2l, .int (nI g2)])), (b2l, .inl (cJ, 128, .inr (.inl h2))), (b3, .inr (0, [.ref b3l, .int (nI g3)])), (b3l, .inl (cJ, 128, .inr (.inl h3)))] t.heap ∧ va_D (va_A [(tt, .inr (5, [.ref b1, .ref b2, .ref b3])), (b1, .inr (0, [.ref b1l, .int (nI u1)])), (b1l, .inl (cJ, 128, .inr (.inl f1))), (b2, .inr (0, [.ref b2l, .int (nI u2)])), (b2l, .inl (cJ, 128, .inr (.inl f2))), (b3, .inr (0, [.ref b3l, .int (nI u3)])), (b3l, .inl (cJ, 128, .inr (.inl f3)))] sz) [(tt, .inr (5, [.ref b1, .ref b2, .ref b3])), (b1, .inr (0, [.ref b1l, .int (nI g1)])), (b1l, .inl (cJ, 128, .inr (.inl h1))), (b2, .inr (0, [.ref b2l, .int (nI g2)])), (b2l, .inl (cJ, 128, .inr (.inl h2))), (b3, .inr (0, [.ref b3l, .int (nI g3)])), (b3l, .inl (cJ, 128, .inr (.inl h3)))]) (va_A [(tt, .inr (5, [.ref b1, .ref b2, .ref b3])), (b1, .inr (0, [.ref b1l, .int (nI u1)])), (b1l, .inl (cJ, 128, .inr (.inl f1))), (b2, .inr (0, [.ref b2l, .int (nI u2)])), (b2l, .inl (cJ, 128, .inr (.inl f2))), (b3, .inr (0, [.ref b3l, .int (nI u3)])), (b3l, .inl (cJ, 128, .inr (.inl f3)))] sz)) 0 0 (va_A [(tt, .inr (5, [.ref b1, .ref b2, .ref b3])), (b1, .inr (0, [.ref b1l, .int (nI u1)])), (b1l, .inl (cJ, 128, .inr (.inl f1))), (b2, .inr (0, [.ref b2l, .int (nI u2)])), (b2l, .inl (cJ, 128, .inr (.inl f2))), (b3, .inr (0, [.ref b3l, .int (nI u3)])), (b3l, .inl (cJ, 128, .inr (.inl f3)))] sz) := by
  refine Met.ofW (cc := cX5_add) (maxL := 13) (ret := none) (by decide) rfl ?_
  intro p e s m args below meth c s₁ B hml hv
  obtain ⟨rfl, hsz, hP, hK, hD0, hN⟩ := hv
  subst hsz
  have hx := B.exec
  have hb := B.bytes
  have hr := B.returns
  have hts := atoms_spec (ws := wsX5_add) B.pre
  have hown : s.vm.findClass RX5 = some m.cls := findClass_of_methodNamed B.named
  have hlocks := B.notSynchronized
  have hD := hD0.self (sz := s.heap.size)
  generalize hAe : va_A [(tt, .inr (5, [.ref b1, .ref b2, .ref b3])), (b1, .inr (0, [.ref b1l, .int (nI u1)])), (b1l, .inl (cJ, 128, .inr (.inl f1))), (b2, .inr (0, [.ref b2l, .int (nI u2)])), (b2l, .inl (cJ, 128, .inr (.inl f2))), (b3, .inr (0, [.ref b3l, .int (nI u3)])), (b3l, .inl (cJ, 128, .inr (.inl f3)))] s.heap.size = A at hD ⊢
  have hA : ∀ q : Nat, s.heap.size ≤ q → A q := fun q h => by rw [← hAe]; exact Or.inr h
  have hS : va_S A s.heap s.heap [] := va_S.rf
  have hiX5 : ∀ w ∈ u_ws RX5 TX5 3, w ∈ wsX5_add := by decide +kernel
  have hl := lv_entry ([.ref tt, .long p0, .long p1, .long p2]) (n := 13) (Nat.le_of_ble_eq_true rfl)
  rw [lg_entry_eq]
  generalize (lg_sl ([.ref tt, .long p0, .long p1, .long p2]) ++ List.replicate (13 - (lg_sl ([.ref tt, .long p0, .long p1, .long p2])).length) Slot.unset).toArray = ls at hl ⊢
  have hl : lv_has ls 13 [(0, .ref tt), (1, .long p0), (3, .long p1), (5, .long p2)] := hl
  refine lv_lload hx hb dX5_add_0 (lv_at hl 3 rfl) ?_
  refine lv_lload_n hx hb dX5_add_2 rfl (lv_at hl 1 rfl) ?_
  have hPc := hP.sub (ws' := []) [] rfl
  refine va_calll (va_runSN (As := [.long p2, .long p0]) (rest := []) ⟨hx, hb, hml, hown, hts⟩ (mz_g_commonDivisor l dC dI cI cJ cZ p2 p0 s.heap ) ⟨va_cnB (host := "MadeItSo") 2 hts gX5_add_X7_commonDivisor_n26 rfl rfl rfl (hN (RX5, 26, yX7_commonDivisor, "MadeItSo") (by decide +kernel)) (hts (.initialized RX7) (by decide +kernel)) (by decide +kernel) ⟨Nat.le_of_ble_eq_true rfl, Nat.le_of_ble_eq_true rfl⟩, hts (.static yX7_commonDivisor) (by decide +kernel), trivial⟩ ⟨fun a U g mk q => mz_blP q, fun U hU hW => ⟨rfl, hU, hPc, va_K.moved hW.alike hK, mz_nw hW hN⟩⟩ rfl rfl hl.1 rfl (lv_room (Nat.le_of_ble_eq_true rfl)) dX5_add_3 ⟨Nat.le_of_ble_eq_true rfl, Nat.le_of_ble_eq_true rfl⟩) hS (fun q _ h => h.elim) (fun q h => h.elim) (fun r_3 u t H1 locs ht hvm hw_3 hB hz1 hk1 hS => ?_)
  have hE : s.heap = H1 := hB.symm.trans ht
  subst hE
  refine lv_lstore (lv' := [(7, .long r_3), (0, .ref tt), (1, .long p0), (3, .long p1), (5, .long p2)]) hx hb dX5_add_6 hl (by decide) rfl (fun ls hl => ?_)
  refine lv_lload hx hb dX5_add_8 (lv_at hl 4 rfl) ?_
  refine lv_lload hx hb dX5_add_10 (lv_at hl 0 rfl) ?_
  refine lv_ldiv hx hb dX5_add_12 (by first | assumption | omega) ?_
  refine lv_topl (fun v_12 ev_12 => ?_)
  refine lv_lload_n hx hb dX5_add_13 rfl (lv_at hl 3 rfl) ?_
  have hPc := hP.sub (ws' := []) [] rfl
  refine va_calll (va_runSN (As := [.long v_12, .long p1]) (rest := []) ⟨hx, hb, hml, hown, hts⟩ (mz_g_commonDivisor l dC dI cI cJ cZ v_12 p1 s.heap ) ⟨va_cnB (host := "MadeItSo") 2 hts gX5_add_X7_commonDivisor_n26 rfl rfl rfl (hN (RX5, 26, yX7_commonDivisor, "MadeItSo") (by decide +kernel)) (hts (.initialized RX7) (by decide +kernel)) (by decide +kernel) ⟨Nat.le_of_ble_eq_true rfl, Nat.le_of_ble_eq_true rfl⟩, hts (.static yX7_commonDivisor) (by decide +kernel), trivial⟩ ⟨fun a U g mk q => mz_blP q, fun U hU hW => ⟨rfl, hU, hPc, va_K.moved hW.alike hK, mz_nw hW hN⟩⟩ rfl rfl hl.1 rfl (lv_room (Nat.le_of_ble_eq_true rfl)) dX5_add_14 ⟨Nat.le_of_ble_eq_true rfl, Nat.le_of_ble_eq_true rfl⟩) hS (fun q _ h => h.elim) (fun q h => h.elim) (fun r_14 u t H1 locs ht hvm hw_14 hB hz1 hk1 hS => ?_)
  have hE : s.heap = H1 := hB.symm.trans ht
  subst hE
  refine lv_lstore (lv' := [(9, .long r_14), (7, .long r_3), (0, .ref tt), (1, .long p0), (3, .long p1), (5, .long p2)]) hx hb dX5_add_17 hl (by decide) rfl (fun ls hl => ?_)
  refine lv_lload hx hb dX5_add_19 (lv_at hl 5 rfl) ?_
  refine lv_lload hx hb dX5_add_21 (lv_at hl 1 rfl) ?_
  refine lv_ldiv hx hb dX5_add_23 (by first | assumption | omega) ?_
  refine lv_topl (fun v_23 ev_23 => ?_)
  refine lv_lload hx hb dX5_add_24 (lv_at hl 0 rfl) ?_
  refine lv_ldiv hx hb dX5_add_26 (by first | assumption | omega) ?_
  refine lv_topl (fun v_26 ev_26 => ?_)
  refine lv_lstore (lv' := [(11, .long v_26), (9, .long r_14), (7, .long r_3), (0, .ref tt), (1, .long p0), (3, .long p1), (5, .long p2)]) hx hb dX5_add_27 hl (by decide) rfl (fun ls hl => ?_)
  refine lv_aload_n hx hb dX5_add_29 rfl (lv_at hl 3 rfl) ?_
  refine va_get (D := (dC, dI)) (ci := 5) (v := .ref b3) (C := RX5) (T := TX5) (N := 3) hx hb hts hiX5 hown hK hP 0 rfl rfl 2 (by decide) (hts (.fieldLink RX5 19 "MadeItSo$Total" "spare" "LMadeItSo$Big;") (by decide +kernel)) (fun _ h9 => h9) rfl dX5_add_30 ?_
  refine lv_aload_n hx hb dX5_add_33 rfl (lv_at hl 3 rfl) ?_
  refine va_get (D := (dC, dI)) (ci := 5) (v := .ref b2) (C := RX5) (T := TX5) (N := 3) hx hb hts hiX5 hown hK hP 0 rfl rfl 1 (by decide) (hts (.fieldLink RX5 16 "MadeItSo$Total" "bottom" "LMadeItSo$Big;") (by decide +kernel)) (fun _ h9 => h9) rfl dX5_add_34 ?_
  have hPc := hP.sub (ws' := [(b3, .inr (0, [.ref b3l, .int (nI u3)])), (b3l, .inl (cJ, 128, .inr (.inl f3))), (b2, .inr (0, [.ref b2l, .int (nI u2)])), (b2l, .inl (cJ, 128, .inr (.inl f2)))]) [5, 6, 3, 4] rfl
  have hDc := hD.sub (ws' := [(b3, .inr (0, [.ref b3l, .int (nI u3)])), (b3l, .inl (cJ, 128, .inr (.inl f3))), (b2, .inr (0, [.ref b2l, .int (nI u2)])), (b2l, .inl (cJ, 128, .inr (.inl f2)))]) [5, 6, 3, 4] (by decide) rfl
  have hFc := va_free (wc := [(b3, .inr (0, [.ref b3l, .int (nI u3)])), (b3l, .inl (cJ, 128, .inr (.inl f3))), (b2, .inr (0, [.ref b2l, .int (nI u2)])), (b2l, .inl (cJ, 128, .inr (.inl f2)))]) hD hS hA [5, 6, 3, 4] rfl
  refine va_callv (va_runV (As := [.ref b2]) (rest := []) ⟨hx, hb, hml, hown, hts⟩ (mz_t_become l dC dI cI cJ cZ b3 b3l u3 f3 b2 b2l u2 f2 s.heap.size (by first | assumption | omega) (by first | assumption | omega)) (cwV 1 hts gX5_add_X0_become rfl rfl rfl (by decide +kernel) ⟨Nat.le_of_ble_eq_true rfl, Nat.le_of_ble_eq_true rfl⟩) ⟨fun a U g mk q => mz_blI q, va_recv hK hPc (ci := 0) (q0 := 0) rfl rfl, fun U hU hW => ⟨rfl, by rw [hU], by rw [hU]; exact hPc, va_K.moved hW.alike hK, hDc.weaken (fun _ _ _ _ => trivial), mz_nw hW hN⟩⟩ rfl rfl hl.1 rfl (lv_room (Nat.le_of_ble_eq_true rfl)) dX5_add_37 ⟨Nat.le_of_ble_eq_true rfl, Nat.le_of_ble_eq_true rfl⟩) hS (fun q _ h => hFc q h) hFc (fun u t H1 locs ht hvm hw_37 hB hz1 hk1 hS => ?_)
  obtain ⟨gf_37, hP1, hD1⟩ := hB
  rw [ht] at hP1
  obtain ⟨hP, hD⟩ := va_join (wr := [(tt, .inr (5, [.ref b1, .ref b2, .ref b3])), (b1, .inr (0, [.ref b1l, .int (nI u1)])), (b1l, .inl (cJ, 128, .inr (.inl f1)))]) (w1 := [(b3, .inr (0, [.ref b3l, .int (nI u2)])), (b3l, .inl (cJ, 128, .inr (.inl gf_37))), (b2, .inr (0, [.ref b2l, .int (nI u2)])), (b2l, .inl (cJ, 128, .inr (.inl f2)))]) hP hD [5, 6, 3, 4] [0, 1, 2] rfl rfl (by decide) (by decide) hk1 hFc hP1 hD1
  generalize H1 = H at hP hS ⊢
  have hP : va_P (dC, dI) vwCl [(tt, .inr (5, [.ref b1, .ref b2, .ref b3])), (b1, .inr (0, [.ref b1l, .int (nI u1)])), (b1l, .inl (cJ, 128, .inr (.inl f1))), (b3, .inr (0, [.ref b3l, .int (nI u2)])), (b3l, .inl (cJ, 128, .inr (.inl gf_37))), (b2, .inr (0, [.ref b2l, .int (nI u2)])), (b2l, .inl (cJ, 128, .inr (.inl f2)))] H := hP
  have hD : va_D A [(tt, .inr (5, [.ref b1, .ref b2, .ref b3])), (b1, .inr (0, [.ref b1l, .int (nI u1)])), (b1l, .inl (cJ, 128, .inr (.inl f1))), (b3, .inr (0, [.ref b3l, .int (nI u2)])), (b3l, .inl (cJ, 128, .inr (.inl gf_37))), (b2, .inr (0, [.ref b2l, .int (nI u2)])), (b2l, .inl (cJ, 128, .inr (.inl f2)))] := hD
  refine lv_aload_n hx hb dX5_add_40 rfl (lv_at hl 3 rfl) ?_
  refine va_get (D := (dC, dI)) (ci := 5) (v := .ref b3) (C := RX5) (T := TX5) (N := 3) hx hb hts hiX5 hown hK hP 0 rfl rfl 2 (by decide) (hts (.fieldLink RX5 19 "MadeItSo$Total" "spare" "LMadeItSo$Big;") (by decide +kernel)) (fun _ h9 => h9) rfl dX5_add_41 ?_
  refine lv_lload_n hx hb dX5_add_44 rfl (lv_at hl 4 rfl) ?_
  refine lv_lload hx hb dX5_add_45 (lv_at hl 2 rfl) ?_
  refine lv_ldiv hx hb dX5_add_47 (by first | assumption | omega) ?_
  refine lv_topl (fun v_47 ev_47 => ?_)
  have hPc := hP.sub (ws' := [(b3, .inr (0, [.ref b3l, .int (nI u2)])), (b3l, .inl (cJ, 128, .inr (.inl gf_37)))]) [3, 4] rfl
  have hDc := hD.sub (ws' := [(b3, .inr (0, [.ref b3l, .int (nI u2)])), (b3l, .inl (cJ, 128, .inr (.inl gf_37)))]) [3, 4] (by decide) rfl
  have hFc := va_free (wc := [(b3, .inr (0, [.ref b3l, .int (nI u2)])), (b3l, .inl (cJ, 128, .inr (.inl gf_37)))]) hD hS hA [3, 4] rfl
  refine va_callv (va_runV (As := [.long v_47]) (rest := []) ⟨hx, hb, hml, hown, hts⟩ (mz_t_times l dC dI cI cJ cZ b3 b3l u2 gf_37 v_47 H.size (by first | assumption | omega)) (cwV 1 hts gX5_add_X0_times rfl rfl rfl (by decide +kernel) ⟨Nat.le_of_ble_eq_true rfl, Nat.le_of_ble_eq_true rfl⟩) ⟨fun a U g mk q => mz_blI q, va_recv hK hPc (ci := 0) (q0 := 0) rfl rfl, fun U hU hW => ⟨rfl, by rw [hU], by rw [hU]; exact hPc, va_K.moved hW.alike hK, hDc.weaken (fun _ _ _ _ => trivial), mz_nw hW hN⟩⟩ rfl rfl hl.1 rfl (lv_room (Nat.le_of_ble_eq_true rfl)) dX5_add_48 ⟨Nat.le_of_ble_eq_true rfl, Nat.le_of_ble_eq_true rfl⟩) hS (fun q _ h => hFc q h) hFc (fun u t H1 locs ht hvm hw_48 hB hz1 hk1 hS => ?_)
  obtain ⟨gu_48, gf_48, hx0_48, hP1, hD1⟩ := hB
  rw [ht] at hP1
  obtain ⟨hP, hD⟩ := va_join (wr := [(tt, .inr (5, [.ref b1, .ref b2, .ref b3])), (b1, .inr (0, [.ref b1l, .int (nI u1)])), (b1l, .inl (cJ, 128, .inr (.inl f1))), (b2, .inr (0, [.ref b2l, .int (nI u2)])), (b2l, .inl (cJ, 128, .inr (.inl f2)))]) (w1 := [(b3, .inr (0, [.ref b3l, .int (nI gu_48)])), (b3l, .inl (cJ, 128, .inr (.inl gf_48)))]) hP hD [3, 4] [0, 1, 2, 5, 6] rfl rfl (by decide) (by decide) hk1 hFc hP1 hD1
  generalize H1 = H at hP hS ⊢
  have hP : va_P (dC, dI) vwCl [(tt, .inr (5, [.ref b1, .ref b2, .ref b3])), (b1, .inr (0, [.ref b1l, .int (nI u1)])), (b1l, .inl (cJ, 128, .inr (.inl f1))), (b2, .inr (0, [.ref b2l, .int (nI u2)])), (b2l, .inl (cJ, 128, .inr (.inl f2))), (b3, .inr (0, [.ref b3l, .int (nI gu_48)])), (b3l, .inl (cJ, 128, .inr (.inl gf_48)))] H := hP
  have hD : va_D A [(tt, .inr (5, [.ref b1, .ref b2, .ref b3])), (b1, .inr (0, [.ref b1l, .int (nI u1)])), (b1l, .inl (cJ, 128, .inr (.inl f1))), (b2, .inr (0, [.ref b2l, .int (nI u2)])), (b2l, .inl (cJ, 128, .inr (.inl f2))), (b3, .inr (0, [.ref b3l, .int (nI gu_48)])), (b3l, .inl (cJ, 128, .inr (.inl gf_48)))] := hD
  refine lv_aload_n hx hb dX5_add_51 rfl (lv_at hl 3 rfl) ?_
  refine va_get (D := (dC, dI)) (ci := 5) (v := .ref b3) (C := RX5) (T := TX5) (N := 3) hx hb hts hiX5 hown hK hP 0 rfl rfl 2 (by decide) (hts (.fieldLink RX5 19 "MadeItSo$Total" "spare" "LMadeItSo$Big;") (by decide +kernel)) (fun _ h9 => h9) rfl dX5_add_52 ?_
  refine lv_lload_n hx hb dX5_add_55 rfl (lv_at hl 5 rfl) ?_
  refine lv_lload hx hb dX5_add_56 (lv_at hl 1 rfl) ?_
  refine lv_ldiv hx hb dX5_add_58 (by first | assumption | omega) ?_
  refine lv_topl (fun v_58 ev_58 => ?_)
  have hPc := hP.sub (ws' := [(b3, .inr (0, [.ref b3l, .int (nI gu_48)])), (b3l, .inl (cJ, 128, .inr (.inl gf_48)))]) [5, 6] rfl
  have hDc := hD.sub (ws' := [(b3, .inr (0, [.ref b3l, .int (nI gu_48)])), (b3l, .inl (cJ, 128, .inr (.inl gf_48)))]) [5, 6] (by decide) rfl
  have hFc := va_free (wc := [(b3, .inr (0, [.ref b3l, .int (nI gu_48)])), (b3l, .inl (cJ, 128, .inr (.inl gf_48)))]) hD hS hA [5, 6] rfl
  refine va_callv (va_runV (As := [.long v_58]) (rest := []) ⟨hx, hb, hml, hown, hts⟩ (mz_t_times l dC dI cI cJ cZ b3 b3l gu_48 gf_48 v_58 H.size (by first | assumption | omega)) (cwV 1 hts gX5_add_X0_times rfl rfl rfl (by decide +kernel) ⟨Nat.le_of_ble_eq_true rfl, Nat.le_of_ble_eq_true rfl⟩) ⟨fun a U g mk q => mz_blI q, va_recv hK hPc (ci := 0) (q0 := 0) rfl rfl, fun U hU hW => ⟨rfl, by rw [hU], by rw [hU]; exact hPc, va_K.moved hW.alike hK, hDc.weaken (fun _ _ _ _ => trivial), mz_nw hW hN⟩⟩ rfl rfl hl.1 rfl (lv_room (Nat.le_of_ble_eq_true rfl)) dX5_add_59 ⟨Nat.le_of_ble_eq_true rfl, Nat.le_of_ble_eq_true rfl⟩) hS (fun q _ h => hFc q h) hFc (fun u t H1 locs ht hvm hw_59 hB hz1 hk1 hS => ?_)
  obtain ⟨gu_59, gf_59, hx0_59, hP1, hD1⟩ := hB
  rw [ht] at hP1
  obtain ⟨hP, hD⟩ := va_join (wr := [(tt, .inr (5, [.ref b1, .ref b2, .ref b3])), (b1, .inr (0, [.ref b1l, .int (nI u1)])), (b1l, .inl (cJ, 128, .inr (.inl f1))), (b2, .inr (0, [.ref b2l, .int (nI u2)])), (b2l, .inl (cJ, 128, .inr (.inl f2)))]) (w1 := [(b3, .inr (0, [.ref b3l, .int (nI gu_59)])), (b3l, .inl (cJ, 128, .inr (.inl gf_59)))]) hP hD [5, 6] [0, 1, 2, 3, 4] rfl rfl (by decide) (by decide) hk1 hFc hP1 hD1
  generalize H1 = H at hP hS ⊢
  have hP : va_P (dC, dI) vwCl [(tt, .inr (5, [.ref b1, .ref b2, .ref b3])), (b1, .inr (0, [.ref b1l, .int (nI u1)])), (b1l, .inl (cJ, 128, .inr (.inl f1))), (b2, .inr (0, [.ref b2l, .int (nI u2)])), (b2l, .inl (cJ, 128, .inr (.inl f2))), (b3, .inr (0, [.ref b3l, .int (nI gu_59)])), (b3l, .inl (cJ, 128, .inr (.inl gf_59)))] H := hP
  have hD : va_D A [(tt, .inr (5, [.ref b1, .ref b2, .ref b3])), (b1, .inr (0, [.ref b1l, .int (nI u1)])), (b1l, .inl (cJ, 128, .inr (.inl f1))), (b2, .inr (0, [.ref b2l, .int (nI u2)])), (b2l, .inl (cJ, 128, .inr (.inl f2))), (b3, .inr (0, [.ref b3l, .int (nI gu_59)])), (b3l, .inl (cJ, 128, .inr (.inl gf_59)))] := hD
  refine lv_aload_n hx hb dX5_add_62 rfl (lv_at hl 3 rfl) ?_
  refine va_get (D := (dC, dI)) (ci := 5) (v := .ref b1) (C := RX5) (T := TX5) (N := 3) hx hb hts hiX5 hown hK hP 0 rfl rfl 0 (by decide) (hts (.fieldLink RX5 10 "MadeItSo$Total" "top" "LMadeItSo$Big;") (by decide +kernel)) (fun _ h9 => h9) rfl dX5_add_63 ?_
  refine lv_lload hx hb dX5_add_66 (lv_at hl 0 rfl) ?_
  have hPc := hP.sub (ws' := [(b1, .inr (0, [.ref b1l, .int (nI u1)])), (b1l, .inl (cJ, 128, .inr (.inl f1)))]) [1, 2] rfl
  have hDc := hD.sub (ws' := [(b1, .inr (0, [.ref b1l, .int (nI u1)])), (b1l, .inl (cJ, 128, .inr (.inl f1)))]) [1, 2] (by decide) rfl
  have hFc := va_free (wc := [(b1, .inr (0, [.ref b1l, .int (nI u1)])), (b1l, .inl (cJ, 128, .inr (.inl f1)))]) hD hS hA [1, 2] rfl
  refine va_callv (va_runV (As := [.long v_26]) (rest := []) ⟨hx, hb, hml, hown, hts⟩ (mz_t_times l dC dI cI cJ cZ b1 b1l u1 f1 v_26 H.size (by first | assumption | omega)) (cwV 1 hts gX5_add_X0_times rfl rfl rfl (by decide +kernel) ⟨Nat.le_of_ble_eq_true rfl, Nat.le_of_ble_eq_true rfl⟩) ⟨fun a U g mk q => mz_blI q, va_recv hK hPc (ci := 0) (q0 := 0) rfl rfl, fun U hU hW => ⟨rfl, by rw [hU], by rw [hU]; exact hPc, va_K.moved hW.alike hK, hDc.weaken (fun _ _ _ _ => trivial), mz_nw hW hN⟩⟩ rfl rfl hl.1 rfl (lv_room (Nat.le_of_ble_eq_true rfl)) dX5_add_68 ⟨Nat.le_of_ble_eq_true rfl, Nat.le_of_ble_eq_true rfl⟩) hS (fun q _ h => hFc q h) hFc (fun u t H1 locs ht hvm hw_68 hB hz1 hk1 hS => ?_)
  obtain ⟨gu_68, gf_68, hx0_68, hP1, hD1⟩ := hB
  rw [ht] at hP1
  obtain ⟨hP, hD⟩ := va_join (wr := [(tt, .inr (5, [.ref b1, .ref b2, .ref b3])), (b2, .inr (0, [.ref b2l, .int (nI u2)])), (b2l, .inl (cJ, 128, .inr (.inl f2))), (b3, .inr (0, [.ref b3l, .int (nI gu_59)])), (b3l, .inl (cJ, 128, .inr (.inl gf_59)))]) (w1 := [(b1, .inr (0, [.ref b1l, .int (nI gu_68)])), (b1l, .inl (cJ, 128, .inr (.inl gf_68)))]) hP hD [1, 2] [0, 3, 4, 5, 6] rfl rfl (by decide) (by decide) hk1 hFc hP1 hD1
  generalize H1 = H at hP hS ⊢
  have hP : va_P (dC, dI) vwCl [(tt, .inr (5, [.ref b1, .ref b2, .ref b3])), (b2, .inr (0, [.ref b2l, .int (nI u2)])), (b2l, .inl (cJ, 128, .inr (.inl f2))), (b3, .inr (0, [.ref b3l, .int (nI gu_59)])), (b3l, .inl (cJ, 128, .inr (.inl gf_59))), (b1, .inr (0, [.ref b1l, .int (nI gu_68)])), (b1l, .inl (cJ, 128, .inr (.inl gf_68)))] H := hP
  have hD : va_D A [(tt, .inr (5, [.ref b1, .ref b2, .ref b3])), (b2, .inr (0, [.ref b2l, .int (nI u2)])), (b2l, .inl (cJ, 128, .inr (.inl f2))), (b3, .inr (0, [.ref b3l, .int (nI gu_59)])), (b3l, .inl (cJ, 128, .inr (.inl gf_59))), (b1, .inr (0, [.ref b1l, .int (nI gu_68)])), (b1l, .inl (cJ, 128, .inr (.inl gf_68)))] := hD
  refine lv_aload_n hx hb dX5_add_71 rfl (lv_at hl 3 rfl) ?_
  refine va_get (D := (dC, dI)) (ci := 5) (v := .ref b2) (C := RX5) (T := TX5) (N := 3) hx hb hts hiX5 hown hK hP 0 rfl rfl 1 (by decide) (hts (.fieldLink RX5 16 "MadeItSo$Total" "bottom" "LMadeItSo$Big;") (by decide +kernel)) (fun _ h9 => h9) rfl dX5_add_72 ?_
  refine lv_lload hx hb dX5_add_75 (lv_at hl 0 rfl) ?_
  have hPc := hP.sub (ws' := [(b2, .inr (0, [.ref b2l, .int (nI u2)])), (b2l, .inl (cJ, 128, .inr (.inl f2)))]) [1, 2] rfl
  have hDc := hD.sub (ws' := [(b2, .inr (0, [.ref b2l, .int (nI u2)])), (b2l, .inl (cJ, 128, .inr (.inl f2)))]) [1, 2] (by decide) rfl
  have hFc := va_free (wc := [(b2, .inr (0, [.ref b2l, .int (nI u2)])), (b2l, .inl (cJ, 128, .inr (.inl f2)))]) hD hS hA [1, 2] rfl
  refine va_callv (va_runV (As := [.long v_26]) (rest := []) ⟨hx, hb, hml, hown, hts⟩ (mz_t_times l dC dI cI cJ cZ b2 b2l u2 f2 v_26 H.size (by first | assumption | omega)) (cwV 1 hts gX5_add_X0_times rfl rfl rfl (by decide +kernel) ⟨Nat.le_of_ble_eq_true rfl, Nat.le_of_ble_eq_true rfl⟩) ⟨fun a U g mk q => mz_blI q, va_recv hK hPc (ci := 0) (q0 := 0) rfl rfl, fun U hU hW => ⟨rfl, by rw [hU], by rw [hU]; exact hPc, va_K.moved hW.alike hK, hDc.weaken (fun _ _ _ _ => trivial), mz_nw hW hN⟩⟩ rfl rfl hl.1 rfl (lv_room (Nat.le_of_ble_eq_true rfl)) dX5_add_77 ⟨Nat.le_of_ble_eq_true rfl, Nat.le_of_ble_eq_true rfl⟩) hS (fun q _ h => hFc q h) hFc (fun u t H1 locs ht hvm hw_77 hB hz1 hk1 hS => ?_)
  obtain ⟨gu_77, gf_77, hx0_77, hP1, hD1⟩ := hB
  rw [ht] at hP1
  obtain ⟨hP, hD⟩ := va_join (wr := [(tt, .inr (5, [.ref b1, .ref b2, .ref b3])), (b3, .inr (0, [.ref b3l, .int (nI gu_59)])), (b3l, .inl (cJ, 128, .inr (.inl gf_59))), (b1, .inr (0, [.ref b1l, .int (nI gu_68)])), (b1l, .inl (cJ, 128, .inr (.inl gf_68)))]) (w1 := [(b2, .inr (0, [.ref b2l, .int (nI gu_77)])), (b2l, .inl (cJ, 128, .inr (.inl gf_77)))]) hP hD [1, 2] [0, 3, 4, 5, 6] rfl rfl (by decide) (by decide) hk1 hFc hP1 hD1
  generalize H1 = H at hP hS ⊢
  have hP : va_P (dC, dI) vwCl [(tt, .inr (5, [.ref b1, .ref b2, .ref b3])), (b3, .inr (0, [.ref b3l, .int (nI gu_59)])), (b3l, .inl (cJ, 128, .inr (.inl gf_59))), (b1, .inr (0, [.ref b1l, .int (nI gu_68)])), (b1l, .inl (cJ, 128, .inr (.inl gf_68))), (b2, .inr (0, [.ref b2l, .int (nI gu_77)])), (b2l, .inl (cJ, 128, .inr (.inl gf_77)))] H := hP
  have hD : va_D A [(tt, .inr (5, [.ref b1, .ref b2, .ref b3])), (b3, .inr (0, [.ref b3l, .int (nI gu_59)])), (b3l, .inl (cJ, 128, .inr (.inl gf_59))), (b1, .inr (0, [.ref b1l, .int (nI gu_68)])), (b1l, .inl (cJ, 128, .inr (.inl gf_68))), (b2, .inr (0, [.ref b2l, .int (nI gu_77)])), (b2l, .inl (cJ, 128, .inr (.inl gf_77)))] := hD
  refine lv_aload_n hx hb dX5_add_80 rfl (lv_at hl 3 rfl) ?_
  refine va_get (D := (dC, dI)) (ci := 5) (v := .ref b1) (C := RX5) (T := TX5) (N := 3) hx hb hts hiX5 hown hK hP 0 rfl rfl 0 (by decide) (hts (.fieldLink RX5 10 "MadeItSo$Total" "top" "LMadeItSo$Big;") (by decide +kernel)) (fun _ h9 => h9) rfl dX5_add_81 ?_
  refine lv_aload_n hx hb dX5_add_84 rfl (lv_at hl 3 rfl) ?_
  refine va_get (D := (dC, dI)) (ci := 5) (v := .ref b3) (C := RX5) (T := TX5) (N := 3) hx hb hts hiX5 hown hK hP 0 rfl rfl 2 (by decide) (hts (.fieldLink RX5 19 "MadeItSo$Total" "spare" "LMadeItSo$Big;") (by decide +kernel)) (fun _ h9 => h9) rfl dX5_add_85 ?_
  have hPc := hP.sub (ws' := [(b1, .inr (0, [.ref b1l, .int (nI gu_68)])), (b1l, .inl (cJ, 128, .inr (.inl gf_68))), (b3, .inr (0, [.ref b3l, .int (nI gu_59)])), (b3l, .inl (cJ, 128, .inr (.inl gf_59)))]) [3, 4, 1, 2] rfl
  have hDc := hD.sub (ws' := [(b1, .inr (0, [.ref b1l, .int (nI gu_68)])), (b1l, .inl (cJ, 128, .inr (.inl gf_68))), (b3, .inr (0, [.ref b3l, .int (nI gu_59)])), (b3l, .inl (cJ, 128, .inr (.inl gf_59)))]) [3, 4, 1, 2] (by decide) rfl
  have hFc := va_free (wc := [(b1, .inr (0, [.ref b1l, .int (nI gu_68)])), (b1l, .inl (cJ, 128, .inr (.inl gf_68))), (b3, .inr (0, [.ref b3l, .int (nI gu_59)])), (b3l, .inl (cJ, 128, .inr (.inl gf_59)))]) hD hS hA [3, 4, 1, 2] rfl
  refine va_callv (va_runV (As := [.ref b3]) (rest := []) ⟨hx, hb, hml, hown, hts⟩ (mz_t_plus l dC dI cI cJ cZ b1 b1l gu_68 gf_68 b3 b3l gu_59 gf_59 H.size (by first | assumption | omega) (by first | assumption | omega)) (cwV 1 hts gX5_add_X0_plus rfl rfl rfl (by decide +kernel) ⟨Nat.le_of_ble_eq_true rfl, Nat.le_of_ble_eq_true rfl⟩) ⟨fun a U g mk q => mz_blI q, va_recv hK hPc (ci := 0) (q0 := 0) rfl rfl, fun U hU hW => ⟨rfl, by rw [hU], by rw [hU]; exact hPc, va_K.moved hW.alike hK, hDc.weaken (fun _ _ _ _ => trivial), mz_nw hW hN⟩⟩ rfl rfl hl.1 rfl (lv_room (Nat.le_of_ble_eq_true rfl)) dX5_add_88 ⟨Nat.le_of_ble_eq_true rfl, Nat.le_of_ble_eq_true rfl⟩) hS (fun q _ h => hFc q h) hFc (fun u t H1 locs ht hvm hw_88 hB hz1 hk1 hS => ?_)
  obtain ⟨gu_88, gf_88, hx0_88, hP1, hD1⟩ := hB
  rw [ht] at hP1
  obtain ⟨hP, hD⟩ := va_join (wr := [(tt, .inr (5, [.ref b1, .ref b2, .ref b3])), (b2, .inr (0, [.ref b2l, .int (nI gu_77)])), (b2l, .inl (cJ, 128, .inr (.inl gf_77)))]) (w1 := [(b1, .inr (0, [.ref b1l, .int (nI gu_88)])), (b1l, .inl (cJ, 128, .inr (.inl gf_88))), (b3, .inr (0, [.ref b3l, .int (nI gu_59)])), (b3l, .inl (cJ, 128, .inr (.inl gf_59)))]) hP hD [3, 4, 1, 2] [0, 5, 6] rfl rfl (by decide) (by decide) hk1 hFc hP1 hD1
  generalize H1 = H at hP hS ⊢
  have hP : va_P (dC, dI) vwCl [(tt, .inr (5, [.ref b1, .ref b2, .ref b3])), (b2, .inr (0, [.ref b2l, .int (nI gu_77)])), (b2l, .inl (cJ, 128, .inr (.inl gf_77))), (b1, .inr (0, [.ref b1l, .int (nI gu_88)])), (b1l, .inl (cJ, 128, .inr (.inl gf_88))), (b3, .inr (0, [.ref b3l, .int (nI gu_59)])), (b3l, .inl (cJ, 128, .inr (.inl gf_59)))] H := hP
  have hD : va_D A [(tt, .inr (5, [.ref b1, .ref b2, .ref b3])), (b2, .inr (0, [.ref b2l, .int (nI gu_77)])), (b2l, .inl (cJ, 128, .inr (.inl gf_77))), (b1, .inr (0, [.ref b1l, .int (nI gu_88)])), (b1l, .inl (cJ, 128, .inr (.inl gf_88))), (b3, .inr (0, [.ref b3l, .int (nI gu_59)])), (b3l, .inl (cJ, 128, .inr (.inl gf_59)))] := hD
  have hP9 := hP.sub (ws' := [(tt, .inr (5, [.ref b1, .ref b2, .ref b3])), (b1, .inr (0, [.ref b1l, .int (nI gu_88)])), (b1l, .inl (cJ, 128, .inr (.inl gf_88))), (b2, .inr (0, [.ref b2l, .int (nI gu_77)])), (b2l, .inl (cJ, 128, .inr (.inl gf_77))), (b3, .inr (0, [.ref b3l, .int (nI gu_59)])), (b3l, .inl (cJ, 128, .inr (.inl gf_59)))]) [0, 3, 4, 1, 2, 5, 6] rfl
  have hD9 := hD.sub (ws' := [(tt, .inr (5, [.ref b1, .ref b2, .ref b3])), (b1, .inr (0, [.ref b1l, .int (nI gu_88)])), (b1l, .inl (cJ, 128, .inr (.inl gf_88))), (b2, .inr (0, [.ref b2l, .int (nI gu_77)])), (b2l, .inl (cJ, 128, .inr (.inl gf_77))), (b3, .inr (0, [.ref b3l, .int (nI gu_59)])), (b3l, .inl (cJ, 128, .inr (.inl gf_59)))]) [0, 3, 4, 1, 2, 5, 6] (by decide) rfl
  refine W.widen (k := 0) (n := 0) (Nat.le_of_ble_eq_true rfl) (Nat.le_of_ble_eq_true rfl) ?_
  exact W.vret hx hb hr (fun t ht hW => ⟨⟨(), rfl, trivial, gu_88, gf_88, gu_77, gf_77, gu_59, gf_59, (by first | assumption | omega), (by first | assumption | omega), (by first | assumption | omega), by rw [ht]; exact hP9, hD9⟩, hS.F ht⟩) hS.2.2 dX5_add_91
set_option maxHeartbeats 1000000 in
set_option maxRecDepth 100000 in
theorem mz_t_is (l : Launch) (dC : Nat → ClassId) (dI : Nat → Nat → Nat) (cI cJ cZ : ClassId) (tt : Nat) (b1 : Nat) (b1l : Nat) (u1 : Nat) (f1 : Nat → Int64) (b2 : Nat) (b2l : Nat) (u2 : Nat) (f2 : Nat → Int64) (b3 : Nat) (b3l : Nat) (u3 : Nat) (f3 : Nat → Int64) (p0 : Int64) (sz : Nat) (hu1 : u1 ≤ 128) (hu2 : u2 ≤ 128) (hu3 : u3 ≤ 128) : Met l yX5_is wsX5_is ({ frames := 2, cells := 0, slots := 0, locals := 56 }) (va_Pc [.ref tt, .long p0] (fun U => U.heap.size = sz ∧ va_P (dC, dI) vwCl [(tt, .inr (5, [.ref b1, .ref b2, .ref b3])), (b1, .inr (0, [.ref b1l, .int (nI u1)])), (b1l, .inl (cJ, 128, .inr (.inl f1))), (b2, .inr (0, [.ref b2l, .int (nI u2)])), (b2l, .inl (cJ, 128, .inr (.inl f2))), (b3, .inr (0, [.ref b3l, .int (nI u3)])), (b3l, .inl (cJ, 128, .inr (.inl f3)))] U.heap ∧ va_K (dC, dI) vwCl [(cI, FieldType.int), (cJ, FieldType.long), (cZ, FieldType.boolean)] U ∧ va_D (fun _ => True) [(tt, .inr (5, [.ref b1, .ref b2, .ref b3])), (b1, .inr (0, [.ref b1l, .int (nI u1)])), (b1l, .inl (cJ, 128, .inr (.inl f1))), (b2, .inr (0, [.ref b2l, .int (nI u2)])), (b2l, .inl (cJ, 128, .inr (.inl f2))), (b3, .inr (0, [.ref b3l, .int (nI u3)])), (b3l, .inl (cJ, 128, .inr (.inl f3)))] ∧ mz_N U)) (va_Qi (fun (r : Int32) (_ : Unit) => r = 0 ∨ r = 1) (fun _ t => ∃ (g1 : Nat), ∃ (h1 : Nat → Int64), ∃ (g2 : Nat), ∃ (h2 : Nat → Int64), ∃ (g3 : Nat), ∃ (h3 : Nat → Int64), (g1 ≤ 128) ∧ (g2 ≤ 128) ∧ (g3 ≤ 128) ∧ va_P (dC, dI) vwCl [(tt, .inr (5, [.ref b1, .ref b2, .ref b3])), (b1, .inr (0, [.ref b1l, .int (nI g1)])), (b1l, .inl (cJ, 128, .inr (.inl h1))), (b2, .inr (0, [.ref b2l, .int (nI g2)])), (b2l, .inl (cJ, 128, .inr (.inl h2))), (b3, .inr (0, [.ref b3l, .int (nI g3)])), (b3l, .inl (cJ, 128, .inr (.inl h3)))] t.heap ∧ va_D (va_A [(tt, .inr (5, [.ref b1, .ref b2, .ref b3])), (b1, .inr (0, [.ref b1l, .int (nI u1)])), (b1l, .inl (cJ, 128, .inr (.inl f1))), (b2, .inr (0, [.ref b2l, .int (nI u2)])), (b2l, .inl (cJ, 128, .inr (.inl f2))), (b3, .inr (0, [.ref b3l, .int (nI u3)])), (b3l, .inl (cJ, 128, .inr (.inl f3)))] sz) [(tt, .inr (5, [.ref b1, .ref b2, .ref b3])), (b1, .inr (0, [.ref b1l, .int (nI g1)])), (b1l, .inl (cJ, 128, .inr (.inl h1))), (b2, .inr (0, [.ref b2l, .int (nI g2)])), (b2l, .inl (cJ, 128, .inr (.inl h2))), (b3, .inr (0, [.ref b3l, .int (nI g3)])), (b3l, .inl (cJ, 128, .inr (.inl h3)))]) (va_A [(tt, .inr (5, [.ref b1, .ref b2, .ref b3])), (b1, .inr (0, [.ref b1l, .int (nI u1)])), (b1l, .inl (cJ, 128, .inr (.inl f1))), (b2, .inr (0, [.ref b2l, .int (nI u2)])), (b2l, .inl (cJ, 128, .inr (.inl f2))), (b3, .inr (0, [.ref b3l, .int (nI u3)])), (b3l, .inl (cJ, 128, .inr (.inl f3)))] sz)) 0 0 (va_A [(tt, .inr (5, [.ref b1, .ref b2, .ref b3])), (b1, .inr (0, [.ref b1l, .int (nI u1)])), (b1l, .inl (cJ, 128, .inr (.inl f1))), (b2, .inr (0, [.ref b2l, .int (nI u2)])), (b2l, .inl (cJ, 128, .inr (.inl f2))), (b3, .inr (0, [.ref b3l, .int (nI u3)])), (b3l, .inl (cJ, 128, .inr (.inl f3)))] sz) := by
  refine Met.ofW (cc := cX5_is) (maxL := 3) (ret := (some .boolean)) (by decide) rfl ?_
  intro p e s m args below meth c s₁ B hml hv
  obtain ⟨rfl, hsz, hP, hK, hD0, hN⟩ := hv
  subst hsz
  have hx := B.exec
  have hb := B.bytes
  have hr := B.returns
  have hts := atoms_spec (ws := wsX5_is) B.pre
  have hown : s.vm.findClass RX5 = some m.cls := findClass_of_methodNamed B.named
  have hlocks := B.notSynchronized
  have hD := hD0.self (sz := s.heap.size)
  generalize hAe : va_A [(tt, .inr (5, [.ref b1, .ref b2, .ref b3])), (b1, .inr (0, [.ref b1l, .int (nI u1)])), (b1l, .inl (cJ, 128, .inr (.inl f1))), (b2, .inr (0, [.ref b2l, .int (nI u2)])), (b2l, .inl (cJ, 128, .inr (.inl f2))), (b3, .inr (0, [.ref b3l, .int (nI u3)])), (b3l, .inl (cJ, 128, .inr (.inl f3)))] s.heap.size = A at hD ⊢
  have hA : ∀ q : Nat, s.heap.size ≤ q → A q := fun q h => by rw [← hAe]; exact Or.inr h
  have hS : va_S A s.heap s.heap [] := va_S.rf
  have hiX5 : ∀ w ∈ u_ws RX5 TX5 3, w ∈ wsX5_is := by decide +kernel
  have hl := lv_entry ([.ref tt, .long p0]) (n := 3) (Nat.le_of_ble_eq_true rfl)
  rw [lg_entry_eq]
  generalize (lg_sl ([.ref tt, .long p0]) ++ List.replicate (3 - (lg_sl ([.ref tt, .long p0])).length) Slot.unset).toArray = ls at hl ⊢
  have hl : lv_has ls 3 [(0, .ref tt), (1, .long p0)] := hl
  refine lv_aload_n hx hb dX5_is_0 rfl (lv_at hl 0 rfl) ?_
  refine va_get (D := (dC, dI)) (ci := 5) (v := .ref b3) (C := RX5) (T := TX5) (N := 3) hx hb hts hiX5 hown hK hP 0 rfl rfl 2 (by decide) (hts (.fieldLink RX5 19 "MadeItSo$Total" "spare" "LMadeItSo$Big;") (by decide +kernel)) (fun _ h9 => h9) rfl dX5_is_1 ?_
  refine lv_aload_n hx hb dX5_is_4 rfl (lv_at hl 0 rfl) ?_
  refine va_get (D := (dC, dI)) (ci := 5) (v := .ref b2) (C := RX5) (T := TX5) (N := 3) hx hb hts hiX5 hown hK hP 0 rfl rfl 1 (by decide) (hts (.fieldLink RX5 16 "MadeItSo$Total" "bottom" "LMadeItSo$Big;") (by decide +kernel)) (fun _ h9 => h9) rfl dX5_is_5 ?_
  have hPc := hP.sub (ws' := [(b3, .inr (0, [.ref b3l, .int (nI u3)])), (b3l, .inl (cJ, 128, .inr (.inl f3))), (b2, .inr (0, [.ref b2l, .int (nI u2)])), (b2l, .inl (cJ, 128, .inr (.inl f2)))]) [5, 6, 3, 4] rfl
  have hDc := hD.sub (ws' := [(b3, .inr (0, [.ref b3l, .int (nI u3)])), (b3l, .inl (cJ, 128, .inr (.inl f3))), (b2, .inr (0, [.ref b2l, .int (nI u2)])), (b2l, .inl (cJ, 128, .inr (.inl f2)))]) [5, 6, 3, 4] (by decide) rfl
  have hFc := va_free (wc := [(b3, .inr (0, [.ref b3l, .int (nI u3)])), (b3l, .inl (cJ, 128, .inr (.inl f3))), (b2, .inr (0, [.ref b2l, .int (nI u2)])), (b2l, .inl (cJ, 128, .inr (.inl f2)))]) hD hS hA [5, 6, 3, 4] rfl
  refine va_callv (va_runV (As := [.ref b2]) (rest := []) ⟨hx, hb, hml, hown, hts⟩ (mz_t_become l dC dI cI cJ cZ b3 b3l u3 f3 b2 b2l u2 f2 s.heap.size (by first | assumption | omega) (by first | assumption | omega)) (cwV 1 hts gX5_is_X0_become rfl rfl rfl (by decide +kernel) ⟨Nat.le_of_ble_eq_true rfl, Nat.le_of_ble_eq_true rfl⟩) ⟨fun a U g mk q => mz_blI q, va_recv hK hPc (ci := 0) (q0 := 0) rfl rfl, fun U hU hW => ⟨rfl, by rw [hU], by rw [hU]; exact hPc, va_K.moved hW.alike hK, hDc.weaken (fun _ _ _ _ => trivial), mz_nw hW hN⟩⟩ rfl rfl hl.1 rfl (lv_room (Nat.le_of_ble_eq_true rfl)) dX5_is_8 ⟨Nat.le_of_ble_eq_true rfl, Nat.le_of_ble_eq_true rfl⟩) hS (fun q _ h => hFc q h) hFc (fun u t H1 locs ht hvm hw_8 hB hz1 hk1 hS => ?_)
  obtain ⟨gf_8, hP1, hD1⟩ := hB
  rw [ht] at hP1
  obtain ⟨hP, hD⟩ := va_join (wr := [(tt, .inr (5, [.ref b1, .ref b2, .ref b3])), (b1, .inr (0, [.ref b1l, .int (nI u1)])), (b1l, .inl (cJ, 128, .inr (.inl f1)))]) (w1 := [(b3, .inr (0, [.ref b3l, .int (nI u2)])), (b3l, .inl (cJ, 128, .inr (.inl gf_8))), (b2, .inr (0, [.ref b2l, .int (nI u2)])), (b2l, .inl (cJ, 128, .inr (.inl f2)))]) hP hD [5, 6, 3, 4] [0, 1, 2] rfl rfl (by decide) (by decide) hk1 hFc hP1 hD1
  generalize H1 = H at hP hS ⊢
  have hP : va_P (dC, dI) vwCl [(tt, .inr (5, [.ref b1, .ref b2, .ref b3])), (b1, .inr (0, [.ref b1l, .int (nI u1)])), (b1l, .inl (cJ, 128, .inr (.inl f1))), (b3, .inr (0, [.ref b3l, .int (nI u2)])), (b3l, .inl (cJ, 128, .inr (.inl gf_8))), (b2, .inr (0, [.ref b2l, .int (nI u2)])), (b2l, .inl (cJ, 128, .inr (.inl f2)))] H := hP
  have hD : va_D A [(tt, .inr (5, [.ref b1, .ref b2, .ref b3])), (b1, .inr (0, [.ref b1l, .int (nI u1)])), (b1l, .inl (cJ, 128, .inr (.inl f1))), (b3, .inr (0, [.ref b3l, .int (nI u2)])), (b3l, .inl (cJ, 128, .inr (.inl gf_8))), (b2, .inr (0, [.ref b2l, .int (nI u2)])), (b2l, .inl (cJ, 128, .inr (.inl f2)))] := hD
  refine lv_aload_n hx hb dX5_is_11 rfl (lv_at hl 0 rfl) ?_
  refine va_get (D := (dC, dI)) (ci := 5) (v := .ref b3) (C := RX5) (T := TX5) (N := 3) hx hb hts hiX5 hown hK hP 0 rfl rfl 2 (by decide) (hts (.fieldLink RX5 19 "MadeItSo$Total" "spare" "LMadeItSo$Big;") (by decide +kernel)) (fun _ h9 => h9) rfl dX5_is_12 ?_
  refine lv_lload_n hx hb dX5_is_15 rfl (lv_at hl 1 rfl) ?_
  have hPc := hP.sub (ws' := [(b3, .inr (0, [.ref b3l, .int (nI u2)])), (b3l, .inl (cJ, 128, .inr (.inl gf_8)))]) [3, 4] rfl
  have hDc := hD.sub (ws' := [(b3, .inr (0, [.ref b3l, .int (nI u2)])), (b3l, .inl (cJ, 128, .inr (.inl gf_8)))]) [3, 4] (by decide) rfl
  have hFc := va_free (wc := [(b3, .inr (0, [.ref b3l, .int (nI u2)])), (b3l, .inl (cJ, 128, .inr (.inl gf_8)))]) hD hS hA [3, 4] rfl
  refine va_callv (va_runV (As := [.long p0]) (rest := []) ⟨hx, hb, hml, hown, hts⟩ (mz_t_times l dC dI cI cJ cZ b3 b3l u2 gf_8 p0 H.size (by first | assumption | omega)) (cwV 1 hts gX5_is_X0_times rfl rfl rfl (by decide +kernel) ⟨Nat.le_of_ble_eq_true rfl, Nat.le_of_ble_eq_true rfl⟩) ⟨fun a U g mk q => mz_blI q, va_recv hK hPc (ci := 0) (q0 := 0) rfl rfl, fun U hU hW => ⟨rfl, by rw [hU], by rw [hU]; exact hPc, va_K.moved hW.alike hK, hDc.weaken (fun _ _ _ _ => trivial), mz_nw hW hN⟩⟩ rfl rfl hl.1 rfl (lv_room (Nat.le_of_ble_eq_true rfl)) dX5_is_16 ⟨Nat.le_of_ble_eq_true rfl, Nat.le_of_ble_eq_true rfl⟩) hS (fun q _ h => hFc q h) hFc (fun u t H1 locs ht hvm hw_16 hB hz1 hk1 hS => ?_)
  obtain ⟨gu_16, gf_16, hx0_16, hP1, hD1⟩ := hB
  rw [ht] at hP1
  obtain ⟨hP, hD⟩ := va_join (wr := [(tt, .inr (5, [.ref b1, .ref b2, .ref b3])), (b1, .inr (0, [.ref b1l, .int (nI u1)])), (b1l, .inl (cJ, 128, .inr (.inl f1))), (b2, .inr (0, [.ref b2l, .int (nI u2)])), (b2l, .inl (cJ, 128, .inr (.inl f2)))]) (w1 := [(b3, .inr (0, [.ref b3l, .int (nI gu_16)])), (b3l, .inl (cJ, 128, .inr (.inl gf_16)))]) hP hD [3, 4] [0, 1, 2, 5, 6] rfl rfl (by decide) (by decide) hk1 hFc hP1 hD1
  generalize H1 = H at hP hS ⊢
  have hP : va_P (dC, dI) vwCl [(tt, .inr (5, [.ref b1, .ref b2, .ref b3])), (b1, .inr (0, [.ref b1l, .int (nI u1)])), (b1l, .inl (cJ, 128, .inr (.inl f1))), (b2, .inr (0, [.ref b2l, .int (nI u2)])), (b2l, .inl (cJ, 128, .inr (.inl f2))), (b3, .inr (0, [.ref b3l, .int (nI gu_16)])), (b3l, .inl (cJ, 128, .inr (.inl gf_16)))] H := hP
  have hD : va_D A [(tt, .inr (5, [.ref b1, .ref b2, .ref b3])), (b1, .inr (0, [.ref b1l, .int (nI u1)])), (b1l, .inl (cJ, 128, .inr (.inl f1))), (b2, .inr (0, [.ref b2l, .int (nI u2)])), (b2l, .inl (cJ, 128, .inr (.inl f2))), (b3, .inr (0, [.ref b3l, .int (nI gu_16)])), (b3l, .inl (cJ, 128, .inr (.inl gf_16)))] := hD
  refine lv_aload_n hx hb dX5_is_19 rfl (lv_at hl 0 rfl) ?_
  refine va_get (D := (dC, dI)) (ci := 5) (v := .ref b3) (C := RX5) (T := TX5) (N := 3) hx hb hts hiX5 hown hK hP 0 rfl rfl 2 (by decide) (hts (.fieldLink RX5 19 "MadeItSo$Total" "spare" "LMadeItSo$Big;") (by decide +kernel)) (fun _ h9 => h9) rfl dX5_is_20 ?_
  refine lv_aload_n hx hb dX5_is_23 rfl (lv_at hl 0 rfl) ?_
  refine va_get (D := (dC, dI)) (ci := 5) (v := .ref b1) (C := RX5) (T := TX5) (N := 3) hx hb hts hiX5 hown hK hP 0 rfl rfl 0 (by decide) (hts (.fieldLink RX5 10 "MadeItSo$Total" "top" "LMadeItSo$Big;") (by decide +kernel)) (fun _ h9 => h9) rfl dX5_is_24 ?_
  have hPc := hP.sub (ws' := [(b3, .inr (0, [.ref b3l, .int (nI gu_16)])), (b3l, .inl (cJ, 128, .inr (.inl gf_16))), (b1, .inr (0, [.ref b1l, .int (nI u1)])), (b1l, .inl (cJ, 128, .inr (.inl f1)))]) [5, 6, 1, 2] rfl
  refine va_calli (va_runV (As := [.ref b1]) (rest := []) ⟨hx, hb, hml, hown, hts⟩ (mz_t_same l dC dI cI cJ cZ b3 b3l gu_16 gf_16 b1 b1l u1 f1 H (by first | assumption | omega) (by first | assumption | omega)) (cwV 1 hts gX5_is_X0_same rfl rfl rfl (by decide +kernel) ⟨Nat.le_of_ble_eq_true rfl, Nat.le_of_ble_eq_true rfl⟩) ⟨fun a U g mk q => mz_blP q, va_recv hK hPc (ci := 0) (q0 := 0) rfl rfl, fun U hU hW => ⟨rfl, hU, hPc, va_K.moved hW.alike hK, mz_nw hW hN⟩⟩ rfl rfl hl.1 rfl (lv_room (Nat.le_of_ble_eq_true rfl)) dX5_is_27 ⟨Nat.le_of_ble_eq_true rfl, Nat.le_of_ble_eq_true rfl⟩) hS (fun q _ h => h.elim) (fun q h => h.elim) (fun r_27 u t H1 locs ht hvm hw_27 hB hz1 hk1 hS => ?_)
  have hE : H = H1 := hB.symm.trans ht
  subst hE
  have hP9 := hP.sub (ws' := [(tt, .inr (5, [.ref b1, .ref b2, .ref b3])), (b1, .inr (0, [.ref b1l, .int (nI u1)])), (b1l, .inl (cJ, 128, .inr (.inl f1))), (b2, .inr (0, [.ref b2l, .int (nI u2)])), (b2l, .inl (cJ, 128, .inr (.inl f2))), (b3, .inr (0, [.ref b3l, .int (nI gu_16)])), (b3l, .inl (cJ, 128, .inr (.inl gf_16)))]) [0, 1, 2, 3, 4, 5, 6] rfl
  have hD9 := hD.sub (ws' := [(tt, .inr (5, [.ref b1, .ref b2, .ref b3])), (b1, .inr (0, [.ref b1l, .int (nI u1)])), (b1l, .inl (cJ, 128, .inr (.inl f1))), (b2, .inr (0, [.ref b2l, .int (nI u2)])), (b2l, .inl (cJ, 128, .inr (.inl f2))), (b3, .inr (0, [.ref b3l, .int (nI gu_16)])), (b3l, .inl (cJ, 128, .inr (.inl gf_16)))]) [0, 1, 2, 3, 4, 5, 6] (by decide) rfl
  refine W.widen (k := 0) (n := 0) (Nat.le_of_ble_eq_true rfl) (Nat.le_of_ble_eq_true rfl) ?_
  exact W.zret (v := r_27) hx hb hr (mz_nzo hw_27) (fun t ht hW => ⟨⟨r_27, (), rfl, hw_27, u1, f1, u2, f2, gu_16, gf_16, (by first | assumption | omega), (by first | assumption | omega), (by first | assumption | omega), by rw [ht]; exact hP9, hD9⟩, hS.F ht⟩) hS.2.2 dX5_is_30
set_option maxHeartbeats 1000000 in
set_option maxRecDepth 100000 in
theorem mz_x_hasRow (l : Launch) (dC : Nat → ClassId) (dI : Nat → Nat → Nat) (cI cJ cZ : ClassId) (mx : Nat) (dr : Nat) (th : Nat) (bk : Nat) (wt : Nat) (tt : Nat) (lh : Nat) (la : Nat) (sh : Int32) (ab : Int64) (be : Int64) (dp : Nat) (dc : Nat) (n : Nat) (fp : Nat → Int32) (p0 : Int32) (p1 : Int32) (Hq : Heap) (hn : n ≤ 8) : Met l yX7_hasRow wsX7_hasRow ({ frames := 2, cells := 0, slots := 0, locals := 42 }) (va_Pc [.ref mx, .int p0, .int p1] (fun U => U.heap = Hq ∧ va_P (dC, dI) vwCl [(mx, .inr (7, [.ref dr, .ref th, .ref bk, .ref wt, .ref tt, .ref lh, .ref la, .int sh, .long ab, .long be])), (dr, .inr (2, [.ref dp, .ref dc, .int (nI n)])), (dp, .inl (cI, 8, .inl fp))] Hq ∧ va_K (dC, dI) vwCl [(cI, FieldType.int), (cJ, FieldType.long), (cZ, FieldType.boolean)] U ∧ mz_N U)) (va_Qi (fun (r : Int32) (_ : Unit) => r = 0 ∨ r = 1) (fun _ t => t.heap = Hq) (fun _ : Nat => False)) 0 0 (fun _ : Nat => False) := by
  refine Met.ofW (cc := cX7_hasRow) (maxL := 3) (ret := (some .boolean)) (by decide) rfl ?_
  intro p e s m args below meth c s₁ B hml hv
  obtain ⟨rfl, hH, hP, hK, hN⟩ := hv
  subst hH
  have hx := B.exec
  have hb := B.bytes
  have hr := B.returns
  have hts := atoms_spec (ws := wsX7_hasRow) B.pre
  have hown : s.vm.findClass RX7 = some m.cls := findClass_of_methodNamed B.named
  have hlocks := B.notSynchronized
  have hS : va_S (fun _ : Nat => False) s.heap s.heap [] := va_S.rf
  have hiX7 : ∀ w ∈ u_ws RX7 TX7 10, w ∈ wsX7_hasRow := by decide +kernel
  have hl := lv_entry ([.ref mx, .int p0, .int p1]) (n := 3) (Nat.le_of_ble_eq_true rfl)
  rw [lg_entry_eq]
  generalize (lg_sl ([.ref mx, .int p0, .int p1]) ++ List.replicate (3 - (lg_sl ([.ref mx, .int p0, .int p1])).length) Slot.unset).toArray = ls at hl ⊢
  have hl : lv_has ls 3 [(0, .ref mx), (1, .int p0), (2, .int p1)] := hl
  refine lv_aload_n hx hb dX7_hasRow_0 rfl (lv_at hl 0 rfl) ?_
  refine va_get (D := (dC, dI)) (ci := 7) (v := .ref dr) (C := RX7) (T := TX7) (N := 10) hx hb hts hiX7 hown hK hP 0 rfl rfl 0 (by decide) (hts (.fieldLink RX7 12 "MadeItSo" "drawing" "LMadeItSo$Drawing;") (by decide +kernel)) (fun _ h9 => h9) rfl dX7_hasRow_1 ?_
  refine lv_iload_n hx hb dX7_hasRow_4 rfl (lv_at hl 1 rfl) ?_
  have hPc := hP.sub (ws' := [(dr, .inr (2, [.ref dp, .ref dc, .int (nI n)]))]) [1] rfl
  refine va_calli (va_runV (As := [.int p0]) (rest := []) ⟨hx, hb, hml, hown, hts⟩ (mz_d_has l dC dI cI cJ cZ dr dp dc n p0 s.heap (by first | assumption | omega)) (cwV 1 hts gX7_hasRow_X2_has rfl rfl rfl (by decide +kernel) ⟨Nat.le_of_ble_eq_true rfl, Nat.le_of_ble_eq_true rfl⟩) ⟨fun a U g mk q => mz_blP q, va_recv hK hPc (ci := 2) (q0 := 0) rfl rfl, fun U hU hW => ⟨rfl, hU, hPc, va_K.moved hW.alike hK, mz_nw hW hN⟩⟩ rfl rfl hl.1 rfl (lv_room (Nat.le_of_ble_eq_true rfl)) dX7_hasRow_5 ⟨Nat.le_of_ble_eq_true rfl, Nat.le_of_ble_eq_true rfl⟩) hS (fun q _ h => h.elim) (fun q h => h.elim) (fun r_5 u t H1 locs ht hvm hw_5 hB hz1 hk1 hS => ?_)
  have hE : s.heap = H1 := hB.symm.trans ht
  subst hE
  rcases (show (r_5 = 1 ∧ ∃ j : Nat, j < n ∧ p0 = nI j) ∨ r_5 = 0 from hw_5) with ⟨rfl, j_5, hj_5, he_5⟩ | rfl
  · skip
    subst he_5
    refine lv_if_eq (tgt := 34) hx hb dX7_hasRow_8 (by decide) (fun c_8 => absurd c_8 (by decide +kernel)) (fun _ => ?_)
    refine lv_iload_n hx hb dX7_hasRow_11 rfl (lv_at hl 2 rfl) ?_
    refine lv_if_lt (tgt := 34) hx hb dX7_hasRow_12 (by decide) (fun c_12 => ?_) (fun c_12 => ?_)
    · skip
      refine lv_iconst (v := 0) hx hb dX7_hasRow_34 (by decide +kernel) ?_
      refine W.widen (k := 0) (n := 0) (Nat.le_of_ble_eq_true rfl) (Nat.le_of_ble_eq_true rfl) ?_
      exact W.zret (v := 0) hx hb hr (mz_nz (by decide +kernel)) (fun t ht hW => ⟨⟨0, (), rfl, Or.inl rfl, ht⟩, hS.F ht⟩) hS.2.2 dX7_hasRow_35
    · skip
      refine lv_iload_n hx hb dX7_hasRow_15 rfl (lv_at hl 2 rfl) ?_
      refine lv_aload_n hx hb dX7_hasRow_16 rfl (lv_at hl 0 rfl) ?_
      refine va_get (D := (dC, dI)) (ci := 7) (v := .ref dr) (C := RX7) (T := TX7) (N := 10) hx hb hts hiX7 hown hK hP 0 rfl rfl 0 (by decide) (hts (.fieldLink RX7 12 "MadeItSo" "drawing" "LMadeItSo$Drawing;") (by decide +kernel)) (fun _ h9 => h9) rfl dX7_hasRow_17 ?_
      refine lv_iload_n hx hb dX7_hasRow_20 rfl (lv_at hl 1 rfl) ?_
      have hPc := hP.sub (ws' := [(dr, .inr (2, [.ref dp, .ref dc, .int (nI n)])), (dp, .inl (cI, 8, .inl fp))]) [1, 2] rfl
      refine va_calli (va_runV (As := [.int (nI j_5)]) (rest := [.int p1]) ⟨hx, hb, hml, hown, hts⟩ (mz_d_parentsOf l dC dI cI cJ cZ dr dp dc n fp (nI j_5) s.heap (by first | assumption | omega)) (cwV 1 hts gX7_hasRow_X2_parentsOf rfl rfl rfl (by decide +kernel) ⟨Nat.le_of_ble_eq_true rfl, Nat.le_of_ble_eq_true rfl⟩) ⟨fun a U g mk q => mz_blP q, va_recv hK hPc (ci := 2) (q0 := 0) rfl rfl, fun U hU hW => ⟨rfl, hU, hPc, va_K.moved hW.alike hK, mz_nw hW hN⟩⟩ rfl rfl hl.1 rfl (lv_room (Nat.le_of_ble_eq_true rfl)) dX7_hasRow_21 ⟨Nat.le_of_ble_eq_true rfl, Nat.le_of_ble_eq_true rfl⟩) hS (fun q _ h => h.elim) (fun q h => h.elim) (fun r_21 u t H1 locs ht hvm hw_21 hB hz1 hk1 hS => ?_)
      have hE : s.heap = H1 := hB.symm.trans ht
      subst hE
      have hPc := hP.sub (ws' := []) [] rfl
      refine va_calli (va_runS (As := [.int r_21]) (rest := [.int p1]) ⟨hx, hb, hml, hown, hts⟩ (mz_g_partsOf l dC dI cI cJ cZ r_21 s.heap ) (va_cwS 1 hts gX7_hasRow_X7_partsOf rfl rfl rfl (by decide +kernel) ⟨Nat.le_of_ble_eq_true rfl, Nat.le_of_ble_eq_true rfl⟩) ⟨fun a U g mk q => mz_blP q, fun U hU hW => ⟨rfl, hU, hPc, va_K.moved hW.alike hK, mz_nw hW hN⟩⟩ rfl rfl hl.1 rfl (lv_room (Nat.le_of_ble_eq_true rfl)) dX7_hasRow_24 ⟨Nat.le_of_ble_eq_true rfl, Nat.le_of_ble_eq_true rfl⟩) hS (fun q _ h => h.elim) (fun q h => h.elim) (fun r_24 u t H1 locs ht hvm hw_24 hB hz1 hk1 hS => ?_)
      have hE : s.heap = H1 := hB.symm.trans ht
      subst hE
      refine lv_icmp_ge (tgt := 34) hx hb dX7_hasRow_27 (by decide) (fun c_27 => ?_) (fun c_27 => ?_)
      · skip
        refine lv_iconst (v := 0) hx hb dX7_hasRow_34 (by decide +kernel) ?_
        refine W.widen (k := 0) (n := 0) (Nat.le_of_ble_eq_true rfl) (Nat.le_of_ble_eq_true rfl) ?_
        exact W.zret (v := 0) hx hb hr (mz_nz (by decide +kernel)) (fun t ht hW => ⟨⟨0, (), rfl, Or.inl rfl, ht⟩, hS.F ht⟩) hS.2.2 dX7_hasRow_35
      · skip
        refine lv_iconst (v := 1) hx hb dX7_hasRow_30 (by decide +kernel) ?_
        refine lv_goto (tgt := 35) hx hb dX7_hasRow_31 (by decide) ?_
        refine W.widen (k := 0) (n := 0) (Nat.le_of_ble_eq_true rfl) (Nat.le_of_ble_eq_true rfl) ?_
        exact W.zret (v := 1) hx hb hr (mz_nz (by decide +kernel)) (fun t ht hW => ⟨⟨1, (), rfl, Or.inr rfl, ht⟩, hS.F ht⟩) hS.2.2 dX7_hasRow_35
  · skip
    refine lv_if_eq (tgt := 34) hx hb dX7_hasRow_8 (by decide) (fun _ => ?_) (fun c_8 => absurd (by decide +kernel) c_8)
    refine lv_iconst (v := 0) hx hb dX7_hasRow_34 (by decide +kernel) ?_
    refine W.widen (k := 0) (n := 0) (Nat.le_of_ble_eq_true rfl) (Nat.le_of_ble_eq_true rfl) ?_
    exact W.zret (v := 0) hx hb hr (mz_nz (by decide +kernel)) (fun t ht hW => ⟨⟨0, (), rfl, Or.inl rfl, ht⟩, hS.F ht⟩) hS.2.2 dX7_hasRow_35
set_option maxHeartbeats 1000000 in
set_option maxRecDepth 100000 in
theorem mz_x_areTwo (l : Launch) (dC : Nat → ClassId) (dI : Nat → Nat → Nat) (cI cJ cZ : ClassId) (mx : Nat) (dr : Nat) (th : Nat) (bk : Nat) (wt : Nat) (tt : Nat) (lh : Nat) (la : Nat) (sh : Int32) (ab : Int64) (be : Int64) (dp : Nat) (dc : Nat) (n : Nat) (p0 : Int32) (p1 : Int32) (Hq : Heap) (hn : n ≤ 8) : Met l yX7_areTwo wsX7_areTwo ({ frames := 1, cells := 0, slots := 0, locals := 21 }) (va_Pc [.ref mx, .int p0, .int p1] (fun U => U.heap = Hq ∧ va_P (dC, dI) vwCl [(mx, .inr (7, [.ref dr, .ref th, .ref bk, .ref wt, .ref tt, .ref lh, .ref la, .int sh, .long ab, .long be])), (dr, .inr (2, [.ref dp, .ref dc, .int (nI n)]))] Hq ∧ va_K (dC, dI) vwCl [(cI, FieldType.int), (cJ, FieldType.long), (cZ, FieldType.boolean)] U ∧ mz_N U)) (va_Qi (fun (r : Int32) (_ : Unit) => r = 0 ∨ r = 1) (fun _ t => t.heap = Hq) (fun _ : Nat => False)) 0 0 (fun _ : Nat => False) := by
  refine Met.ofW (cc := cX7_areTwo) (maxL := 3) (ret := (some .boolean)) (by decide) rfl ?_
  intro p e s m args below meth c s₁ B hml hv
  obtain ⟨rfl, hH, hP, hK, hN⟩ := hv
  subst hH
  have hx := B.exec
  have hb := B.bytes
  have hr := B.returns
  have hts := atoms_spec (ws := wsX7_areTwo) B.pre
  have hown : s.vm.findClass RX7 = some m.cls := findClass_of_methodNamed B.named
  have hlocks := B.notSynchronized
  have hS : va_S (fun _ : Nat => False) s.heap s.heap [] := va_S.rf
  have hiX7 : ∀ w ∈ u_ws RX7 TX7 10, w ∈ wsX7_areTwo := by decide +kernel
  have hl := lv_entry ([.ref mx, .int p0, .int p1]) (n := 3) (Nat.le_of_ble_eq_true rfl)
  rw [lg_entry_eq]
  generalize (lg_sl ([.ref mx, .int p0, .int p1]) ++ List.replicate (3 - (lg_sl ([.ref mx, .int p0, .int p1])).length) Slot.unset).toArray = ls at hl ⊢
  have hl : lv_has ls 3 [(0, .ref mx), (1, .int p0), (2, .int p1)] := hl
  refine lv_aload_n hx hb dX7_areTwo_0 rfl (lv_at hl 0 rfl) ?_
  refine va_get (D := (dC, dI)) (ci := 7) (v := .ref dr) (C := RX7) (T := TX7) (N := 10) hx hb hts hiX7 hown hK hP 0 rfl rfl 0 (by decide) (hts (.fieldLink RX7 12 "MadeItSo" "drawing" "LMadeItSo$Drawing;") (by decide +kernel)) (fun _ h9 => h9) rfl dX7_areTwo_1 ?_
  refine lv_iload_n hx hb dX7_areTwo_4 rfl (lv_at hl 1 rfl) ?_
  have hPc := hP.sub (ws' := [(dr, .inr (2, [.ref dp, .ref dc, .int (nI n)]))]) [1] rfl
  refine va_calli (va_runV (As := [.int p0]) (rest := []) ⟨hx, hb, hml, hown, hts⟩ (mz_d_has l dC dI cI cJ cZ dr dp dc n p0 s.heap (by first | assumption | omega)) (cwV 1 hts gX7_areTwo_X2_has rfl rfl rfl (by decide +kernel) ⟨Nat.le_of_ble_eq_true rfl, Nat.le_of_ble_eq_true rfl⟩) ⟨fun a U g mk q => mz_blP q, va_recv hK hPc (ci := 2) (q0 := 0) rfl rfl, fun U hU hW => ⟨rfl, hU, hPc, va_K.moved hW.alike hK, mz_nw hW hN⟩⟩ rfl rfl hl.1 rfl (lv_room (Nat.le_of_ble_eq_true rfl)) dX7_areTwo_5 ⟨Nat.le_of_ble_eq_true rfl, Nat.le_of_ble_eq_true rfl⟩) hS (fun q _ h => h.elim) (fun q h => h.elim) (fun r_5 u t H1 locs ht hvm hw_5 hB hz1 hk1 hS => ?_)
  have hE : s.heap = H1 := hB.symm.trans ht
  subst hE
  rcases (show (r_5 = 1 ∧ ∃ j : Nat, j < n ∧ p0 = nI j) ∨ r_5 = 0 from hw_5) with ⟨rfl, j_5, hj_5, he_5⟩ | rfl
  · skip
    subst he_5
    refine lv_if_eq (tgt := 31) hx hb dX7_areTwo_8 (by decide) (fun c_8 => absurd c_8 (by decide +kernel)) (fun _ => ?_)
    refine lv_aload_n hx hb dX7_areTwo_11 rfl (lv_at hl 0 rfl) ?_
    refine va_get (D := (dC, dI)) (ci := 7) (v := .ref dr) (C := RX7) (T := TX7) (N := 10) hx hb hts hiX7 hown hK hP 0 rfl rfl 0 (by decide) (hts (.fieldLink RX7 12 "MadeItSo" "drawing" "LMadeItSo$Drawing;") (by decide +kernel)) (fun _ h9 => h9) rfl dX7_areTwo_12 ?_
    refine lv_iload_n hx hb dX7_areTwo_15 rfl (lv_at hl 2 rfl) ?_
    have hPc := hP.sub (ws' := [(dr, .inr (2, [.ref dp, .ref dc, .int (nI n)]))]) [1] rfl
    refine va_calli (va_runV (As := [.int p1]) (rest := []) ⟨hx, hb, hml, hown, hts⟩ (mz_d_has l dC dI cI cJ cZ dr dp dc n p1 s.heap (by first | assumption | omega)) (cwV 1 hts gX7_areTwo_X2_has rfl rfl rfl (by decide +kernel) ⟨Nat.le_of_ble_eq_true rfl, Nat.le_of_ble_eq_true rfl⟩) ⟨fun a U g mk q => mz_blP q, va_recv hK hPc (ci := 2) (q0 := 0) rfl rfl, fun U hU hW => ⟨rfl, hU, hPc, va_K.moved hW.alike hK, mz_nw hW hN⟩⟩ rfl rfl hl.1 rfl (lv_room (Nat.le_of_ble_eq_true rfl)) dX7_areTwo_16 ⟨Nat.le_of_ble_eq_true rfl, Nat.le_of_ble_eq_true rfl⟩) hS (fun q _ h => h.elim) (fun q h => h.elim) (fun r_16 u t H1 locs ht hvm hw_16 hB hz1 hk1 hS => ?_)
    have hE : s.heap = H1 := hB.symm.trans ht
    subst hE
    rcases (show (r_16 = 1 ∧ ∃ j : Nat, j < n ∧ p1 = nI j) ∨ r_16 = 0 from hw_16) with ⟨rfl, j_16, hj_16, he_16⟩ | rfl
    · skip
      subst he_16
      refine lv_if_eq (tgt := 31) hx hb dX7_areTwo_19 (by decide) (fun c_19 => absurd c_19 (by decide +kernel)) (fun _ => ?_)
      refine lv_iload_n hx hb dX7_areTwo_22 rfl (lv_at hl 1 rfl) ?_
      refine lv_iload_n hx hb dX7_areTwo_23 rfl (lv_at hl 2 rfl) ?_
      refine lv_icmp_eq (tgt := 31) hx hb dX7_areTwo_24 (by decide) (fun c_24 => ?_) (fun c_24 => ?_)
      · skip
        have d_24 : j_5 = j_16 := (nI_eq (a := j_5) (b := j_16) (by omega) (by omega)).mp c_24
        refine lv_iconst (v := 0) hx hb dX7_areTwo_31 (by decide +kernel) ?_
        refine W.widen (k := 0) (n := 0) (Nat.le_of_ble_eq_true rfl) (Nat.le_of_ble_eq_true rfl) ?_
        exact W.zret (v := 0) hx hb hr (mz_nz (by decide +kernel)) (fun t ht hW => ⟨⟨0, (), rfl, Or.inl rfl, ht⟩, hS.F ht⟩) hS.2.2 dX7_areTwo_32
      · skip
        have d_24 : ¬ j_5 = j_16 := fun h => c_24 ((nI_eq (a := j_5) (b := j_16) (by omega) (by omega)).mpr h)
        refine lv_iconst (v := 1) hx hb dX7_areTwo_27 (by decide +kernel) ?_
        refine lv_goto (tgt := 32) hx hb dX7_areTwo_28 (by decide) ?_
        refine W.widen (k := 0) (n := 0) (Nat.le_of_ble_eq_true rfl) (Nat.le_of_ble_eq_true rfl) ?_
        exact W.zret (v := 1) hx hb hr (mz_nz (by decide +kernel)) (fun t ht hW => ⟨⟨1, (), rfl, Or.inr rfl, ht⟩, hS.F ht⟩) hS.2.2 dX7_areTwo_32
    · skip
      refine lv_if_eq (tgt := 31) hx hb dX7_areTwo_19 (by decide) (fun _ => ?_) (fun c_19 => absurd (by decide +kernel) c_19)
      refine lv_iconst (v := 0) hx hb dX7_areTwo_31 (by decide +kernel) ?_
      refine W.widen (k := 0) (n := 0) (Nat.le_of_ble_eq_true rfl) (Nat.le_of_ble_eq_true rfl) ?_
      exact W.zret (v := 0) hx hb hr (mz_nz (by decide +kernel)) (fun t ht hW => ⟨⟨0, (), rfl, Or.inl rfl, ht⟩, hS.F ht⟩) hS.2.2 dX7_areTwo_32
  · skip
    refine lv_if_eq (tgt := 31) hx hb dX7_areTwo_8 (by decide) (fun _ => ?_) (fun c_8 => absurd (by decide +kernel) c_8)
    refine lv_iconst (v := 0) hx hb dX7_areTwo_31 (by decide +kernel) ?_
    refine W.widen (k := 0) (n := 0) (Nat.le_of_ble_eq_true rfl) (Nat.le_of_ble_eq_true rfl) ?_
    exact W.zret (v := 0) hx hb hr (mz_nz (by decide +kernel)) (fun t ht hW => ⟨⟨0, (), rfl, Or.inl rfl, ht⟩, hS.F ht⟩) hS.2.2 dX7_areTwo_32
set_option maxHeartbeats 1000000 in
set_option maxRecDepth 100000 in
theorem mz_x_isHeap (l : Launch) (dC : Nat → ClassId) (dI : Nat → Nat → Nat) (cI cJ cZ : ClassId) (mx : Nat) (dr : Nat) (th : Nat) (bk : Nat) (wt : Nat) (tt : Nat) (lh : Nat) (la : Nat) (sh : Int32) (ab : Int64) (be : Int64) (dp : Nat) (dc : Nat) (n : Nat) (p0 : Int32) (Hq : Heap) (hn : n ≤ 8) : Met l yX7_isHeap wsX7_isHeap ({ frames := 1, cells := 0, slots := 0, locals := 20 }) (va_Pc [.ref mx, .int p0] (fun U => U.heap = Hq ∧ va_P (dC, dI) vwCl [(mx, .inr (7, [.ref dr, .ref th, .ref bk, .ref wt, .ref tt, .ref lh, .ref la, .int sh, .long ab, .long be])), (dr, .inr (2, [.ref dp, .ref dc, .int (nI n)]))] Hq ∧ va_K (dC, dI) vwCl [(cI, FieldType.int), (cJ, FieldType.long), (cZ, FieldType.boolean)] U ∧ mz_N U)) (va_Qi (fun (r : Int32) (_ : Unit) => r = 0 ∨ r = 1) (fun _ t => t.heap = Hq) (fun _ : Nat => False)) 0 0 (fun _ : Nat => False) := by
  refine Met.ofW (cc := cX7_isHeap) (maxL := 2) (ret := (some .boolean)) (by decide) rfl ?_
  intro p e s m args below meth c s₁ B hml hv
  obtain ⟨rfl, hH, hP, hK, hN⟩ := hv
  subst hH
  have hx := B.exec
  have hb := B.bytes
  have hr := B.returns
  have hts := atoms_spec (ws := wsX7_isHeap) B.pre
  have hown : s.vm.findClass RX7 = some m.cls := findClass_of_methodNamed B.named
  have hlocks := B.notSynchronized
  have hS : va_S (fun _ : Nat => False) s.heap s.heap [] := va_S.rf
  have hiX7 : ∀ w ∈ u_ws RX7 TX7 10, w ∈ wsX7_isHeap := by decide +kernel
  have hl := lv_entry ([.ref mx, .int p0]) (n := 2) (Nat.le_of_ble_eq_true rfl)
  rw [lg_entry_eq]
  generalize (lg_sl ([.ref mx, .int p0]) ++ List.replicate (2 - (lg_sl ([.ref mx, .int p0])).length) Slot.unset).toArray = ls at hl ⊢
  have hl : lv_has ls 2 [(0, .ref mx), (1, .int p0)] := hl
  refine lv_iload_n hx hb dX7_isHeap_0 rfl (lv_at hl 1 rfl) ?_
  refine lv_aload_n hx hb dX7_isHeap_1 rfl (lv_at hl 0 rfl) ?_
  refine va_get (D := (dC, dI)) (ci := 7) (v := .ref dr) (C := RX7) (T := TX7) (N := 10) hx hb hts hiX7 hown hK hP 0 rfl rfl 0 (by decide) (hts (.fieldLink RX7 12 "MadeItSo" "drawing" "LMadeItSo$Drawing;") (by decide +kernel)) (fun _ h9 => h9) rfl dX7_isHeap_2 ?_
  have hPc := hP.sub (ws' := [(dr, .inr (2, [.ref dp, .ref dc, .int (nI n)]))]) [1] rfl
  refine va_calli (va_runV (As := []) (rest := [.int p0]) ⟨hx, hb, hml, hown, hts⟩ (mz_d_everything l dC dI cI cJ cZ dr dp dc n s.heap ) (cwV 0 hts gX7_isHeap_X2_everything rfl rfl rfl (by decide +kernel) ⟨Nat.le_of_ble_eq_true rfl, Nat.le_of_ble_eq_true rfl⟩) ⟨fun a U g mk q => mz_blP q, va_recv hK hPc (ci := 2) (q0 := 0) rfl rfl, fun U hU hW => ⟨rfl, hU, hPc, va_K.moved hW.alike hK, mz_nw hW hN⟩⟩ rfl rfl hl.1 rfl (lv_room (Nat.le_of_ble_eq_true rfl)) dX7_isHeap_5 ⟨Nat.le_of_ble_eq_true rfl, Nat.le_of_ble_eq_true rfl⟩) hS (fun q _ h => h.elim) (fun q h => h.elim) (fun r_5 u t H1 locs ht hvm hw_5 hB hz1 hk1 hS => ?_)
  have hE : s.heap = H1 := hB.symm.trans ht
  subst hE
  refine lv_iconst (v := (-1)) hx hb dX7_isHeap_8 (by decide +kernel) ?_
  refine lv_ixor hx hb dX7_isHeap_9 ?_
  refine lv_topi (fun v_9 ev_9 => ?_)
  refine lv_iand hx hb dX7_isHeap_10 ?_
  refine lv_topi (fun v_10 ev_10 => ?_)
  refine lv_if_ne (tgt := 18) hx hb dX7_isHeap_11 (by decide) (fun c_11 => ?_) (fun c_11 => ?_)
  · skip
    refine lv_iconst (v := 0) hx hb dX7_isHeap_18 (by decide +kernel) ?_
    refine W.widen (k := 0) (n := 0) (Nat.le_of_ble_eq_true rfl) (Nat.le_of_ble_eq_true rfl) ?_
    exact W.zret (v := 0) hx hb hr (mz_nz (by decide +kernel)) (fun t ht hW => ⟨⟨0, (), rfl, Or.inl rfl, ht⟩, hS.F ht⟩) hS.2.2 dX7_isHeap_19
  · skip
    refine lv_iconst (v := 1) hx hb dX7_isHeap_14 (by decide +kernel) ?_
    refine lv_goto (tgt := 19) hx hb dX7_isHeap_15 (by decide) ?_
    refine W.widen (k := 0) (n := 0) (Nat.le_of_ble_eq_true rfl) (Nat.le_of_ble_eq_true rfl) ?_
    exact W.zret (v := 1) hx hb hr (mz_nz (by decide +kernel)) (fun t ht hW => ⟨⟨1, (), rfl, Or.inr rfl, ht⟩, hS.F ht⟩) hS.2.2 dX7_isHeap_19
set_option maxHeartbeats 1000000 in
set_option maxRecDepth 100000 in
theorem mz_x_isSetting (l : Launch) (dC : Nat → ClassId) (dI : Nat → Nat → Nat) (cI cJ cZ : ClassId) (mx : Nat) (dr : Nat) (th : Nat) (bk : Nat) (wt : Nat) (tt : Nat) (lh : Nat) (la : Nat) (sh : Int32) (ab : Int64) (be : Int64) (dp : Nat) (dc : Nat) (n : Nat) (p0 : Int32) (Hq : Heap) (hn : n ≤ 8) : Met l yX7_isSetting wsX7_isSetting ({ frames := 2, cells := 0, slots := 0, locals := 41 }) (va_Pc [.ref mx, .int p0] (fun U => U.heap = Hq ∧ va_P (dC, dI) vwCl [(mx, .inr (7, [.ref dr, .ref th, .ref bk, .ref wt, .ref tt, .ref lh, .ref la, .int sh, .long ab, .long be])), (dr, .inr (2, [.ref dp, .ref dc, .int (nI n)]))] Hq ∧ va_K (dC, dI) vwCl [(cI, FieldType.int), (cJ, FieldType.long), (cZ, FieldType.boolean)] U ∧ mz_N U)) (va_Qi (fun (r : Int32) (_ : Unit) => r = 0 ∨ r = 1) (fun _ t => t.heap = Hq) (fun _ : Nat => False)) 0 0 (fun _ : Nat => False) := by
  refine Met.ofW (cc := cX7_isSetting) (maxL := 2) (ret := (some .boolean)) (by decide) rfl ?_
  intro p e s m args below meth c s₁ B hml hv
  obtain ⟨rfl, hH, hP, hK, hN⟩ := hv
  subst hH
  have hx := B.exec
  have hb := B.bytes
  have hr := B.returns
  have hts := atoms_spec (ws := wsX7_isSetting) B.pre
  have hown : s.vm.findClass RX7 = some m.cls := findClass_of_methodNamed B.named
  have hlocks := B.notSynchronized
  have hS : va_S (fun _ : Nat => False) s.heap s.heap [] := va_S.rf
  have hl := lv_entry ([.ref mx, .int p0]) (n := 2) (Nat.le_of_ble_eq_true rfl)
  rw [lg_entry_eq]
  generalize (lg_sl ([.ref mx, .int p0]) ++ List.replicate (2 - (lg_sl ([.ref mx, .int p0])).length) Slot.unset).toArray = ls at hl ⊢
  have hl : lv_has ls 2 [(0, .ref mx), (1, .int p0)] := hl
  refine lv_iload_n hx hb dX7_isSetting_0 rfl (lv_at hl 1 rfl) ?_
  refine lv_bipush (v := 16) hx hb dX7_isSetting_1 (by decide +kernel) ?_
  refine lv_iushr hx hb dX7_isSetting_3 rfl ?_
  refine lv_topi (fun v_3 ev_3 => ?_)
  refine lv_if_ne (tgt := 36) hx hb dX7_isSetting_4 (by decide) (fun c_4 => ?_) (fun c_4 => ?_)
  · skip
    refine lv_iconst (v := 0) hx hb dX7_isSetting_36 (by decide +kernel) ?_
    refine W.widen (k := 0) (n := 0) (Nat.le_of_ble_eq_true rfl) (Nat.le_of_ble_eq_true rfl) ?_
    exact W.zret (v := 0) hx hb hr (mz_nz (by decide +kernel)) (fun t ht hW => ⟨⟨0, (), rfl, Or.inl rfl, ht⟩, hS.F ht⟩) hS.2.2 dX7_isSetting_37
  · skip
    refine lv_aload_n hx hb dX7_isSetting_7 rfl (lv_at hl 0 rfl) ?_
    refine lv_iload_n hx hb dX7_isSetting_8 rfl (lv_at hl 1 rfl) ?_
    have hPc := hP.sub (ws' := []) [] rfl
    refine va_calli (va_runS (As := [.int p0]) (rest := [.ref mx]) ⟨hx, hb, hml, hown, hts⟩ (mz_g_heapOf l dC dI cI cJ cZ p0 s.heap ) (va_cwS 1 hts gX7_isSetting_X7_heapOf rfl rfl rfl (by decide +kernel) ⟨Nat.le_of_ble_eq_true rfl, Nat.le_of_ble_eq_true rfl⟩) ⟨fun a U g mk q => mz_blP q, fun U hU hW => ⟨rfl, hU, hPc, va_K.moved hW.alike hK, mz_nw hW hN⟩⟩ rfl rfl hl.1 rfl (lv_room (Nat.le_of_ble_eq_true rfl)) dX7_isSetting_9 ⟨Nat.le_of_ble_eq_true rfl, Nat.le_of_ble_eq_true rfl⟩) hS (fun q _ h => h.elim) (fun q h => h.elim) (fun r_9 u t H1 locs ht hvm hw_9 hB hz1 hk1 hS => ?_)
    have hE : s.heap = H1 := hB.symm.trans ht
    subst hE
    have hPc := hP.sub (ws' := [(mx, .inr (7, [.ref dr, .ref th, .ref bk, .ref wt, .ref tt, .ref lh, .ref la, .int sh, .long ab, .long be])), (dr, .inr (2, [.ref dp, .ref dc, .int (nI n)]))]) [0, 1] rfl
    refine va_calli (va_runV (As := [.int r_9]) (rest := []) ⟨hx, hb, hml, hown, hts⟩ (mz_x_isHeap l dC dI cI cJ cZ mx dr th bk wt tt lh la sh ab be dp dc n r_9 s.heap (by first | assumption | omega)) (cwV 1 hts gX7_isSetting_X7_isHeap rfl rfl rfl (by decide +kernel) ⟨Nat.le_of_ble_eq_true rfl, Nat.le_of_ble_eq_true rfl⟩) ⟨fun a U g mk q => mz_blP q, va_recv hK hPc (ci := 7) (q0 := 0) rfl rfl, fun U hU hW => ⟨rfl, hU, hPc, va_K.moved hW.alike hK, mz_nw hW hN⟩⟩ rfl rfl hl.1 rfl (lv_room (Nat.le_of_ble_eq_true rfl)) dX7_isSetting_12 ⟨Nat.le_of_ble_eq_true rfl, Nat.le_of_ble_eq_true rfl⟩) hS (fun q _ h => h.elim) (fun q h => h.elim) (fun r_12 u t H1 locs ht hvm hw_12 hB hz1 hk1 hS => ?_)
    have hE : s.heap = H1 := hB.symm.trans ht
    subst hE
    refine lv_if_eq (tgt := 36) hx hb dX7_isSetting_15 (by decide) (fun c_15 => ?_) (fun c_15 => ?_)
    · skip
      refine lv_iconst (v := 0) hx hb dX7_isSetting_36 (by decide +kernel) ?_
      refine W.widen (k := 0) (n := 0) (Nat.le_of_ble_eq_true rfl) (Nat.le_of_ble_eq_true rfl) ?_
      exact W.zret (v := 0) hx hb hr (mz_nz (by decide +kernel)) (fun t ht hW => ⟨⟨0, (), rfl, Or.inl rfl, ht⟩, hS.F ht⟩) hS.2.2 dX7_isSetting_37
    · skip
      refine lv_iload_n hx hb dX7_isSetting_18 rfl (lv_at hl 1 rfl) ?_
      have hPc := hP.sub (ws' := []) [] rfl
      refine va_calli (va_runS (As := [.int p0]) (rest := []) ⟨hx, hb, hml, hown, hts⟩ (mz_g_onesOf l dC dI cI cJ cZ p0 s.heap ) (va_cwS 1 hts gX7_isSetting_X7_onesOf rfl rfl rfl (by decide +kernel) ⟨Nat.le_of_ble_eq_true rfl, Nat.le_of_ble_eq_true rfl⟩) ⟨fun a U g mk q => mz_blP q, fun U hU hW => ⟨rfl, hU, hPc, va_K.moved hW.alike hK, mz_nw hW hN⟩⟩ rfl rfl hl.1 rfl (lv_room (Nat.le_of_ble_eq_true rfl)) dX7_isSetting_19 ⟨Nat.le_of_ble_eq_true rfl, Nat.le_of_ble_eq_true rfl⟩) hS (fun q _ h => h.elim) (fun q h => h.elim) (fun r_19 u t H1 locs ht hvm hw_19 hB hz1 hk1 hS => ?_)
      have hE : s.heap = H1 := hB.symm.trans ht
      subst hE
      refine lv_iload_n hx hb dX7_isSetting_22 rfl (lv_at hl 1 rfl) ?_
      have hPc := hP.sub (ws' := []) [] rfl
      refine va_calli (va_runS (As := [.int p0]) (rest := [.int r_19]) ⟨hx, hb, hml, hown, hts⟩ (mz_g_heapOf l dC dI cI cJ cZ p0 s.heap ) (va_cwS 1 hts gX7_isSetting_X7_heapOf rfl rfl rfl (by decide +kernel) ⟨Nat.le_of_ble_eq_true rfl, Nat.le_of_ble_eq_true rfl⟩) ⟨fun a U g mk q => mz_blP q, fun U hU hW => ⟨rfl, hU, hPc, va_K.moved hW.alike hK, mz_nw hW hN⟩⟩ rfl rfl hl.1 rfl (lv_room (Nat.le_of_ble_eq_true rfl)) dX7_isSetting_23 ⟨Nat.le_of_ble_eq_true rfl, Nat.le_of_ble_eq_true rfl⟩) hS (fun q _ h => h.elim) (fun q h => h.elim) (fun r_23 u t H1 locs ht hvm hw_23 hB hz1 hk1 hS => ?_)
      have hE : s.heap = H1 := hB.symm.trans ht
      subst hE
      refine lv_iconst (v := (-1)) hx hb dX7_isSetting_26 (by decide +kernel) ?_
      refine lv_ixor hx hb dX7_isSetting_27 ?_
      refine lv_topi (fun v_27 ev_27 => ?_)
      refine lv_iand hx hb dX7_isSetting_28 ?_
      refine lv_topi (fun v_28 ev_28 => ?_)
      refine lv_if_ne (tgt := 36) hx hb dX7_isSetting_29 (by decide) (fun c_29 => ?_) (fun c_29 => ?_)
      · skip
        refine lv_iconst (v := 0) hx hb dX7_isSetting_36 (by decide +kernel) ?_
        refine W.widen (k := 0) (n := 0) (Nat.le_of_ble_eq_true rfl) (Nat.le_of_ble_eq_true rfl) ?_
        exact W.zret (v := 0) hx hb hr (mz_nz (by decide +kernel)) (fun t ht hW => ⟨⟨0, (), rfl, Or.inl rfl, ht⟩, hS.F ht⟩) hS.2.2 dX7_isSetting_37
      · skip
        refine lv_iconst (v := 1) hx hb dX7_isSetting_32 (by decide +kernel) ?_
        refine lv_goto (tgt := 37) hx hb dX7_isSetting_33 (by decide) ?_
        refine W.widen (k := 0) (n := 0) (Nat.le_of_ble_eq_true rfl) (Nat.le_of_ble_eq_true rfl) ?_
        exact W.zret (v := 1) hx hb hr (mz_nz (by decide +kernel)) (fun t ht hW => ⟨⟨1, (), rfl, Or.inr rfl, ht⟩, hS.F ht⟩) hS.2.2 dX7_isSetting_37
set_option maxHeartbeats 1000000 in
set_option maxRecDepth 100000 in
theorem mz_x_leastOfBoth (l : Launch) (dC : Nat → ClassId) (dI : Nat → Nat → Nat) (cI cJ cZ : ClassId) (mx : Nat) (dr : Nat) (th : Nat) (bk : Nat) (wt : Nat) (tt : Nat) (lh : Nat) (la : Nat) (sh : Int32) (ab : Int64) (be : Int64) (wo : Nat) (ev : Int32) (fw : Nat → Int64) (p0 : Int32) (p1 : Int64) (p2 : Int64) (Hq : Heap)  : Met l yX7_leastOfBoth wsX7_leastOfBoth ({ frames := 3, cells := 0, slots := 0, locals := 68 }) (va_Pc [.ref mx, .int p0, .long p1, .long p2] (fun U => U.heap = Hq ∧ va_P (dC, dI) vwCl [(mx, .inr (7, [.ref dr, .ref th, .ref bk, .ref wt, .ref tt, .ref lh, .ref la, .int sh, .long ab, .long be])), (wt, .inr (6, [.ref wo, .int ev])), (wo, .inl (cJ, 256, .inr (.inl fw)))] Hq ∧ va_K (dC, dI) vwCl [(cI, FieldType.int), (cJ, FieldType.long), (cZ, FieldType.boolean)] U ∧ mz_N U)) (va_Ql (fun (r : Int64) (_ : Unit) => True) (fun _ t => t.heap = Hq) (fun _ : Nat => False)) 0 0 (fun _ : Nat => False) := by
  refine Met.ofW (cc := cX7_leastOfBoth) (maxL := 10) (ret := (some .long)) (by decide) rfl ?_
  intro p e s m args below meth c s₁ B hml hv
  obtain ⟨rfl, hH, hP, hK, hN⟩ := hv
  subst hH
  have hx := B.exec
  have hb := B.bytes
  have hr := B.returns
  have hts := atoms_spec (ws := wsX7_leastOfBoth) B.pre
  have hown : s.vm.findClass RX7 = some m.cls := findClass_of_methodNamed B.named
  have hlocks := B.notSynchronized
  have hS : va_S (fun _ : Nat => False) s.heap s.heap [] := va_S.rf
  have hiX7 : ∀ w ∈ u_ws RX7 TX7 10, w ∈ wsX7_leastOfBoth := by decide +kernel
  have hl := lv_entry ([.ref mx, .int p0, .long p1, .long p2]) (n := 10) (Nat.le_of_ble_eq_true rfl)
  rw [lg_entry_eq]
  generalize (lg_sl ([.ref mx, .int p0, .long p1, .long p2]) ++ List.replicate (10 - (lg_sl ([.ref mx, .int p0, .long p1, .long p2])).length) Slot.unset).toArray = ls at hl ⊢
  have hl : lv_has ls 10 [(0, .ref mx), (1, .int p0), (2, .long p1), (4, .long p2)] := hl
  refine lv_aload_n hx hb dX7_leastOfBoth_0 rfl (lv_at hl 0 rfl) ?_
  refine va_get (D := (dC, dI)) (ci := 7) (v := .ref wt) (C := RX7) (T := TX7) (N := 10) hx hb hts hiX7 hown hK hP 0 rfl rfl 3 (by decide) (hts (.fieldLink RX7 29 "MadeItSo" "weights" "LMadeItSo$Weights;") (by decide +kernel)) (fun _ h9 => h9) rfl dX7_leastOfBoth_1 ?_
  refine lv_iload_n hx hb dX7_leastOfBoth_4 rfl (lv_at hl 1 rfl) ?_
  have hPc := hP.sub (ws' := []) [] rfl
  refine va_calli (va_runS (As := [.int p0]) (rest := [.ref wt]) ⟨hx, hb, hml, hown, hts⟩ (mz_g_bit l dC dI cI cJ cZ p0 s.heap ) (va_cwS 1 hts gX7_leastOfBoth_X7_bit rfl rfl rfl (by decide +kernel) ⟨Nat.le_of_ble_eq_true rfl, Nat.le_of_ble_eq_true rfl⟩) ⟨fun a U g mk q => mz_blP q, fun U hU hW => ⟨rfl, hU, hPc, va_K.moved hW.alike hK, mz_nw hW hN⟩⟩ rfl rfl hl.1 rfl (lv_room (Nat.le_of_ble_eq_true rfl)) dX7_leastOfBoth_5 ⟨Nat.le_of_ble_eq_true rfl, Nat.le_of_ble_eq_true rfl⟩) hS (fun q _ h => h.elim) (fun q h => h.elim) (fun r_5 u t H1 locs ht hvm hw_5 hB hz1 hk1 hS => ?_)
  have hE : s.heap = H1 := hB.symm.trans ht
  subst hE
  obtain rfl : r_5 = (1 <<< (p0 &&& 31)) := hw_5
  refine lv_iload_n hx hb dX7_leastOfBoth_8 rfl (lv_at hl 1 rfl) ?_
  have hPc := hP.sub (ws' := []) [] rfl
  refine va_calli (va_runS (As := [.int p0]) (rest := [.int (1 <<< (p0 &&& 31)), .ref wt]) ⟨hx, hb, hml, hown, hts⟩ (mz_g_bit l dC dI cI cJ cZ p0 s.heap ) (va_cwS 1 hts gX7_leastOfBoth_X7_bit rfl rfl rfl (by decide +kernel) ⟨Nat.le_of_ble_eq_true rfl, Nat.le_of_ble_eq_true rfl⟩) ⟨fun a U g mk q => mz_blP q, fun U hU hW => ⟨rfl, hU, hPc, va_K.moved hW.alike hK, mz_nw hW hN⟩⟩ rfl rfl hl.1 rfl (lv_room (Nat.le_of_ble_eq_true rfl)) dX7_leastOfBoth_9 ⟨Nat.le_of_ble_eq_true rfl, Nat.le_of_ble_eq_true rfl⟩) hS (fun q _ h => h.elim) (fun q h => h.elim) (fun r_9 u t H1 locs ht hvm hw_9 hB hz1 hk1 hS => ?_)
  have hE : s.heap = H1 := hB.symm.trans ht
  subst hE
  obtain rfl : r_9 = (1 <<< (p0 &&& 31)) := hw_9
  have hPc := hP.sub (ws' := [(wt, .inr (6, [.ref wo, .int ev])), (wo, .inl (cJ, 256, .inr (.inl fw)))]) [1, 2] rfl
  refine va_calll (va_runV (As := [.int (1 <<< (p0 &&& 31)), .int (1 <<< (p0 &&& 31))]) (rest := []) ⟨hx, hb, hml, hown, hts⟩ (mz_w_having l dC dI cI cJ cZ wt wo ev fw (1 <<< (p0 &&& 31)) (1 <<< (p0 &&& 31)) s.heap ) (cwV 2 hts gX7_leastOfBoth_X6_having rfl rfl rfl (by decide +kernel) ⟨Nat.le_of_ble_eq_true rfl, Nat.le_of_ble_eq_true rfl⟩) ⟨fun a U g mk q => mz_blP q, va_recv hK hPc (ci := 6) (q0 := 0) rfl rfl, fun U hU hW => ⟨rfl, hU, hPc, va_K.moved hW.alike hK, mz_nw hW hN⟩⟩ rfl rfl hl.1 rfl (lv_room (Nat.le_of_ble_eq_true rfl)) dX7_leastOfBoth_12 ⟨Nat.le_of_ble_eq_true rfl, Nat.le_of_ble_eq_true rfl⟩) hS (fun q _ h => h.elim) (fun q h => h.elim) (fun r_12 u t H1 locs ht hvm hw_12 hB hz1 hk1 hS => ?_)
  have hE : s.heap = H1 := hB.symm.trans ht
  subst hE
  refine lv_lstore (lv' := [(6, .long r_12), (0, .ref mx), (1, .int p0), (2, .long p1), (4, .long p2)]) hx hb dX7_leastOfBoth_15 hl (by decide) rfl (fun ls hl => ?_)
  refine lv_lconst (v := 0) hx hb dX7_leastOfBoth_17 (by decide +kernel) ?_
  refine lv_lload_n hx hb dX7_leastOfBoth_18 rfl (lv_at hl 3 rfl) ?_
  refine lv_lload hx hb dX7_leastOfBoth_19 (lv_at hl 4 rfl) ?_
  refine lv_lsub hx hb dX7_leastOfBoth_21 ?_
  refine lv_topl (fun v_21 ev_21 => ?_)
  refine va_mmax_long hx hb (by rw [hml]; exact hl.1.symm) hown (hts (.methodLink RX7 199 Lib.MathLoose.max_long.x) (by decide +kernel)) (hts (.static Lib.MathLoose.max_long.x) (by decide +kernel)) (hts (.initialized "java/lang/Math") (by decide +kernel)) (hts (.code Lib.MathLoose.max_long.x Lib.MathLoose.max_long.code 4 (some .long)) (by decide +kernel)) (Nat.le_of_ble_eq_true rfl) (Nat.le_of_ble_eq_true rfl) (Nat.le_of_ble_eq_true rfl) (Nat.le_of_ble_eq_true rfl) dX7_leastOfBoth_22 ?_
  refine lv_topl (fun v_22 ev_22 => ?_)
  refine lv_lstore (lv' := [(8, .long v_22), (6, .long r_12), (0, .ref mx), (1, .int p0), (2, .long p1), (4, .long p2)]) hx hb dX7_leastOfBoth_25 hl (by decide) rfl (fun ls hl => ?_)
  refine lv_lload hx hb dX7_leastOfBoth_27 (lv_at hl 0 rfl) ?_
  refine lv_lload hx hb dX7_leastOfBoth_29 (lv_at hl 1 rfl) ?_
  refine lv_lload hx hb dX7_leastOfBoth_31 (lv_at hl 5 rfl) ?_
  refine lv_lsub hx hb dX7_leastOfBoth_33 ?_
  refine lv_topl (fun v_33 ev_33 => ?_)
  refine lv_lload_n hx hb dX7_leastOfBoth_34 rfl (lv_at hl 4 rfl) ?_
  refine lv_lload hx hb dX7_leastOfBoth_35 (lv_at hl 1 rfl) ?_
  refine lv_lsub hx hb dX7_leastOfBoth_37 ?_
  refine lv_topl (fun v_37 ev_37 => ?_)
  refine va_mmax_long hx hb (by rw [hml]; exact hl.1.symm) hown (hts (.methodLink RX7 199 Lib.MathLoose.max_long.x) (by decide +kernel)) (hts (.static Lib.MathLoose.max_long.x) (by decide +kernel)) (hts (.initialized "java/lang/Math") (by decide +kernel)) (hts (.code Lib.MathLoose.max_long.x Lib.MathLoose.max_long.code 4 (some .long)) (by decide +kernel)) (Nat.le_of_ble_eq_true rfl) (Nat.le_of_ble_eq_true rfl) (Nat.le_of_ble_eq_true rfl) (Nat.le_of_ble_eq_true rfl) dX7_leastOfBoth_38 ?_
  refine lv_topl (fun v_38 ev_38 => ?_)
  refine va_mmax_long hx hb (by rw [hml]; exact hl.1.symm) hown (hts (.methodLink RX7 199 Lib.MathLoose.max_long.x) (by decide +kernel)) (hts (.static Lib.MathLoose.max_long.x) (by decide +kernel)) (hts (.initialized "java/lang/Math") (by decide +kernel)) (hts (.code Lib.MathLoose.max_long.x Lib.MathLoose.max_long.code 4 (some .long)) (by decide +kernel)) (Nat.le_of_ble_eq_true rfl) (Nat.le_of_ble_eq_true rfl) (Nat.le_of_ble_eq_true rfl) (Nat.le_of_ble_eq_true rfl) dX7_leastOfBoth_41 ?_
  refine lv_topl (fun v_41 ev_41 => ?_)
  refine W.widen (k := 0) (n := 0) (Nat.le_of_ble_eq_true rfl) (Nat.le_of_ble_eq_true rfl) ?_
  exact W.lret (v := v_41) hx hb hr (fun t ht hW => ⟨⟨v_41, (), rfl, trivial, ht⟩, hS.F ht⟩) hS.2.2 dX7_leastOfBoth_44
set_option maxHeartbeats 1000000 in
set_option maxRecDepth 100000 in
theorem mz_x_mostOfBoth (l : Launch) (dC : Nat → ClassId) (dI : Nat → Nat → Nat) (cI cJ cZ : ClassId) (mx : Nat) (dr : Nat) (th : Nat) (bk : Nat) (wt : Nat) (tt : Nat) (lh : Nat) (la : Nat) (sh : Int32) (ab : Int64) (be : Int64) (wo : Nat) (ev : Int32) (fw : Nat → Int64) (p0 : Int32) (p1 : Int32) (p2 : Int64) (p3 : Int64) (Hq : Heap)  : Met l yX7_mostOfBoth wsX7_mostOfBoth ({ frames := 3, cells := 0, slots := 0, locals := 68 }) (va_Pc [.ref mx, .int p0, .int p1, .long p2, .long p3] (fun U => U.heap = Hq ∧ va_P (dC, dI) vwCl [(mx, .inr (7, [.ref dr, .ref th, .ref bk, .ref wt, .ref tt, .ref lh, .ref la, .int sh, .long ab, .long be])), (wt, .inr (6, [.ref wo, .int ev])), (wo, .inl (cJ, 256, .inr (.inl fw)))] Hq ∧ va_K (dC, dI) vwCl [(cI, FieldType.int), (cJ, FieldType.long), (cZ, FieldType.boolean)] U ∧ mz_N U)) (va_Ql (fun (r : Int64) (_ : Unit) => True) (fun _ t => t.heap = Hq) (fun _ : Nat => False)) 0 0 (fun _ : Nat => False) := by
  refine Met.ofW (cc := cX7_mostOfBoth) (maxL := 14) (ret := (some .long)) (by decide) rfl ?_
  intro p e s m args below meth c s₁ B hml hv
  obtain ⟨rfl, hH, hP, hK, hN⟩ := hv
  subst hH
  have hx := B.exec
  have hb := B.bytes
  have hr := B.returns
  have hts := atoms_spec (ws := wsX7_mostOfBoth) B.pre
  have hown : s.vm.findClass RX7 = some m.cls := findClass_of_methodNamed B.named
  have hlocks := B.notSynchronized
  have hS : va_S (fun _ : Nat => False) s.heap s.heap [] := va_S.rf
  have hiX7 : ∀ w ∈ u_ws RX7 TX7 10, w ∈ wsX7_mostOfBoth := by decide +kernel
  have hl := lv_entry ([.ref mx, .int p0, .int p1, .long p2, .long p3]) (n := 14) (Nat.le_of_ble_eq_true rfl)
  rw [lg_entry_eq]
  generalize (lg_sl ([.ref mx, .int p0, .int p1, .long p2, .long p3]) ++ List.replicate (14 - (lg_sl ([.ref mx, .int p0, .int p1, .long p2, .long p3])).length) Slot.unset).toArray = ls at hl ⊢
  have hl : lv_has ls 14 [(0, .ref mx), (1, .int p0), (2, .int p1), (3, .long p2), (5, .long p3)] := hl
  refine lv_iload_n hx hb dX7_mostOfBoth_0 rfl (lv_at hl 1 rfl) ?_
  have hPc := hP.sub (ws' := []) [] rfl
  refine va_calli (va_runS (As := [.int p0]) (rest := []) ⟨hx, hb, hml, hown, hts⟩ (mz_g_bit l dC dI cI cJ cZ p0 s.heap ) (va_cwS 1 hts gX7_mostOfBoth_X7_bit rfl rfl rfl (by decide +kernel) ⟨Nat.le_of_ble_eq_true rfl, Nat.le_of_ble_eq_true rfl⟩) ⟨fun a U g mk q => mz_blP q, fun U hU hW => ⟨rfl, hU, hPc, va_K.moved hW.alike hK, mz_nw hW hN⟩⟩ rfl rfl hl.1 rfl (lv_room (Nat.le_of_ble_eq_true rfl)) dX7_mostOfBoth_1 ⟨Nat.le_of_ble_eq_true rfl, Nat.le_of_ble_eq_true rfl⟩) hS (fun q _ h => h.elim) (fun q h => h.elim) (fun r_1 u t H1 locs ht hvm hw_1 hB hz1 hk1 hS => ?_)
  have hE : s.heap = H1 := hB.symm.trans ht
  subst hE
  obtain rfl : r_1 = (1 <<< (p0 &&& 31)) := hw_1
  refine lv_iload_n hx hb dX7_mostOfBoth_4 rfl (lv_at hl 2 rfl) ?_
  have hPc := hP.sub (ws' := []) [] rfl
  refine va_calli (va_runS (As := [.int p1]) (rest := [.int (1 <<< (p0 &&& 31))]) ⟨hx, hb, hml, hown, hts⟩ (mz_g_bit l dC dI cI cJ cZ p1 s.heap ) (va_cwS 1 hts gX7_mostOfBoth_X7_bit rfl rfl rfl (by decide +kernel) ⟨Nat.le_of_ble_eq_true rfl, Nat.le_of_ble_eq_true rfl⟩) ⟨fun a U g mk q => mz_blP q, fun U hU hW => ⟨rfl, hU, hPc, va_K.moved hW.alike hK, mz_nw hW hN⟩⟩ rfl rfl hl.1 rfl (lv_room (Nat.le_of_ble_eq_true rfl)) dX7_mostOfBoth_5 ⟨Nat.le_of_ble_eq_true rfl, Nat.le_of_ble_eq_true rfl⟩) hS (fun q _ h => h.elim) (fun q h => h.elim) (fun r_5 u t H1 locs ht hvm hw_5 hB hz1 hk1 hS => ?_)
  have hE : s.heap = H1 := hB.symm.trans ht
  subst hE
  obtain rfl : r_5 = (1 <<< (p1 &&& 31)) := hw_5
  refine lv_ior hx hb dX7_mostOfBoth_8 ?_
  refine lv_topi (fun v_8 ev_8 => ?_)
  refine lv_istore (lv' := [(7, .int v_8), (0, .ref mx), (1, .int p0), (2, .int p1), (3, .long p2), (5, .long p3)]) hx hb dX7_mostOfBoth_9 hl (by decide) rfl (fun ls hl => ?_)
  refine lv_aload_n hx hb dX7_mostOfBoth_11 rfl (lv_at hl 1 rfl) ?_
  refine va_get (D := (dC, dI)) (ci := 7) (v := .ref wt) (C := RX7) (T := TX7) (N := 10) hx hb hts hiX7 hown hK hP 0 rfl rfl 3 (by decide) (hts (.fieldLink RX7 29 "MadeItSo" "weights" "LMadeItSo$Weights;") (by decide +kernel)) (fun _ h9 => h9) rfl dX7_mostOfBoth_12 ?_
  refine lv_iload hx hb dX7_mostOfBoth_15 (lv_at hl 0 rfl) ?_
  refine lv_iload hx hb dX7_mostOfBoth_17 (lv_at hl 0 rfl) ?_
  have hPc := hP.sub (ws' := [(wt, .inr (6, [.ref wo, .int ev])), (wo, .inl (cJ, 256, .inr (.inl fw)))]) [1, 2] rfl
  refine va_calll (va_runV (As := [.int v_8, .int v_8]) (rest := []) ⟨hx, hb, hml, hown, hts⟩ (mz_w_having l dC dI cI cJ cZ wt wo ev fw v_8 v_8 s.heap ) (cwV 2 hts gX7_mostOfBoth_X6_having rfl rfl rfl (by decide +kernel) ⟨Nat.le_of_ble_eq_true rfl, Nat.le_of_ble_eq_true rfl⟩) ⟨fun a U g mk q => mz_blP q, va_recv hK hPc (ci := 6) (q0 := 0) rfl rfl, fun U hU hW => ⟨rfl, hU, hPc, va_K.moved hW.alike hK, mz_nw hW hN⟩⟩ rfl rfl hl.1 rfl (lv_room (Nat.le_of_ble_eq_true rfl)) dX7_mostOfBoth_19 ⟨Nat.le_of_ble_eq_true rfl, Nat.le_of_ble_eq_true rfl⟩) hS (fun q _ h => h.elim) (fun q h => h.elim) (fun r_19 u t H1 locs ht hvm hw_19 hB hz1 hk1 hS => ?_)
  have hE : s.heap = H1 := hB.symm.trans ht
  subst hE
  refine lv_aload_n hx hb dX7_mostOfBoth_22 rfl (lv_at hl 1 rfl) ?_
  refine va_get (D := (dC, dI)) (ci := 7) (v := .ref wt) (C := RX7) (T := TX7) (N := 10) hx hb hts hiX7 hown hK hP 0 rfl rfl 3 (by decide) (hts (.fieldLink RX7 29 "MadeItSo" "weights" "LMadeItSo$Weights;") (by decide +kernel)) (fun _ h9 => h9) rfl dX7_mostOfBoth_23 ?_
  refine lv_iload hx hb dX7_mostOfBoth_26 (lv_at hl 0 rfl) ?_
  refine lv_iconst (v := 0) hx hb dX7_mostOfBoth_28 (by decide +kernel) ?_
  have hPc := hP.sub (ws' := [(wt, .inr (6, [.ref wo, .int ev])), (wo, .inl (cJ, 256, .inr (.inl fw)))]) [1, 2] rfl
  refine va_calll (va_runV (As := [.int v_8, .int 0]) (rest := [.long r_19]) ⟨hx, hb, hml, hown, hts⟩ (mz_w_having l dC dI cI cJ cZ wt wo ev fw v_8 0 s.heap ) (cwV 2 hts gX7_mostOfBoth_X6_having rfl rfl rfl (by decide +kernel) ⟨Nat.le_of_ble_eq_true rfl, Nat.le_of_ble_eq_true rfl⟩) ⟨fun a U g mk q => mz_blP q, va_recv hK hPc (ci := 6) (q0 := 0) rfl rfl, fun U hU hW => ⟨rfl, hU, hPc, va_K.moved hW.alike hK, mz_nw hW hN⟩⟩ rfl rfl hl.1 rfl (lv_room (Nat.le_of_ble_eq_true rfl)) dX7_mostOfBoth_29 ⟨Nat.le_of_ble_eq_true rfl, Nat.le_of_ble_eq_true rfl⟩) hS (fun q _ h => h.elim) (fun q h => h.elim) (fun r_29 u t H1 locs ht hvm hw_29 hB hz1 hk1 hS => ?_)
  have hE : s.heap = H1 := hB.symm.trans ht
  subst hE
  refine lv_ladd hx hb dX7_mostOfBoth_32 ?_
  refine lv_topl (fun v_32 ev_32 => ?_)
  refine lv_lstore (lv' := [(8, .long v_32), (7, .int v_8), (0, .ref mx), (1, .int p0), (2, .int p1), (3, .long p2), (5, .long p3)]) hx hb dX7_mostOfBoth_33 hl (by decide) rfl (fun ls hl => ?_)
  refine lv_aload_n hx hb dX7_mostOfBoth_35 rfl (lv_at hl 2 rfl) ?_
  refine va_get (D := (dC, dI)) (ci := 7) (v := .ref wt) (C := RX7) (T := TX7) (N := 10) hx hb hts hiX7 hown hK hP 0 rfl rfl 3 (by decide) (hts (.fieldLink RX7 29 "MadeItSo" "weights" "LMadeItSo$Weights;") (by decide +kernel)) (fun _ h9 => h9) rfl dX7_mostOfBoth_36 ?_
  refine lv_iload hx hb dX7_mostOfBoth_39 (lv_at hl 1 rfl) ?_
  refine lv_iload_n hx hb dX7_mostOfBoth_41 rfl (lv_at hl 3 rfl) ?_
  have hPc := hP.sub (ws' := []) [] rfl
  refine va_calli (va_runS (As := [.int p0]) (rest := [.int v_8, .ref wt]) ⟨hx, hb, hml, hown, hts⟩ (mz_g_bit l dC dI cI cJ cZ p0 s.heap ) (va_cwS 1 hts gX7_mostOfBoth_X7_bit rfl rfl rfl (by decide +kernel) ⟨Nat.le_of_ble_eq_true rfl, Nat.le_of_ble_eq_true rfl⟩) ⟨fun a U g mk q => mz_blP q, fun U hU hW => ⟨rfl, hU, hPc, va_K.moved hW.alike hK, mz_nw hW hN⟩⟩ rfl rfl hl.1 rfl (lv_room (Nat.le_of_ble_eq_true rfl)) dX7_mostOfBoth_42 ⟨Nat.le_of_ble_eq_true rfl, Nat.le_of_ble_eq_true rfl⟩) hS (fun q _ h => h.elim) (fun q h => h.elim) (fun r_42 u t H1 locs ht hvm hw_42 hB hz1 hk1 hS => ?_)
  have hE : s.heap = H1 := hB.symm.trans ht
  subst hE
  obtain rfl : r_42 = (1 <<< (p0 &&& 31)) := hw_42
  have hPc := hP.sub (ws' := [(wt, .inr (6, [.ref wo, .int ev])), (wo, .inl (cJ, 256, .inr (.inl fw)))]) [1, 2] rfl
  refine va_calll (va_runV (As := [.int v_8, .int (1 <<< (p0 &&& 31))]) (rest := []) ⟨hx, hb, hml, hown, hts⟩ (mz_w_having l dC dI cI cJ cZ wt wo ev fw v_8 (1 <<< (p0 &&& 31)) s.heap ) (cwV 2 hts gX7_mostOfBoth_X6_having rfl rfl rfl (by decide +kernel) ⟨Nat.le_of_ble_eq_true rfl, Nat.le_of_ble_eq_true rfl⟩) ⟨fun a U g mk q => mz_blP q, va_recv hK hPc (ci := 6) (q0 := 0) rfl rfl, fun U hU hW => ⟨rfl, hU, hPc, va_K.moved hW.alike hK, mz_nw hW hN⟩⟩ rfl rfl hl.1 rfl (lv_room (Nat.le_of_ble_eq_true rfl)) dX7_mostOfBoth_45 ⟨Nat.le_of_ble_eq_true rfl, Nat.le_of_ble_eq_true rfl⟩) hS (fun q _ h => h.elim) (fun q h => h.elim) (fun r_45 u t H1 locs ht hvm hw_45 hB hz1 hk1 hS => ?_)
  have hE : s.heap = H1 := hB.symm.trans ht
  subst hE
  refine lv_aload_n hx hb dX7_mostOfBoth_48 rfl (lv_at hl 2 rfl) ?_
  refine va_get (D := (dC, dI)) (ci := 7) (v := .ref wt) (C := RX7) (T := TX7) (N := 10) hx hb hts hiX7 hown hK hP 0 rfl rfl 3 (by decide) (hts (.fieldLink RX7 29 "MadeItSo" "weights" "LMadeItSo$Weights;") (by decide +kernel)) (fun _ h9 => h9) rfl dX7_mostOfBoth_49 ?_
  refine lv_iload hx hb dX7_mostOfBoth_52 (lv_at hl 1 rfl) ?_
  refine lv_iload_n hx hb dX7_mostOfBoth_54 rfl (lv_at hl 4 rfl) ?_
  have hPc := hP.sub (ws' := []) [] rfl
  refine va_calli (va_runS (As := [.int p1]) (rest := [.int v_8, .ref wt, .long r_45]) ⟨hx, hb, hml, hown, hts⟩ (mz_g_bit l dC dI cI cJ cZ p1 s.heap ) (va_cwS 1 hts gX7_mostOfBoth_X7_bit rfl rfl rfl (by decide +kernel) ⟨Nat.le_of_ble_eq_true rfl, Nat.le_of_ble_eq_true rfl⟩) ⟨fun a U g mk q => mz_blP q, fun U hU hW => ⟨rfl, hU, hPc, va_K.moved hW.alike hK, mz_nw hW hN⟩⟩ rfl rfl hl.1 rfl (lv_room (Nat.le_of_ble_eq_true rfl)) dX7_mostOfBoth_55 ⟨Nat.le_of_ble_eq_true rfl, Nat.le_of_ble_eq_true rfl⟩) hS (fun q _ h => h.elim) (fun q h => h.elim) (fun r_55 u t H1 locs ht hvm hw_55 hB hz1 hk1 hS => ?_)
  have hE : s.heap = H1 := hB.symm.trans ht
  subst hE
  obtain rfl : r_55 = (1 <<< (p1 &&& 31)) := hw_55
  have hPc := hP.sub (ws' := [(wt, .inr (6, [.ref wo, .int ev])), (wo, .inl (cJ, 256, .inr (.inl fw)))]) [1, 2] rfl
  refine va_calll (va_runV (As := [.int v_8, .int (1 <<< (p1 &&& 31))]) (rest := [.long r_45]) ⟨hx, hb, hml, hown, hts⟩ (mz_w_having l dC dI cI cJ cZ wt wo ev fw v_8 (1 <<< (p1 &&& 31)) s.heap ) (cwV 2 hts gX7_mostOfBoth_X6_having rfl rfl rfl (by decide +kernel) ⟨Nat.le_of_ble_eq_true rfl, Nat.le_of_ble_eq_true rfl⟩) ⟨fun a U g mk q => mz_blP q, va_recv hK hPc (ci := 6) (q0 := 0) rfl rfl, fun U hU hW => ⟨rfl, hU, hPc, va_K.moved hW.alike hK, mz_nw hW hN⟩⟩ rfl rfl hl.1 rfl (lv_room (Nat.le_of_ble_eq_true rfl)) dX7_mostOfBoth_58 ⟨Nat.le_of_ble_eq_true rfl, Nat.le_of_ble_eq_true rfl⟩) hS (fun q _ h => h.elim) (fun q h => h.elim) (fun r_58 u t H1 locs ht hvm hw_58 hB hz1 hk1 hS => ?_)
  have hE : s.heap = H1 := hB.symm.trans ht
  subst hE
  refine lv_ladd hx hb dX7_mostOfBoth_61 ?_
  refine lv_topl (fun v_61 ev_61 => ?_)
  refine lv_lstore (lv' := [(10, .long v_61), (8, .long v_32), (7, .int v_8), (0, .ref mx), (1, .int p0), (2, .int p1), (3, .long p2), (5, .long p3)]) hx hb dX7_mostOfBoth_62 hl (by decide) rfl (fun ls hl => ?_)
  refine lv_lload_n hx hb dX7_mostOfBoth_64 rfl (lv_at hl 6 rfl) ?_
  refine lv_aload_n hx hb dX7_mostOfBoth_65 rfl (lv_at hl 3 rfl) ?_
  refine va_get (D := (dC, dI)) (ci := 7) (v := .ref wt) (C := RX7) (T := TX7) (N := 10) hx hb hts hiX7 hown hK hP 0 rfl rfl 3 (by decide) (hts (.fieldLink RX7 29 "MadeItSo" "weights" "LMadeItSo$Weights;") (by decide +kernel)) (fun _ h9 => h9) rfl dX7_mostOfBoth_66 ?_
  refine lv_iconst (v := 0) hx hb dX7_mostOfBoth_69 (by decide +kernel) ?_
  refine lv_iconst (v := 0) hx hb dX7_mostOfBoth_70 (by decide +kernel) ?_
  have hPc := hP.sub (ws' := [(wt, .inr (6, [.ref wo, .int ev])), (wo, .inl (cJ, 256, .inr (.inl fw)))]) [1, 2] rfl
  refine va_calll (va_runV (As := [.int 0, .int 0]) (rest := [.long p2]) ⟨hx, hb, hml, hown, hts⟩ (mz_w_having l dC dI cI cJ cZ wt wo ev fw 0 0 s.heap ) (cwV 2 hts gX7_mostOfBoth_X6_having rfl rfl rfl (by decide +kernel) ⟨Nat.le_of_ble_eq_true rfl, Nat.le_of_ble_eq_true rfl⟩) ⟨fun a U g mk q => mz_blP q, va_recv hK hPc (ci := 6) (q0 := 0) rfl rfl, fun U hU hW => ⟨rfl, hU, hPc, va_K.moved hW.alike hK, mz_nw hW hN⟩⟩ rfl rfl hl.1 rfl (lv_room (Nat.le_of_ble_eq_true rfl)) dX7_mostOfBoth_71 ⟨Nat.le_of_ble_eq_true rfl, Nat.le_of_ble_eq_true rfl⟩) hS (fun q _ h => h.elim) (fun q h => h.elim) (fun r_71 u t H1 locs ht hvm hw_71 hB hz1 hk1 hS => ?_)
  have hE : s.heap = H1 := hB.symm.trans ht
  subst hE
  refine lv_lload hx hb dX7_mostOfBoth_74 (lv_at hl 7 rfl) ?_
  refine lv_lsub hx hb dX7_mostOfBoth_76 ?_
  refine lv_topl (fun v_76 ev_76 => ?_)
  refine va_mmin_long hx hb (by rw [hml]; exact hl.1.symm) hown (hts (.methodLink RX7 236 Lib.MathLoose.min_long.x) (by decide +kernel)) (hts (.static Lib.MathLoose.min_long.x) (by decide +kernel)) (hts (.initialized "java/lang/Math") (by decide +kernel)) (hts (.code Lib.MathLoose.min_long.x Lib.MathLoose.min_long.code 4 (some .long)) (by decide +kernel)) (Nat.le_of_ble_eq_true rfl) (Nat.le_of_ble_eq_true rfl) (Nat.le_of_ble_eq_true rfl) (Nat.le_of_ble_eq_true rfl) dX7_mostOfBoth_77 ?_
  refine lv_topl (fun v_77 ev_77 => ?_)
  refine lv_lstore (lv' := [(12, .long v_77), (10, .long v_61), (8, .long v_32), (7, .int v_8), (0, .ref mx), (1, .int p0), (2, .int p1), (3, .long p2), (5, .long p3)]) hx hb dX7_mostOfBoth_80 hl (by decide) rfl (fun ls hl => ?_)
  refine lv_lload hx hb dX7_mostOfBoth_82 (lv_at hl 0 rfl) ?_
  refine lv_lload hx hb dX7_mostOfBoth_84 (lv_at hl 2 rfl) ?_
  refine lv_lload_n hx hb dX7_mostOfBoth_86 rfl (lv_at hl 7 rfl) ?_
  refine lv_lload hx hb dX7_mostOfBoth_87 (lv_at hl 8 rfl) ?_
  refine lv_lsub hx hb dX7_mostOfBoth_89 ?_
  refine lv_topl (fun v_89 ev_89 => ?_)
  refine lv_lload hx hb dX7_mostOfBoth_90 (lv_at hl 1 rfl) ?_
  refine lv_ladd hx hb dX7_mostOfBoth_92 ?_
  refine lv_topl (fun v_92 ev_92 => ?_)
  refine va_mmin_long hx hb (by rw [hml]; exact hl.1.symm) hown (hts (.methodLink RX7 236 Lib.MathLoose.min_long.x) (by decide +kernel)) (hts (.static Lib.MathLoose.min_long.x) (by decide +kernel)) (hts (.initialized "java/lang/Math") (by decide +kernel)) (hts (.code Lib.MathLoose.min_long.x Lib.MathLoose.min_long.code 4 (some .long)) (by decide +kernel)) (Nat.le_of_ble_eq_true rfl) (Nat.le_of_ble_eq_true rfl) (Nat.le_of_ble_eq_true rfl) (Nat.le_of_ble_eq_true rfl) dX7_mostOfBoth_93 ?_
  refine lv_topl (fun v_93 ev_93 => ?_)
  refine va_mmin_long hx hb (by rw [hml]; exact hl.1.symm) hown (hts (.methodLink RX7 236 Lib.MathLoose.min_long.x) (by decide +kernel)) (hts (.static Lib.MathLoose.min_long.x) (by decide +kernel)) (hts (.initialized "java/lang/Math") (by decide +kernel)) (hts (.code Lib.MathLoose.min_long.x Lib.MathLoose.min_long.code 4 (some .long)) (by decide +kernel)) (Nat.le_of_ble_eq_true rfl) (Nat.le_of_ble_eq_true rfl) (Nat.le_of_ble_eq_true rfl) (Nat.le_of_ble_eq_true rfl) dX7_mostOfBoth_96 ?_
  refine lv_topl (fun v_96 ev_96 => ?_)
  refine W.widen (k := 0) (n := 0) (Nat.le_of_ble_eq_true rfl) (Nat.le_of_ble_eq_true rfl) ?_
  exact W.lret (v := v_96) hx hb hr (fun t ht hW => ⟨⟨v_96, (), rfl, trivial, ht⟩, hS.F ht⟩) hS.2.2 dX7_mostOfBoth_99
set_option maxHeartbeats 1000000 in
set_option maxRecDepth 100000 in
theorem mz_x_mostOfNeed (l : Launch) (dC : Nat → ClassId) (dI : Nat → Nat → Nat) (cI cJ cZ : ClassId) (mx : Nat) (dr : Nat) (th : Nat) (bk : Nat) (wt : Nat) (tt : Nat) (lh : Nat) (la : Nat) (sh : Int32) (ab : Int64) (be : Int64) (wo : Nat) (ev : Int32) (fw : Nat → Int64) (p0 : Int32) (p1 : Int32) (p2 : Int64) (Hq : Heap)  : Met l yX7_mostOfNeed wsX7_mostOfNeed ({ frames := 3, cells := 0, slots := 0, locals := 68 }) (va_Pc [.ref mx, .int p0, .int p1, .long p2] (fun U => U.heap = Hq ∧ va_P (dC, dI) vwCl [(mx, .inr (7, [.ref dr, .ref th, .ref bk, .ref wt, .ref tt, .ref lh, .ref la, .int sh, .long ab, .long be])), (wt, .inr (6, [.ref wo, .int ev])), (wo, .inl (cJ, 256, .inr (.inl fw)))] Hq ∧ va_K (dC, dI) vwCl [(cI, FieldType.int), (cJ, FieldType.long), (cZ, FieldType.boolean)] U ∧ mz_N U)) (va_Ql (fun (r : Int64) (_ : Unit) => True) (fun _ t => t.heap = Hq) (fun _ : Nat => False)) 0 0 (fun _ : Nat => False) := by
  refine Met.ofW (cc := cX7_mostOfNeed) (maxL := 8) (ret := (some .long)) (by decide) rfl ?_
  intro p e s m args below meth c s₁ B hml hv
  obtain ⟨rfl, hH, hP, hK, hN⟩ := hv
  subst hH
  have hx := B.exec
  have hb := B.bytes
  have hr := B.returns
  have hts := atoms_spec (ws := wsX7_mostOfNeed) B.pre
  have hown : s.vm.findClass RX7 = some m.cls := findClass_of_methodNamed B.named
  have hlocks := B.notSynchronized
  have hS : va_S (fun _ : Nat => False) s.heap s.heap [] := va_S.rf
  have hiX7 : ∀ w ∈ u_ws RX7 TX7 10, w ∈ wsX7_mostOfNeed := by decide +kernel
  have hl := lv_entry ([.ref mx, .int p0, .int p1, .long p2]) (n := 8) (Nat.le_of_ble_eq_true rfl)
  rw [lg_entry_eq]
  generalize (lg_sl ([.ref mx, .int p0, .int p1, .long p2]) ++ List.replicate (8 - (lg_sl ([.ref mx, .int p0, .int p1, .long p2])).length) Slot.unset).toArray = ls at hl ⊢
  have hl : lv_has ls 8 [(0, .ref mx), (1, .int p0), (2, .int p1), (3, .long p2)] := hl
  refine lv_iload_n hx hb dX7_mostOfNeed_0 rfl (lv_at hl 1 rfl) ?_
  have hPc := hP.sub (ws' := []) [] rfl
  refine va_calli (va_runS (As := [.int p0]) (rest := []) ⟨hx, hb, hml, hown, hts⟩ (mz_g_bit l dC dI cI cJ cZ p0 s.heap ) (va_cwS 1 hts gX7_mostOfNeed_X7_bit rfl rfl rfl (by decide +kernel) ⟨Nat.le_of_ble_eq_true rfl, Nat.le_of_ble_eq_true rfl⟩) ⟨fun a U g mk q => mz_blP q, fun U hU hW => ⟨rfl, hU, hPc, va_K.moved hW.alike hK, mz_nw hW hN⟩⟩ rfl rfl hl.1 rfl (lv_room (Nat.le_of_ble_eq_true rfl)) dX7_mostOfNeed_1 ⟨Nat.le_of_ble_eq_true rfl, Nat.le_of_ble_eq_true rfl⟩) hS (fun q _ h => h.elim) (fun q h => h.elim) (fun r_1 u t H1 locs ht hvm hw_1 hB hz1 hk1 hS => ?_)
  have hE : s.heap = H1 := hB.symm.trans ht
  subst hE
  obtain rfl : r_1 = (1 <<< (p0 &&& 31)) := hw_1
  refine lv_iload_n hx hb dX7_mostOfNeed_4 rfl (lv_at hl 2 rfl) ?_
  have hPc := hP.sub (ws' := []) [] rfl
  refine va_calli (va_runS (As := [.int p1]) (rest := [.int (1 <<< (p0 &&& 31))]) ⟨hx, hb, hml, hown, hts⟩ (mz_g_bit l dC dI cI cJ cZ p1 s.heap ) (va_cwS 1 hts gX7_mostOfNeed_X7_bit rfl rfl rfl (by decide +kernel) ⟨Nat.le_of_ble_eq_true rfl, Nat.le_of_ble_eq_true rfl⟩) ⟨fun a U g mk q => mz_blP q, fun U hU hW => ⟨rfl, hU, hPc, va_K.moved hW.alike hK, mz_nw hW hN⟩⟩ rfl rfl hl.1 rfl (lv_room (Nat.le_of_ble_eq_true rfl)) dX7_mostOfNeed_5 ⟨Nat.le_of_ble_eq_true rfl, Nat.le_of_ble_eq_true rfl⟩) hS (fun q _ h => h.elim) (fun q h => h.elim) (fun r_5 u t H1 locs ht hvm hw_5 hB hz1 hk1 hS => ?_)
  have hE : s.heap = H1 := hB.symm.trans ht
  subst hE
  obtain rfl : r_5 = (1 <<< (p1 &&& 31)) := hw_5
  refine lv_ior hx hb dX7_mostOfNeed_8 ?_
  refine lv_topi (fun v_8 ev_8 => ?_)
  refine lv_istore (lv' := [(5, .int v_8), (0, .ref mx), (1, .int p0), (2, .int p1), (3, .long p2)]) hx hb dX7_mostOfNeed_9 hl (by decide) rfl (fun ls hl => ?_)
  refine lv_aload_n hx hb dX7_mostOfNeed_11 rfl (lv_at hl 1 rfl) ?_
  refine va_get (D := (dC, dI)) (ci := 7) (v := .ref wt) (C := RX7) (T := TX7) (N := 10) hx hb hts hiX7 hown hK hP 0 rfl rfl 3 (by decide) (hts (.fieldLink RX7 29 "MadeItSo" "weights" "LMadeItSo$Weights;") (by decide +kernel)) (fun _ h9 => h9) rfl dX7_mostOfNeed_12 ?_
  refine lv_iconst (v := 0) hx hb dX7_mostOfNeed_15 (by decide +kernel) ?_
  refine lv_iconst (v := 0) hx hb dX7_mostOfNeed_16 (by decide +kernel) ?_
  have hPc := hP.sub (ws' := [(wt, .inr (6, [.ref wo, .int ev])), (wo, .inl (cJ, 256, .inr (.inl fw)))]) [1, 2] rfl
  refine va_calll (va_runV (As := [.int 0, .int 0]) (rest := []) ⟨hx, hb, hml, hown, hts⟩ (mz_w_having l dC dI cI cJ cZ wt wo ev fw 0 0 s.heap ) (cwV 2 hts gX7_mostOfNeed_X6_having rfl rfl rfl (by decide +kernel) ⟨Nat.le_of_ble_eq_true rfl, Nat.le_of_ble_eq_true rfl⟩) ⟨fun a U g mk q => mz_blP q, va_recv hK hPc (ci := 6) (q0 := 0) rfl rfl, fun U hU hW => ⟨rfl, hU, hPc, va_K.moved hW.alike hK, mz_nw hW hN⟩⟩ rfl rfl hl.1 rfl (lv_room (Nat.le_of_ble_eq_true rfl)) dX7_mostOfNeed_17 ⟨Nat.le_of_ble_eq_true rfl, Nat.le_of_ble_eq_true rfl⟩) hS (fun q _ h => h.elim) (fun q h => h.elim) (fun r_17 u t H1 locs ht hvm hw_17 hB hz1 hk1 hS => ?_)
  have hE : s.heap = H1 := hB.symm.trans ht
  subst hE
  refine lv_lload_n hx hb dX7_mostOfNeed_20 rfl (lv_at hl 4 rfl) ?_
  refine lv_lsub hx hb dX7_mostOfNeed_21 ?_
  refine lv_topl (fun v_21 ev_21 => ?_)
  refine lv_aload_n hx hb dX7_mostOfNeed_22 rfl (lv_at hl 1 rfl) ?_
  refine va_get (D := (dC, dI)) (ci := 7) (v := .ref wt) (C := RX7) (T := TX7) (N := 10) hx hb hts hiX7 hown hK hP 0 rfl rfl 3 (by decide) (hts (.fieldLink RX7 29 "MadeItSo" "weights" "LMadeItSo$Weights;") (by decide +kernel)) (fun _ h9 => h9) rfl dX7_mostOfNeed_23 ?_
  refine lv_iload hx hb dX7_mostOfNeed_26 (lv_at hl 0 rfl) ?_
  refine lv_iconst (v := 0) hx hb dX7_mostOfNeed_28 (by decide +kernel) ?_
  have hPc := hP.sub (ws' := [(wt, .inr (6, [.ref wo, .int ev])), (wo, .inl (cJ, 256, .inr (.inl fw)))]) [1, 2] rfl
  refine va_calll (va_runV (As := [.int v_8, .int 0]) (rest := [.long v_21]) ⟨hx, hb, hml, hown, hts⟩ (mz_w_having l dC dI cI cJ cZ wt wo ev fw v_8 0 s.heap ) (cwV 2 hts gX7_mostOfNeed_X6_having rfl rfl rfl (by decide +kernel) ⟨Nat.le_of_ble_eq_true rfl, Nat.le_of_ble_eq_true rfl⟩) ⟨fun a U g mk q => mz_blP q, va_recv hK hPc (ci := 6) (q0 := 0) rfl rfl, fun U hU hW => ⟨rfl, hU, hPc, va_K.moved hW.alike hK, mz_nw hW hN⟩⟩ rfl rfl hl.1 rfl (lv_room (Nat.le_of_ble_eq_true rfl)) dX7_mostOfNeed_29 ⟨Nat.le_of_ble_eq_true rfl, Nat.le_of_ble_eq_true rfl⟩) hS (fun q _ h => h.elim) (fun q h => h.elim) (fun r_29 u t H1 locs ht hvm hw_29 hB hz1 hk1 hS => ?_)
  have hE : s.heap = H1 := hB.symm.trans ht
  subst hE
  refine lv_lsub hx hb dX7_mostOfNeed_32 ?_
  refine lv_topl (fun v_32 ev_32 => ?_)
  refine lv_lstore (lv' := [(6, .long v_32), (5, .int v_8), (0, .ref mx), (1, .int p0), (2, .int p1), (3, .long p2)]) hx hb dX7_mostOfNeed_33 hl (by decide) rfl (fun ls hl => ?_)
  refine lv_aload_n hx hb dX7_mostOfNeed_35 rfl (lv_at hl 2 rfl) ?_
  refine va_get (D := (dC, dI)) (ci := 7) (v := .ref wt) (C := RX7) (T := TX7) (N := 10) hx hb hts hiX7 hown hK hP 0 rfl rfl 3 (by decide) (hts (.fieldLink RX7 29 "MadeItSo" "weights" "LMadeItSo$Weights;") (by decide +kernel)) (fun _ h9 => h9) rfl dX7_mostOfNeed_36 ?_
  refine lv_iload hx hb dX7_mostOfNeed_39 (lv_at hl 1 rfl) ?_
  refine lv_iload hx hb dX7_mostOfNeed_41 (lv_at hl 1 rfl) ?_
  have hPc := hP.sub (ws' := [(wt, .inr (6, [.ref wo, .int ev])), (wo, .inl (cJ, 256, .inr (.inl fw)))]) [1, 2] rfl
  refine va_calll (va_runV (As := [.int v_8, .int v_8]) (rest := []) ⟨hx, hb, hml, hown, hts⟩ (mz_w_having l dC dI cI cJ cZ wt wo ev fw v_8 v_8 s.heap ) (cwV 2 hts gX7_mostOfNeed_X6_having rfl rfl rfl (by decide +kernel) ⟨Nat.le_of_ble_eq_true rfl, Nat.le_of_ble_eq_true rfl⟩) ⟨fun a U g mk q => mz_blP q, va_recv hK hPc (ci := 6) (q0 := 0) rfl rfl, fun U hU hW => ⟨rfl, hU, hPc, va_K.moved hW.alike hK, mz_nw hW hN⟩⟩ rfl rfl hl.1 rfl (lv_room (Nat.le_of_ble_eq_true rfl)) dX7_mostOfNeed_43 ⟨Nat.le_of_ble_eq_true rfl, Nat.le_of_ble_eq_true rfl⟩) hS (fun q _ h => h.elim) (fun q h => h.elim) (fun r_43 u t H1 locs ht hvm hw_43 hB hz1 hk1 hS => ?_)
  have hE : s.heap = H1 := hB.symm.trans ht
  subst hE
  refine lv_lload hx hb dX7_mostOfNeed_46 (lv_at hl 0 rfl) ?_
  refine va_mmin_long hx hb (by rw [hml]; exact hl.1.symm) hown (hts (.methodLink RX7 236 Lib.MathLoose.min_long.x) (by decide +kernel)) (hts (.static Lib.MathLoose.min_long.x) (by decide +kernel)) (hts (.initialized "java/lang/Math") (by decide +kernel)) (hts (.code Lib.MathLoose.min_long.x Lib.MathLoose.min_long.code 4 (some .long)) (by decide +kernel)) (Nat.le_of_ble_eq_true rfl) (Nat.le_of_ble_eq_true rfl) (Nat.le_of_ble_eq_true rfl) (Nat.le_of_ble_eq_true rfl) dX7_mostOfNeed_48 ?_
  refine lv_topl (fun v_48 ev_48 => ?_)
  refine W.widen (k := 0) (n := 0) (Nat.le_of_ble_eq_true rfl) (Nat.le_of_ble_eq_true rfl) ?_
  exact W.lret (v := v_48) hx hb hr (fun t ht hW => ⟨⟨v_48, (), rfl, trivial, ht⟩, hS.F ht⟩) hS.2.2 dX7_mostOfNeed_51
set_option maxHeartbeats 1000000 in
set_option maxRecDepth 100000 in
theorem mz_x_sumOver (l : Launch) (dC : Nat → ClassId) (dI : Nat → Nat → Nat) (cI cJ cZ : ClassId) (mx : Nat) (dr : Nat) (th : Nat) (bk : Nat) (wt : Nat) (tt : Nat) (lh : Nat) (la : Nat) (sh : Int32) (ab : Int64) (be : Int64) (wo : Nat) (ev : Int32) (fw : Nat → Int64) (b1 : Nat) (b1l : Nat) (u1 : Nat) (f1 : Nat → Int64) (b2 : Nat) (b2l : Nat) (u2 : Nat) (f2 : Nat → Int64) (b3 : Nat) (b3l : Nat) (u3 : Nat) (f3 : Nat → Int64) (p0 : Int32) (p1 : Int32) (p2 : Int32) (sz : Nat) (hu1 : u1 ≤ 128) (hu2 : u2 ≤ 128) (hu3 : u3 ≤ 128) : Met l yX7_sumOver wsX7_sumOver ({ frames := 3, cells := 0, slots := 0, locals := 88 }) (va_Pc [.ref mx, .int p0, .int p1, .int p2] (fun U => U.heap.size = sz ∧ va_P (dC, dI) vwCl [(mx, .inr (7, [.ref dr, .ref th, .ref bk, .ref wt, .ref tt, .ref lh, .ref la, .int sh, .long ab, .long be])), (wt, .inr (6, [.ref wo, .int ev])), (wo, .inl (cJ, 256, .inr (.inl fw))), (tt, .inr (5, [.ref b1, .ref b2, .ref b3])), (b1, .inr (0, [.ref b1l, .int (nI u1)])), (b1l, .inl (cJ, 128, .inr (.inl f1))), (b2, .inr (0, [.ref b2l, .int (nI u2)])), (b2l, .inl (cJ, 128, .inr (.inl f2))), (b3, .inr (0, [.ref b3l, .int (nI u3)])), (b3l, .inl (cJ, 128, .inr (.inl f3)))] U.heap ∧ va_K (dC, dI) vwCl [(cI, FieldType.int), (cJ, FieldType.long), (cZ, FieldType.boolean)] U ∧ va_D (fun _ => True) [(mx, .inr (7, [.ref dr, .ref th, .ref bk, .ref wt, .ref tt, .ref lh, .ref la, .int sh, .long ab, .long be])), (wt, .inr (6, [.ref wo, .int ev])), (wo, .inl (cJ, 256, .inr (.inl fw))), (tt, .inr (5, [.ref b1, .ref b2, .ref b3])), (b1, .inr (0, [.ref b1l, .int (nI u1)])), (b1l, .inl (cJ, 128, .inr (.inl f1))), (b2, .inr (0, [.ref b2l, .int (nI u2)])), (b2l, .inl (cJ, 128, .inr (.inl f2))), (b3, .inr (0, [.ref b3l, .int (nI u3)])), (b3l, .inl (cJ, 128, .inr (.inl f3)))] ∧ mz_N U)) (va_Qi (fun (r : Int32) (_ : Unit) => r = 0 ∨ r = 1) (fun _ t => ∃ (g1 : Nat), ∃ (h1 : Nat → Int64), ∃ (g2 : Nat), ∃ (h2 : Nat → Int64), ∃ (g3 : Nat), ∃ (h3 : Nat → Int64), (g1 ≤ 128) ∧ (g2 ≤ 128) ∧ (g3 ≤ 128) ∧ va_P (dC, dI) vwCl [(mx, .inr (7, [.ref dr, .ref th, .ref bk, .ref wt, .ref tt, .ref lh, .ref la, .int sh, .long ab, .long be])), (wt, .inr (6, [.ref wo, .int ev])), (wo, .inl (cJ, 256, .inr (.inl fw))), (tt, .inr (5, [.ref b1, .ref b2, .ref b3])), (b1, .inr (0, [.ref b1l, .int (nI g1)])), (b1l, .inl (cJ, 128, .inr (.inl h1))), (b2, .inr (0, [.ref b2l, .int (nI g2)])), (b2l, .inl (cJ, 128, .inr (.inl h2))), (b3, .inr (0, [.ref b3l, .int (nI g3)])), (b3l, .inl (cJ, 128, .inr (.inl h3)))] t.heap ∧ va_D (va_A [(mx, .inr (7, [.ref dr, .ref th, .ref bk, .ref wt, .ref tt, .ref lh, .ref la, .int sh, .long ab, .long be])), (wt, .inr (6, [.ref wo, .int ev])), (wo, .inl (cJ, 256, .inr (.inl fw))), (tt, .inr (5, [.ref b1, .ref b2, .ref b3])), (b1, .inr (0, [.ref b1l, .int (nI u1)])), (b1l, .inl (cJ, 128, .inr (.inl f1))), (b2, .inr (0, [.ref b2l, .int (nI u2)])), (b2l, .inl (cJ, 128, .inr (.inl f2))), (b3, .inr (0, [.ref b3l, .int (nI u3)])), (b3l, .inl (cJ, 128, .inr (.inl f3)))] sz) [(mx, .inr (7, [.ref dr, .ref th, .ref bk, .ref wt, .ref tt, .ref lh, .ref la, .int sh, .long ab, .long be])), (wt, .inr (6, [.ref wo, .int ev])), (wo, .inl (cJ, 256, .inr (.inl fw))), (tt, .inr (5, [.ref b1, .ref b2, .ref b3])), (b1, .inr (0, [.ref b1l, .int (nI g1)])), (b1l, .inl (cJ, 128, .inr (.inl h1))), (b2, .inr (0, [.ref b2l, .int (nI g2)])), (b2l, .inl (cJ, 128, .inr (.inl h2))), (b3, .inr (0, [.ref b3l, .int (nI g3)])), (b3l, .inl (cJ, 128, .inr (.inl h3)))]) (va_A [(mx, .inr (7, [.ref dr, .ref th, .ref bk, .ref wt, .ref tt, .ref lh, .ref la, .int sh, .long ab, .long be])), (wt, .inr (6, [.ref wo, .int ev])), (wo, .inl (cJ, 256, .inr (.inl fw))), (tt, .inr (5, [.ref b1, .ref b2, .ref b3])), (b1, .inr (0, [.ref b1l, .int (nI u1)])), (b1l, .inl (cJ, 128, .inr (.inl f1))), (b2, .inr (0, [.ref b2l, .int (nI u2)])), (b2l, .inl (cJ, 128, .inr (.inl f2))), (b3, .inr (0, [.ref b3l, .int (nI u3)])), (b3l, .inl (cJ, 128, .inr (.inl f3)))] sz)) 0 0 (va_A [(mx, .inr (7, [.ref dr, .ref th, .ref bk, .ref wt, .ref tt, .ref lh, .ref la, .int sh, .long ab, .long be])), (wt, .inr (6, [.ref wo, .int ev])), (wo, .inl (cJ, 256, .inr (.inl fw))), (tt, .inr (5, [.ref b1, .ref b2, .ref b3])), (b1, .inr (0, [.ref b1l, .int (nI u1)])), (b1l, .inl (cJ, 128, .inr (.inl f1))), (b2, .inr (0, [.ref b2l, .int (nI u2)])), (b2l, .inl (cJ, 128, .inr (.inl f2))), (b3, .inr (0, [.ref b3l, .int (nI u3)])), (b3l, .inl (cJ, 128, .inr (.inl f3)))] sz) := by
  refine Met.ofW (cc := cX7_sumOver) (maxL := 12) (ret := (some .boolean)) (by decide) rfl ?_
  intro p e s m args below meth c s₁ B hml hv
  obtain ⟨rfl, hsz, hP, hK, hD0, hN⟩ := hv
  subst hsz
  have hx := B.exec
  have hb := B.bytes
  have hr := B.returns
  have hts := atoms_spec (ws := wsX7_sumOver) B.pre
  have hown : s.vm.findClass RX7 = some m.cls := findClass_of_methodNamed B.named
  have hlocks := B.notSynchronized
  have hD := hD0.self (sz := s.heap.size)
  generalize hAe : va_A [(mx, .inr (7, [.ref dr, .ref th, .ref bk, .ref wt, .ref tt, .ref lh, .ref la, .int sh, .long ab, .long be])), (wt, .inr (6, [.ref wo, .int ev])), (wo, .inl (cJ, 256, .inr (.inl fw))), (tt, .inr (5, [.ref b1, .ref b2, .ref b3])), (b1, .inr (0, [.ref b1l, .int (nI u1)])), (b1l, .inl (cJ, 128, .inr (.inl f1))), (b2, .inr (0, [.ref b2l, .int (nI u2)])), (b2l, .inl (cJ, 128, .inr (.inl f2))), (b3, .inr (0, [.ref b3l, .int (nI u3)])), (b3l, .inl (cJ, 128, .inr (.inl f3)))] s.heap.size = A at hD ⊢
  have hA : ∀ q : Nat, s.heap.size ≤ q → A q := fun q h => by rw [← hAe]; exact Or.inr h
  have hS : va_S A s.heap s.heap [] := va_S.rf
  have hiX7 : ∀ w ∈ u_ws RX7 TX7 10, w ∈ wsX7_sumOver := by decide +kernel
  have hl := lv_entry ([.ref mx, .int p0, .int p1, .int p2]) (n := 12) (Nat.le_of_ble_eq_true rfl)
  rw [lg_entry_eq]
  generalize (lg_sl ([.ref mx, .int p0, .int p1, .int p2]) ++ List.replicate (12 - (lg_sl ([.ref mx, .int p0, .int p1, .int p2])).length) Slot.unset).toArray = ls at hl ⊢
  have hl : lv_has ls 12 [(0, .ref mx), (1, .int p0), (2, .int p1), (3, .int p2)] := hl
  refine lv_aload_n hx hb dX7_sumOver_0 rfl (lv_at hl 0 rfl) ?_
  refine va_get (D := (dC, dI)) (ci := 7) (v := .ref tt) (C := RX7) (T := TX7) (N := 10) hx hb hts hiX7 hown hK hP 0 rfl rfl 4 (by decide) (hts (.fieldLink RX7 36 "MadeItSo" "total" "LMadeItSo$Total;") (by decide +kernel)) (fun _ h9 => h9) rfl dX7_sumOver_1 ?_
  have hPc := hP.sub (ws' := [(tt, .inr (5, [.ref b1, .ref b2, .ref b3])), (b1, .inr (0, [.ref b1l, .int (nI u1)])), (b1l, .inl (cJ, 128, .inr (.inl f1))), (b2, .inr (0, [.ref b2l, .int (nI u2)])), (b2l, .inl (cJ, 128, .inr (.inl f2))), (b3, .inr (0, [.ref b3l, .int (nI u3)])), (b3l, .inl (cJ, 128, .inr (.inl f3)))]) [3, 4, 5, 6, 7, 8, 9] rfl
  have hDc := hD.sub (ws' := [(tt, .inr (5, [.ref b1, .ref b2, .ref b3])), (b1, .inr (0, [.ref b1l, .int (nI u1)])), (b1l, .inl (cJ, 128, .inr (.inl f1))), (b2, .inr (0, [.ref b2l, .int (nI u2)])), (b2l, .inl (cJ, 128, .inr (.inl f2))), (b3, .inr (0, [.ref b3l, .int (nI u3)])), (b3l, .inl (cJ, 128, .inr (.inl f3)))]) [3, 4, 5, 6, 7, 8, 9] (by decide) rfl
  have hFc := va_free (wc := [(tt, .inr (5, [.ref b1, .ref b2, .ref b3])), (b1, .inr (0, [.ref b1l, .int (nI u1)])), (b1l, .inl (cJ, 128, .inr (.inl f1))), (b2, .inr (0, [.ref b2l, .int (nI u2)])), (b2l, .inl (cJ, 128, .inr (.inl f2))), (b3, .inr (0, [.ref b3l, .int (nI u3)])), (b3l, .inl (cJ, 128, .inr (.inl f3)))]) hD hS hA [3, 4, 5, 6, 7, 8, 9] rfl
  refine va_callv (va_runV (As := []) (rest := []) ⟨hx, hb, hml, hown, hts⟩ (mz_t_clear l dC dI cI cJ cZ tt b1 b1l u1 f1 b2 b2l u2 f2 b3 b3l u3 f3 s.heap.size (by first | assumption | omega) (by first | assumption | omega) (by first | assumption | omega)) (cwV 0 hts gX7_sumOver_X5_clear rfl rfl rfl (by decide +kernel) ⟨Nat.le_of_ble_eq_true rfl, Nat.le_of_ble_eq_true rfl⟩) ⟨fun a U g mk q => mz_blI q, va_recv hK hPc (ci := 5) (q0 := 0) rfl rfl, fun U hU hW => ⟨rfl, by rw [hU], by rw [hU]; exact hPc, va_K.moved hW.alike hK, hDc.weaken (fun _ _ _ _ => trivial), mz_nw hW hN⟩⟩ rfl rfl hl.1 rfl (lv_room (Nat.le_of_ble_eq_true rfl)) dX7_sumOver_4 ⟨Nat.le_of_ble_eq_true rfl, Nat.le_of_ble_eq_true rfl⟩) hS (fun q _ h => hFc q h) hFc (fun u t H1 locs ht hvm hw_4 hB hz1 hk1 hS => ?_)
  obtain ⟨g1_4, h1_4, g2_4, h2_4, g3_4, h3_4, hx0_4, hx1_4, hx2_4, hP1, hD1⟩ := hB
  rw [ht] at hP1
  obtain ⟨hP, hD⟩ := va_join (wr := [(mx, .inr (7, [.ref dr, .ref th, .ref bk, .ref wt, .ref tt, .ref lh, .ref la, .int sh, .long ab, .long be])), (wt, .inr (6, [.ref wo, .int ev])), (wo, .inl (cJ, 256, .inr (.inl fw)))]) (w1 := [(tt, .inr (5, [.ref b1, .ref b2, .ref b3])), (b1, .inr (0, [.ref b1l, .int (nI g1_4)])), (b1l, .inl (cJ, 128, .inr (.inl h1_4))), (b2, .inr (0, [.ref b2l, .int (nI g2_4)])), (b2l, .inl (cJ, 128, .inr (.inl h2_4))), (b3, .inr (0, [.ref b3l, .int (nI g3_4)])), (b3l, .inl (cJ, 128, .inr (.inl h3_4)))]) hP hD [3, 4, 5, 6, 7, 8, 9] [0, 1, 2] rfl rfl (by decide) (by decide) hk1 hFc hP1 hD1
  generalize H1 = H at hP hS ⊢
  have hP : va_P (dC, dI) vwCl [(mx, .inr (7, [.ref dr, .ref th, .ref bk, .ref wt, .ref tt, .ref lh, .ref la, .int sh, .long ab, .long be])), (wt, .inr (6, [.ref wo, .int ev])), (wo, .inl (cJ, 256, .inr (.inl fw))), (tt, .inr (5, [.ref b1, .ref b2, .ref b3])), (b1, .inr (0, [.ref b1l, .int (nI g1_4)])), (b1l, .inl (cJ, 128, .inr (.inl h1_4))), (b2, .inr (0, [.ref b2l, .int (nI g2_4)])), (b2l, .inl (cJ, 128, .inr (.inl h2_4))), (b3, .inr (0, [.ref b3l, .int (nI g3_4)])), (b3l, .inl (cJ, 128, .inr (.inl h3_4)))] H := hP
  have hD : va_D A [(mx, .inr (7, [.ref dr, .ref th, .ref bk, .ref wt, .ref tt, .ref lh, .ref la, .int sh, .long ab, .long be])), (wt, .inr (6, [.ref wo, .int ev])), (wo, .inl (cJ, 256, .inr (.inl fw))), (tt, .inr (5, [.ref b1, .ref b2, .ref b3])), (b1, .inr (0, [.ref b1l, .int (nI g1_4)])), (b1l, .inl (cJ, 128, .inr (.inl h1_4))), (b2, .inr (0, [.ref b2l, .int (nI g2_4)])), (b2l, .inl (cJ, 128, .inr (.inl h2_4))), (b3, .inr (0, [.ref b3l, .int (nI g3_4)])), (b3l, .inl (cJ, 128, .inr (.inl h3_4)))] := hD
  refine lv_iload_n hx hb dX7_sumOver_7 rfl (lv_at hl 1 rfl) ?_
  have hPc := hP.sub (ws' := []) [] rfl
  refine va_calli (va_runS (As := [.int p0]) (rest := []) ⟨hx, hb, hml, hown, hts⟩ (mz_g_partsOf l dC dI cI cJ cZ p0 H ) (va_cwS 1 hts gX7_sumOver_X7_partsOf rfl rfl rfl (by decide +kernel) ⟨Nat.le_of_ble_eq_true rfl, Nat.le_of_ble_eq_true rfl⟩) ⟨fun a U g mk q => mz_blP q, fun U hU hW => ⟨rfl, hU, hPc, va_K.moved hW.alike hK, mz_nw hW hN⟩⟩ rfl rfl hl.1 rfl (lv_room (Nat.le_of_ble_eq_true rfl)) dX7_sumOver_8 ⟨Nat.le_of_ble_eq_true rfl, Nat.le_of_ble_eq_true rfl⟩) hS (fun q _ h => h.elim) (fun q h => h.elim) (fun r_8 u t H1 locs ht hvm hw_8 hB hz1 hk1 hS => ?_)
  have hE : H = H1 := hB.symm.trans ht
  subst hE
  refine lv_istore (lv' := [(4, .int r_8), (0, .ref mx), (1, .int p0), (2, .int p1), (3, .int p2)]) hx hb dX7_sumOver_11 hl (by decide) rfl (fun ls hl => ?_)
  refine lv_iconst (v := 0) hx hb dX7_sumOver_13 (by decide +kernel) ?_
  refine lv_istore (lv' := [(5, .int 0), (4, .int r_8), (0, .ref mx), (1, .int p0), (2, .int p1), (3, .int p2)]) hx hb dX7_sumOver_14 hl (by decide) rfl (fun ls hl => ?_)
  refine lv_iconst (v := 0) hx hb dX7_sumOver_16 (by decide +kernel) ?_
  refine lv_istore (lv' := [(6, .int 0), (5, .int 0), (4, .int r_8), (0, .ref mx), (1, .int p0), (2, .int p1), (3, .int p2)]) hx hb dX7_sumOver_17 hl (by decide) rfl (fun ls hl => ?_)
  refine mz_loopU (fun k H locs ls => ∃ (x6_19 : Int32), ∃ (x5_19 : Int32), ∃ (nb11_19 : Nat), ∃ (fb1l_19 : Nat → Int64), ∃ (nb21_19 : Nat), ∃ (fb2l_19 : Nat → Int64), ∃ (nb31_19 : Nat), ∃ (fb3l_19 : Nat → Int64), (nb11_19 ≤ 128) ∧ (nb21_19 ≤ 128) ∧ (nb31_19 ≤ 128) ∧ va_P (dC, dI) vwCl [(mx, .inr (7, [.ref dr, .ref th, .ref bk, .ref wt, .ref tt, .ref lh, .ref la, .int sh, .long ab, .long be])), (wt, .inr (6, [.ref wo, .int ev])), (wo, .inl (cJ, 256, .inr (.inl fw))), (tt, .inr (5, [.ref b1, .ref b2, .ref b3])), (b1, .inr (0, [.ref b1l, .int (nI nb11_19)])), (b1l, .inl (cJ, 128, .inr (.inl fb1l_19))), (b2, .inr (0, [.ref b2l, .int (nI nb21_19)])), (b2l, .inl (cJ, 128, .inr (.inl fb2l_19))), (b3, .inr (0, [.ref b3l, .int (nI nb31_19)])), (b3l, .inl (cJ, 128, .inr (.inl fb3l_19)))] H ∧ va_D A [(mx, .inr (7, [.ref dr, .ref th, .ref bk, .ref wt, .ref tt, .ref lh, .ref la, .int sh, .long ab, .long be])), (wt, .inr (6, [.ref wo, .int ev])), (wo, .inl (cJ, 256, .inr (.inl fw))), (tt, .inr (5, [.ref b1, .ref b2, .ref b3])), (b1, .inr (0, [.ref b1l, .int (nI nb11_19)])), (b1l, .inl (cJ, 128, .inr (.inl fb1l_19))), (b2, .inr (0, [.ref b2l, .int (nI nb21_19)])), (b2l, .inl (cJ, 128, .inr (.inl fb2l_19))), (b3, .inr (0, [.ref b3l, .int (nI nb31_19)])), (b3l, .inl (cJ, 128, .inr (.inl fb3l_19)))] ∧ va_S A s.heap H locs ∧ lv_has ls 12 [(6, .int x6_19), (5, .int x5_19), (4, .int r_8), (0, .ref mx), (1, .int p0), (2, .int p1), (3, .int p2)] ∧ k = ((r_8 : Int32).toInt - x5_19.toInt).toNat) ?_ _ _ _ _ ⟨0, 0, g1_4, h1_4, g2_4, h2_4, g3_4, h3_4, (by first | assumption | omega), (by first | assumption | omega), (by first | assumption | omega), hP, hD, hS, lv_sub hl [0, 1, 2, 3, 4, 5, 6] rfl, rfl⟩
  intro k_19 H locs ls hI_19 ih_19
  obtain ⟨x6_19, x5_19, nb11_19, fb1l_19, nb21_19, fb2l_19, nb31_19, fb3l_19, hb1_19, hb2_19, hb3_19, hP, hD, hS, hl, hk_19⟩ := hI_19
  refine lv_iload hx hb dX7_sumOver_19 (lv_at hl 1 rfl) ?_
  refine lv_iload hx hb dX7_sumOver_21 (lv_at hl 2 rfl) ?_
  refine lv_icmp_ge (tgt := 137) hx hb dX7_sumOver_23 (by decide) (fun c_23 => ?_) (fun c_23 => ?_)
  · skip
    refine lv_iconst (v := 1) hx hb dX7_sumOver_137 (by decide +kernel) ?_
    have hP9 := hP.sub (ws' := [(mx, .inr (7, [.ref dr, .ref th, .ref bk, .ref wt, .ref tt, .ref lh, .ref la, .int sh, .long ab, .long be])), (wt, .inr (6, [.ref wo, .int ev])), (wo, .inl (cJ, 256, .inr (.inl fw))), (tt, .inr (5, [.ref b1, .ref b2, .ref b3])), (b1, .inr (0, [.ref b1l, .int (nI nb11_19)])), (b1l, .inl (cJ, 128, .inr (.inl fb1l_19))), (b2, .inr (0, [.ref b2l, .int (nI nb21_19)])), (b2l, .inl (cJ, 128, .inr (.inl fb2l_19))), (b3, .inr (0, [.ref b3l, .int (nI nb31_19)])), (b3l, .inl (cJ, 128, .inr (.inl fb3l_19)))]) [0, 1, 2, 3, 4, 5, 6, 7, 8, 9] rfl
    have hD9 := hD.sub (ws' := [(mx, .inr (7, [.ref dr, .ref th, .ref bk, .ref wt, .ref tt, .ref lh, .ref la, .int sh, .long ab, .long be])), (wt, .inr (6, [.ref wo, .int ev])), (wo, .inl (cJ, 256, .inr (.inl fw))), (tt, .inr (5, [.ref b1, .ref b2, .ref b3])), (b1, .inr (0, [.ref b1l, .int (nI nb11_19)])), (b1l, .inl (cJ, 128, .inr (.inl fb1l_19))), (b2, .inr (0, [.ref b2l, .int (nI nb21_19)])), (b2l, .inl (cJ, 128, .inr (.inl fb2l_19))), (b3, .inr (0, [.ref b3l, .int (nI nb31_19)])), (b3l, .inl (cJ, 128, .inr (.inl fb3l_19)))]) [0, 1, 2, 3, 4, 5, 6, 7, 8, 9] (by decide) rfl
    refine W.widen (k := 0) (n := 0) (Nat.le_of_ble_eq_true rfl) (Nat.le_of_ble_eq_true rfl) ?_
    exact W.zret (v := 1) hx hb hr (mz_nz (by decide +kernel)) (fun t ht hW => ⟨⟨1, (), rfl, Or.inr rfl, nb11_19, fb1l_19, nb21_19, fb2l_19, nb31_19, fb3l_19, (by first | assumption | omega), (by first | assumption | omega), (by first | assumption | omega), by rw [ht]; exact hP9, hD9⟩, hS.F ht⟩) hS.2.2 dX7_sumOver_138
  · skip
    refine lv_aload_n hx hb dX7_sumOver_26 rfl (lv_at hl 3 rfl) ?_
    refine va_get (D := (dC, dI)) (ci := 7) (v := .ref wt) (C := RX7) (T := TX7) (N := 10) hx hb hts hiX7 hown hK hP 0 rfl rfl 3 (by decide) (hts (.fieldLink RX7 29 "MadeItSo" "weights" "LMadeItSo$Weights;") (by decide +kernel)) (fun _ h9 => h9) rfl dX7_sumOver_27 ?_
    refine lv_iload_n hx hb dX7_sumOver_30 rfl (lv_at hl 4 rfl) ?_
    refine lv_iload hx hb dX7_sumOver_31 (lv_at hl 0 rfl) ?_
    have hPc := hP.sub (ws' := [(wt, .inr (6, [.ref wo, .int ev])), (wo, .inl (cJ, 256, .inr (.inl fw)))]) [1, 2] rfl
    refine va_calll (va_runV (As := [.int p0, .int x6_19]) (rest := []) ⟨hx, hb, hml, hown, hts⟩ (mz_w_having l dC dI cI cJ cZ wt wo ev fw p0 x6_19 H ) (cwV 2 hts gX7_sumOver_X6_having rfl rfl rfl (by decide +kernel) ⟨Nat.le_of_ble_eq_true rfl, Nat.le_of_ble_eq_true rfl⟩) ⟨fun a U g mk q => mz_blP q, va_recv hK hPc (ci := 6) (q0 := 0) rfl rfl, fun U hU hW => ⟨rfl, hU, hPc, va_K.moved hW.alike hK, mz_nw hW hN⟩⟩ rfl rfl hl.1 rfl (lv_room (Nat.le_of_ble_eq_true rfl)) dX7_sumOver_33 ⟨Nat.le_of_ble_eq_true rfl, Nat.le_of_ble_eq_true rfl⟩) hS (fun q _ h => h.elim) (fun q h => h.elim) (fun r_33 u t H1 locs ht hvm hw_33 hB hz1 hk1 hS => ?_)
    have hE : H = H1 := hB.symm.trans ht
    subst hE
    refine lv_lstore (lv' := [(7, .long r_33), (6, .int x6_19), (5, .int x5_19), (4, .int r_8), (0, .ref mx), (1, .int p0), (2, .int p1), (3, .int p2)]) hx hb dX7_sumOver_36 hl (by decide) rfl (fun ls hl => ?_)
    refine lv_lload hx hb dX7_sumOver_38 (lv_at hl 0 rfl) ?_
    refine lv_lconst (v := 0) hx hb dX7_sumOver_40 (by decide +kernel) ?_
    refine W.lcmp hx hb dX7_sumOver_41 ?_
    refine lv_if_le (tgt := 123) hx hb dX7_sumOver_42 (by decide) (fun c_42 => ?_) (fun c_42 => ?_)
    · skip
      obtain ⟨v_123, ev_123⟩ : ∃ y : Int32, y = x5_19 + Int32.ofInt 1 := ⟨_, rfl⟩
      refine lv_iinc (v := v_123) (lv' := [(5, .int v_123), (7, .long r_33), (6, .int x6_19), (4, .int r_8), (0, .ref mx), (1, .int p0), (2, .int p1), (3, .int p2)]) hx hb dX7_sumOver_123 hl (k := 2) rfl ev_123.symm (by decide) rfl (fun ls hl => ?_)
      refine lv_iload hx hb dX7_sumOver_126 (lv_at hl 2 rfl) ?_
      refine lv_iload_n hx hb dX7_sumOver_128 rfl (lv_at hl 5 rfl) ?_
      have hPc := hP.sub (ws' := []) [] rfl
      refine va_calli (va_runS (As := [.int x6_19, .int p0]) (rest := []) ⟨hx, hb, hml, hown, hts⟩ (mz_g_nextPart l dC dI cI cJ cZ x6_19 p0 H ) (va_cwS 2 hts gX7_sumOver_X7_nextPart rfl rfl rfl (by decide +kernel) ⟨Nat.le_of_ble_eq_true rfl, Nat.le_of_ble_eq_true rfl⟩) ⟨fun a U g mk q => mz_blP q, fun U hU hW => ⟨rfl, hU, hPc, va_K.moved hW.alike hK, mz_nw hW hN⟩⟩ rfl rfl hl.1 rfl (lv_room (Nat.le_of_ble_eq_true rfl)) dX7_sumOver_129 ⟨Nat.le_of_ble_eq_true rfl, Nat.le_of_ble_eq_true rfl⟩) hS (fun q _ h => h.elim) (fun q h => h.elim) (fun r_129 u t H1 locs ht hvm hw_129 hB hz1 hk1 hS => ?_)
      have hE : H = H1 := hB.symm.trans ht
      subst hE
      refine lv_istore (lv' := [(6, .int r_129), (5, .int v_123), (7, .long r_33), (4, .int r_8), (0, .ref mx), (1, .int p0), (2, .int p1), (3, .int p2)]) hx hb dX7_sumOver_132 hl (by decide) rfl (fun ls hl => ?_)
      refine lv_goto (tgt := 19) hx hb dX7_sumOver_134 (by decide) ?_
      exact ih_19 _ (by rw [hk_19, ev_123]; exact mz_dec c_23) _ _ _ ⟨r_129, v_123, nb11_19, fb1l_19, nb21_19, fb2l_19, nb31_19, fb3l_19, (by first | assumption | omega), (by first | assumption | omega), (by first | assumption | omega), hP, hD, hS, lv_sub hl [0, 1, 3, 4, 5, 6, 7] rfl, rfl⟩
    · skip
      refine lv_aload_n hx hb dX7_sumOver_45 rfl (lv_at hl 4 rfl) ?_
      refine va_get (D := (dC, dI)) (ci := 7) (v := .ref wt) (C := RX7) (T := TX7) (N := 10) hx hb hts hiX7 hown hK hP 0 rfl rfl 3 (by decide) (hts (.fieldLink RX7 29 "MadeItSo" "weights" "LMadeItSo$Weights;") (by decide +kernel)) (fun _ h9 => h9) rfl dX7_sumOver_46 ?_
      refine lv_iload_n hx hb dX7_sumOver_49 rfl (lv_at hl 5 rfl) ?_
      refine lv_iload_n hx hb dX7_sumOver_50 rfl (lv_at hl 6 rfl) ?_
      have hPc := hP.sub (ws' := []) [] rfl
      refine va_calli (va_runS (As := [.int p1]) (rest := [.int p0, .ref wt]) ⟨hx, hb, hml, hown, hts⟩ (mz_g_heapOf l dC dI cI cJ cZ p1 H ) (va_cwS 1 hts gX7_sumOver_X7_heapOf rfl rfl rfl (by decide +kernel) ⟨Nat.le_of_ble_eq_true rfl, Nat.le_of_ble_eq_true rfl⟩) ⟨fun a U g mk q => mz_blP q, fun U hU hW => ⟨rfl, hU, hPc, va_K.moved hW.alike hK, mz_nw hW hN⟩⟩ rfl rfl hl.1 rfl (lv_room (Nat.le_of_ble_eq_true rfl)) dX7_sumOver_51 ⟨Nat.le_of_ble_eq_true rfl, Nat.le_of_ble_eq_true rfl⟩) hS (fun q _ h => h.elim) (fun q h => h.elim) (fun r_51 u t H1 locs ht hvm hw_51 hB hz1 hk1 hS => ?_)
      have hE : H = H1 := hB.symm.trans ht
      subst hE
      refine lv_ior hx hb dX7_sumOver_54 ?_
      refine lv_topi (fun v_54 ev_54 => ?_)
      refine lv_iload hx hb dX7_sumOver_55 (lv_at hl 1 rfl) ?_
      refine lv_iload_n hx hb dX7_sumOver_57 rfl (lv_at hl 6 rfl) ?_
      have hPc := hP.sub (ws' := []) [] rfl
      refine va_calli (va_runS (As := [.int p1]) (rest := [.int x6_19, .int v_54, .ref wt]) ⟨hx, hb, hml, hown, hts⟩ (mz_g_onesOf l dC dI cI cJ cZ p1 H ) (va_cwS 1 hts gX7_sumOver_X7_onesOf rfl rfl rfl (by decide +kernel) ⟨Nat.le_of_ble_eq_true rfl, Nat.le_of_ble_eq_true rfl⟩) ⟨fun a U g mk q => mz_blP q, fun U hU hW => ⟨rfl, hU, hPc, va_K.moved hW.alike hK, mz_nw hW hN⟩⟩ rfl rfl hl.1 rfl (lv_room (Nat.le_of_ble_eq_true rfl)) dX7_sumOver_58 ⟨Nat.le_of_ble_eq_true rfl, Nat.le_of_ble_eq_true rfl⟩) hS (fun q _ h => h.elim) (fun q h => h.elim) (fun r_58 u t H1 locs ht hvm hw_58 hB hz1 hk1 hS => ?_)
      have hE : H = H1 := hB.symm.trans ht
      subst hE
      refine lv_ior hx hb dX7_sumOver_61 ?_
      refine lv_topi (fun v_61 ev_61 => ?_)
      have hPc := hP.sub (ws' := [(wt, .inr (6, [.ref wo, .int ev])), (wo, .inl (cJ, 256, .inr (.inl fw)))]) [1, 2] rfl
      refine va_calll (va_runV (As := [.int v_54, .int v_61]) (rest := []) ⟨hx, hb, hml, hown, hts⟩ (mz_w_having l dC dI cI cJ cZ wt wo ev fw v_54 v_61 H ) (cwV 2 hts gX7_sumOver_X6_having rfl rfl rfl (by decide +kernel) ⟨Nat.le_of_ble_eq_true rfl, Nat.le_of_ble_eq_true rfl⟩) ⟨fun a U g mk q => mz_blP q, va_recv hK hPc (ci := 6) (q0 := 0) rfl rfl, fun U hU hW => ⟨rfl, hU, hPc, va_K.moved hW.alike hK, mz_nw hW hN⟩⟩ rfl rfl hl.1 rfl (lv_room (Nat.le_of_ble_eq_true rfl)) dX7_sumOver_62 ⟨Nat.le_of_ble_eq_true rfl, Nat.le_of_ble_eq_true rfl⟩) hS (fun q _ h => h.elim) (fun q h => h.elim) (fun r_62 u t H1 locs ht hvm hw_62 hB hz1 hk1 hS => ?_)
      have hE : H = H1 := hB.symm.trans ht
      subst hE
      refine lv_lstore (lv' := [(9, .long r_62), (7, .long r_33), (6, .int x6_19), (5, .int x5_19), (4, .int r_8), (0, .ref mx), (1, .int p0), (2, .int p1), (3, .int p2)]) hx hb dX7_sumOver_65 hl (by decide) rfl (fun ls hl => ?_)
      refine lv_lload hx hb dX7_sumOver_67 (lv_at hl 0 rfl) ?_
      refine lv_lconst (v := 0) hx hb dX7_sumOver_69 (by decide +kernel) ?_
      refine W.lcmp hx hb dX7_sumOver_70 ?_
      refine lv_if_gt (tgt := 76) hx hb dX7_sumOver_71 (by decide) (fun c_71 => ?_) (fun c_71 => ?_)
      · skip
        refine lv_iload_n hx hb dX7_sumOver_76 rfl (lv_at hl 7 rfl) ?_
        refine lv_iload_n hx hb dX7_sumOver_77 rfl (lv_at hl 8 rfl) ?_
        have hPc := hP.sub (ws' := []) [] rfl
        refine va_calli (va_runS (As := [.int p1, .int p2]) (rest := []) ⟨hx, hb, hml, hown, hts⟩ (mz_g_clash l dC dI cI cJ cZ p1 p2 H ) (va_cwS 2 hts gX7_sumOver_X7_clash rfl rfl rfl (by decide +kernel) ⟨Nat.le_of_ble_eq_true rfl, Nat.le_of_ble_eq_true rfl⟩) ⟨fun a U g mk q => mz_blP q, fun U hU hW => ⟨rfl, hU, hPc, va_K.moved hW.alike hK, mz_nw hW hN⟩⟩ rfl rfl hl.1 rfl (lv_room (Nat.le_of_ble_eq_true rfl)) dX7_sumOver_78 ⟨Nat.le_of_ble_eq_true rfl, Nat.le_of_ble_eq_true rfl⟩) hS (fun q _ h => h.elim) (fun q h => h.elim) (fun r_78 u t H1 locs ht hvm hw_78 hB hz1 hk1 hS => ?_)
        have hE : H = H1 := hB.symm.trans ht
        subst hE
        refine lv_if_ne (tgt := 123) hx hb dX7_sumOver_81 (by decide) (fun c_81 => ?_) (fun c_81 => ?_)
        · skip
          obtain ⟨v_123, ev_123⟩ : ∃ y : Int32, y = x5_19 + Int32.ofInt 1 := ⟨_, rfl⟩
          refine lv_iinc (v := v_123) (lv' := [(5, .int v_123), (9, .long r_62), (7, .long r_33), (6, .int x6_19), (4, .int r_8), (0, .ref mx), (1, .int p0), (2, .int p1), (3, .int p2)]) hx hb dX7_sumOver_123 hl (k := 3) rfl ev_123.symm (by decide) rfl (fun ls hl => ?_)
          refine lv_iload hx hb dX7_sumOver_126 (lv_at hl 3 rfl) ?_
          refine lv_iload_n hx hb dX7_sumOver_128 rfl (lv_at hl 6 rfl) ?_
          have hPc := hP.sub (ws' := []) [] rfl
          refine va_calli (va_runS (As := [.int x6_19, .int p0]) (rest := []) ⟨hx, hb, hml, hown, hts⟩ (mz_g_nextPart l dC dI cI cJ cZ x6_19 p0 H ) (va_cwS 2 hts gX7_sumOver_X7_nextPart rfl rfl rfl (by decide +kernel) ⟨Nat.le_of_ble_eq_true rfl, Nat.le_of_ble_eq_true rfl⟩) ⟨fun a U g mk q => mz_blP q, fun U hU hW => ⟨rfl, hU, hPc, va_K.moved hW.alike hK, mz_nw hW hN⟩⟩ rfl rfl hl.1 rfl (lv_room (Nat.le_of_ble_eq_true rfl)) dX7_sumOver_129 ⟨Nat.le_of_ble_eq_true rfl, Nat.le_of_ble_eq_true rfl⟩) hS (fun q _ h => h.elim) (fun q h => h.elim) (fun r_129 u t H1 locs ht hvm hw_129 hB hz1 hk1 hS => ?_)
          have hE : H = H1 := hB.symm.trans ht
          subst hE
          refine lv_istore (lv' := [(6, .int r_129), (5, .int v_123), (9, .long r_62), (7, .long r_33), (4, .int r_8), (0, .ref mx), (1, .int p0), (2, .int p1), (3, .int p2)]) hx hb dX7_sumOver_132 hl (by decide) rfl (fun ls hl => ?_)
          refine lv_goto (tgt := 19) hx hb dX7_sumOver_134 (by decide) ?_
          exact ih_19 _ (by rw [hk_19, ev_123]; exact mz_dec c_23) _ _ _ ⟨r_129, v_123, nb11_19, fb1l_19, nb21_19, fb2l_19, nb31_19, fb3l_19, (by first | assumption | omega), (by first | assumption | omega), (by first | assumption | omega), hP, hD, hS, lv_sub hl [0, 1, 4, 5, 6, 7, 8] rfl, rfl⟩
        · skip
          refine lv_iload_n hx hb dX7_sumOver_84 rfl (lv_at hl 6 rfl) ?_
          refine lv_iload_n hx hb dX7_sumOver_85 rfl (lv_at hl 7 rfl) ?_
          refine lv_iload_n hx hb dX7_sumOver_86 rfl (lv_at hl 8 rfl) ?_
          refine lv_ior hx hb dX7_sumOver_87 ?_
          refine lv_topi (fun v_87 ev_87 => ?_)
          have hPc := hP.sub (ws' := []) [] rfl
          refine va_calli (va_runS (As := [.int v_87]) (rest := [.int p0]) ⟨hx, hb, hml, hown, hts⟩ (mz_g_heapOf l dC dI cI cJ cZ v_87 H ) (va_cwS 1 hts gX7_sumOver_X7_heapOf rfl rfl rfl (by decide +kernel) ⟨Nat.le_of_ble_eq_true rfl, Nat.le_of_ble_eq_true rfl⟩) ⟨fun a U g mk q => mz_blP q, fun U hU hW => ⟨rfl, hU, hPc, va_K.moved hW.alike hK, mz_nw hW hN⟩⟩ rfl rfl hl.1 rfl (lv_room (Nat.le_of_ble_eq_true rfl)) dX7_sumOver_88 ⟨Nat.le_of_ble_eq_true rfl, Nat.le_of_ble_eq_true rfl⟩) hS (fun q _ h => h.elim) (fun q h => h.elim) (fun r_88 u t H1 locs ht hvm hw_88 hB hz1 hk1 hS => ?_)
          have hE : H = H1 := hB.symm.trans ht
          subst hE
          refine lv_ior hx hb dX7_sumOver_91 ?_
          refine lv_topi (fun v_91 ev_91 => ?_)
          refine lv_istore (lv' := [(11, .int v_91), (9, .long r_62), (7, .long r_33), (6, .int x6_19), (5, .int x5_19), (4, .int r_8), (0, .ref mx), (1, .int p0), (2, .int p1), (3, .int p2)]) hx hb dX7_sumOver_92 hl (by decide) rfl (fun ls hl => ?_)
          refine lv_aload_n hx hb dX7_sumOver_94 rfl (lv_at hl 6 rfl) ?_
          refine va_get (D := (dC, dI)) (ci := 7) (v := .ref tt) (C := RX7) (T := TX7) (N := 10) hx hb hts hiX7 hown hK hP 0 rfl rfl 4 (by decide) (hts (.fieldLink RX7 36 "MadeItSo" "total" "LMadeItSo$Total;") (by decide +kernel)) (fun _ h9 => h9) rfl dX7_sumOver_95 ?_
          refine lv_lload hx hb dX7_sumOver_98 (lv_at hl 2 rfl) ?_
          refine lv_aload_n hx hb dX7_sumOver_100 rfl (lv_at hl 6 rfl) ?_
          refine va_get (D := (dC, dI)) (ci := 7) (v := .ref wt) (C := RX7) (T := TX7) (N := 10) hx hb hts hiX7 hown hK hP 0 rfl rfl 3 (by decide) (hts (.fieldLink RX7 29 "MadeItSo" "weights" "LMadeItSo$Weights;") (by decide +kernel)) (fun _ h9 => h9) rfl dX7_sumOver_101 ?_
          refine lv_iload hx hb dX7_sumOver_104 (lv_at hl 0 rfl) ?_
          refine lv_iload hx hb dX7_sumOver_106 (lv_at hl 3 rfl) ?_
          refine lv_iload_n hx hb dX7_sumOver_108 rfl (lv_at hl 8 rfl) ?_
          refine lv_iload_n hx hb dX7_sumOver_109 rfl (lv_at hl 9 rfl) ?_
          refine lv_ior hx hb dX7_sumOver_110 ?_
          refine lv_topi (fun v_110 ev_110 => ?_)
          have hPc := hP.sub (ws' := []) [] rfl
          refine va_calli (va_runS (As := [.int v_110]) (rest := [.int x6_19, .int v_91, .ref wt, .long r_33, .ref tt]) ⟨hx, hb, hml, hown, hts⟩ (mz_g_onesOf l dC dI cI cJ cZ v_110 H ) (va_cwS 1 hts gX7_sumOver_X7_onesOf rfl rfl rfl (by decide +kernel) ⟨Nat.le_of_ble_eq_true rfl, Nat.le_of_ble_eq_true rfl⟩) ⟨fun a U g mk q => mz_blP q, fun U hU hW => ⟨rfl, hU, hPc, va_K.moved hW.alike hK, mz_nw hW hN⟩⟩ rfl rfl hl.1 rfl (lv_room (Nat.le_of_ble_eq_true rfl)) dX7_sumOver_111 ⟨Nat.le_of_ble_eq_true rfl, Nat.le_of_ble_eq_true rfl⟩) hS (fun q _ h => h.elim) (fun q h => h.elim) (fun r_111 u t H1 locs ht hvm hw_111 hB hz1 hk1 hS => ?_)
          have hE : H = H1 := hB.symm.trans ht
          subst hE
          refine lv_ior hx hb dX7_sumOver_114 ?_
          refine lv_topi (fun v_114 ev_114 => ?_)
          have hPc := hP.sub (ws' := [(wt, .inr (6, [.ref wo, .int ev])), (wo, .inl (cJ, 256, .inr (.inl fw)))]) [1, 2] rfl
          refine va_calll (va_runV (As := [.int v_91, .int v_114]) (rest := [.long r_33, .ref tt]) ⟨hx, hb, hml, hown, hts⟩ (mz_w_having l dC dI cI cJ cZ wt wo ev fw v_91 v_114 H ) (cwV 2 hts gX7_sumOver_X6_having rfl rfl rfl (by decide +kernel) ⟨Nat.le_of_ble_eq_true rfl, Nat.le_of_ble_eq_true rfl⟩) ⟨fun a U g mk q => mz_blP q, va_recv hK hPc (ci := 6) (q0 := 0) rfl rfl, fun U hU hW => ⟨rfl, hU, hPc, va_K.moved hW.alike hK, mz_nw hW hN⟩⟩ rfl rfl hl.1 rfl (lv_room (Nat.le_of_ble_eq_true rfl)) dX7_sumOver_115 ⟨Nat.le_of_ble_eq_true rfl, Nat.le_of_ble_eq_true rfl⟩) hS (fun q _ h => h.elim) (fun q h => h.elim) (fun r_115 u t H1 locs ht hvm hw_115 hB hz1 hk1 hS => ?_)
          have hE : H = H1 := hB.symm.trans ht
          subst hE
          refine lv_lload hx hb dX7_sumOver_118 (lv_at hl 1 rfl) ?_
          have hPc := hP.sub (ws' := [(tt, .inr (5, [.ref b1, .ref b2, .ref b3])), (b1, .inr (0, [.ref b1l, .int (nI nb11_19)])), (b1l, .inl (cJ, 128, .inr (.inl fb1l_19))), (b2, .inr (0, [.ref b2l, .int (nI nb21_19)])), (b2l, .inl (cJ, 128, .inr (.inl fb2l_19))), (b3, .inr (0, [.ref b3l, .int (nI nb31_19)])), (b3l, .inl (cJ, 128, .inr (.inl fb3l_19)))]) [3, 4, 5, 6, 7, 8, 9] rfl
          have hDc := hD.sub (ws' := [(tt, .inr (5, [.ref b1, .ref b2, .ref b3])), (b1, .inr (0, [.ref b1l, .int (nI nb11_19)])), (b1l, .inl (cJ, 128, .inr (.inl fb1l_19))), (b2, .inr (0, [.ref b2l, .int (nI nb21_19)])), (b2l, .inl (cJ, 128, .inr (.inl fb2l_19))), (b3, .inr (0, [.ref b3l, .int (nI nb31_19)])), (b3l, .inl (cJ, 128, .inr (.inl fb3l_19)))]) [3, 4, 5, 6, 7, 8, 9] (by decide) rfl
          have hFc := va_free (wc := [(tt, .inr (5, [.ref b1, .ref b2, .ref b3])), (b1, .inr (0, [.ref b1l, .int (nI nb11_19)])), (b1l, .inl (cJ, 128, .inr (.inl fb1l_19))), (b2, .inr (0, [.ref b2l, .int (nI nb21_19)])), (b2l, .inl (cJ, 128, .inr (.inl fb2l_19))), (b3, .inr (0, [.ref b3l, .int (nI nb31_19)])), (b3l, .inl (cJ, 128, .inr (.inl fb3l_19)))]) hD hS hA [3, 4, 5, 6, 7, 8, 9] rfl
          refine va_callv (va_runV (As := [.long r_33, .long r_115, .long r_62]) (rest := []) ⟨hx, hb, hml, hown, hts⟩ (mz_t_add l dC dI cI cJ cZ tt b1 b1l nb11_19 fb1l_19 b2 b2l nb21_19 fb2l_19 b3 b3l nb31_19 fb3l_19 r_33 r_115 r_62 H.size (by first | assumption | omega) (by first | assumption | omega) (by first | assumption | omega)) (cwV 3 hts gX7_sumOver_X5_add rfl rfl rfl (by decide +kernel) ⟨Nat.le_of_ble_eq_true rfl, Nat.le_of_ble_eq_true rfl⟩) ⟨fun a U g mk q => mz_blI q, va_recv hK hPc (ci := 5) (q0 := 0) rfl rfl, fun U hU hW => ⟨rfl, by rw [hU], by rw [hU]; exact hPc, va_K.moved hW.alike hK, hDc.weaken (fun _ _ _ _ => trivial), mz_nw hW hN⟩⟩ rfl rfl hl.1 rfl (lv_room (Nat.le_of_ble_eq_true rfl)) dX7_sumOver_120 ⟨Nat.le_of_ble_eq_true rfl, Nat.le_of_ble_eq_true rfl⟩) hS (fun q _ h => hFc q h) hFc (fun u t H1 locs ht hvm hw_120 hB hz1 hk1 hS => ?_)
          obtain ⟨g1_120, h1_120, g2_120, h2_120, g3_120, h3_120, hx0_120, hx1_120, hx2_120, hP1, hD1⟩ := hB
          rw [ht] at hP1
          obtain ⟨hP, hD⟩ := va_join (wr := [(mx, .inr (7, [.ref dr, .ref th, .ref bk, .ref wt, .ref tt, .ref lh, .ref la, .int sh, .long ab, .long be])), (wt, .inr (6, [.ref wo, .int ev])), (wo, .inl (cJ, 256, .inr (.inl fw)))]) (w1 := [(tt, .inr (5, [.ref b1, .ref b2, .ref b3])), (b1, .inr (0, [.ref b1l, .int (nI g1_120)])), (b1l, .inl (cJ, 128, .inr (.inl h1_120))), (b2, .inr (0, [.ref b2l, .int (nI g2_120)])), (b2l, .inl (cJ, 128, .inr (.inl h2_120))), (b3, .inr (0, [.ref b3l, .int (nI g3_120)])), (b3l, .inl (cJ, 128, .inr (.inl h3_120)))]) hP hD [3, 4, 5, 6, 7, 8, 9] [0, 1, 2] rfl rfl (by decide) (by decide) hk1 hFc hP1 hD1
          generalize H1 = H at hP hS ⊢
          have hP : va_P (dC, dI) vwCl [(mx, .inr (7, [.ref dr, .ref th, .ref bk, .ref wt, .ref tt, .ref lh, .ref la, .int sh, .long ab, .long be])), (wt, .inr (6, [.ref wo, .int ev])), (wo, .inl (cJ, 256, .inr (.inl fw))), (tt, .inr (5, [.ref b1, .ref b2, .ref b3])), (b1, .inr (0, [.ref b1l, .int (nI g1_120)])), (b1l, .inl (cJ, 128, .inr (.inl h1_120))), (b2, .inr (0, [.ref b2l, .int (nI g2_120)])), (b2l, .inl (cJ, 128, .inr (.inl h2_120))), (b3, .inr (0, [.ref b3l, .int (nI g3_120)])), (b3l, .inl (cJ, 128, .inr (.inl h3_120)))] H := hP
          have hD : va_D A [(mx, .inr (7, [.ref dr, .ref th, .ref bk, .ref wt, .ref tt, .ref lh, .ref la, .int sh, .long ab, .long be])), (wt, .inr (6, [.ref wo, .int ev])), (wo, .inl (cJ, 256, .inr (.inl fw))), (tt, .inr (5, [.ref b1, .ref b2, .ref b3])), (b1, .inr (0, [.ref b1l, .int (nI g1_120)])), (b1l, .inl (cJ, 128, .inr (.inl h1_120))), (b2, .inr (0, [.ref b2l, .int (nI g2_120)])), (b2l, .inl (cJ, 128, .inr (.inl h2_120))), (b3, .inr (0, [.ref b3l, .int (nI g3_120)])), (b3l, .inl (cJ, 128, .inr (.inl h3_120)))] := hD
          obtain ⟨v_123, ev_123⟩ : ∃ y : Int32, y = x5_19 + Int32.ofInt 1 := ⟨_, rfl⟩
          refine lv_iinc (v := v_123) (lv' := [(5, .int v_123), (11, .int v_91), (9, .long r_62), (7, .long r_33), (6, .int x6_19), (4, .int r_8), (0, .ref mx), (1, .int p0), (2, .int p1), (3, .int p2)]) hx hb dX7_sumOver_123 hl (k := 4) rfl ev_123.symm (by decide) rfl (fun ls hl => ?_)
          refine lv_iload hx hb dX7_sumOver_126 (lv_at hl 4 rfl) ?_
          refine lv_iload_n hx hb dX7_sumOver_128 rfl (lv_at hl 7 rfl) ?_
          have hPc := hP.sub (ws' := []) [] rfl
          refine va_calli (va_runS (As := [.int x6_19, .int p0]) (rest := []) ⟨hx, hb, hml, hown, hts⟩ (mz_g_nextPart l dC dI cI cJ cZ x6_19 p0 H ) (va_cwS 2 hts gX7_sumOver_X7_nextPart rfl rfl rfl (by decide +kernel) ⟨Nat.le_of_ble_eq_true rfl, Nat.le_of_ble_eq_true rfl⟩) ⟨fun a U g mk q => mz_blP q, fun U hU hW => ⟨rfl, hU, hPc, va_K.moved hW.alike hK, mz_nw hW hN⟩⟩ rfl rfl hl.1 rfl (lv_room (Nat.le_of_ble_eq_true rfl)) dX7_sumOver_129 ⟨Nat.le_of_ble_eq_true rfl, Nat.le_of_ble_eq_true rfl⟩) hS (fun q _ h => h.elim) (fun q h => h.elim) (fun r_129 u t H1 locs ht hvm hw_129 hB hz1 hk1 hS => ?_)
          have hE : H = H1 := hB.symm.trans ht
          subst hE
          refine lv_istore (lv' := [(6, .int r_129), (5, .int v_123), (11, .int v_91), (9, .long r_62), (7, .long r_33), (4, .int r_8), (0, .ref mx), (1, .int p0), (2, .int p1), (3, .int p2)]) hx hb dX7_sumOver_132 hl (by decide) rfl (fun ls hl => ?_)
          refine lv_goto (tgt := 19) hx hb dX7_sumOver_134 (by decide) ?_
          exact ih_19 _ (by rw [hk_19, ev_123]; exact mz_dec c_23) _ _ _ ⟨r_129, v_123, g1_120, h1_120, g2_120, h2_120, g3_120, h3_120, (by first | assumption | omega), (by first | assumption | omega), (by first | assumption | omega), hP, hD, hS, lv_sub hl [0, 1, 5, 6, 7, 8, 9] rfl, rfl⟩
      · skip
        refine lv_iconst (v := 0) hx hb dX7_sumOver_74 (by decide +kernel) ?_
        have hP9 := hP.sub (ws' := [(mx, .inr (7, [.ref dr, .ref th, .ref bk, .ref wt, .ref tt, .ref lh, .ref la, .int sh, .long ab, .long be])), (wt, .inr (6, [.ref wo, .int ev])), (wo, .inl (cJ, 256, .inr (.inl fw))), (tt, .inr (5, [.ref b1, .ref b2, .ref b3])), (b1, .inr (0, [.ref b1l, .int (nI nb11_19)])), (b1l, .inl (cJ, 128, .inr (.inl fb1l_19))), (b2, .inr (0, [.ref b2l, .int (nI nb21_19)])), (b2l, .inl (cJ, 128, .inr (.inl fb2l_19))), (b3, .inr (0, [.ref b3l, .int (nI nb31_19)])), (b3l, .inl (cJ, 128, .inr (.inl fb3l_19)))]) [0, 1, 2, 3, 4, 5, 6, 7, 8, 9] rfl
        have hD9 := hD.sub (ws' := [(mx, .inr (7, [.ref dr, .ref th, .ref bk, .ref wt, .ref tt, .ref lh, .ref la, .int sh, .long ab, .long be])), (wt, .inr (6, [.ref wo, .int ev])), (wo, .inl (cJ, 256, .inr (.inl fw))), (tt, .inr (5, [.ref b1, .ref b2, .ref b3])), (b1, .inr (0, [.ref b1l, .int (nI nb11_19)])), (b1l, .inl (cJ, 128, .inr (.inl fb1l_19))), (b2, .inr (0, [.ref b2l, .int (nI nb21_19)])), (b2l, .inl (cJ, 128, .inr (.inl fb2l_19))), (b3, .inr (0, [.ref b3l, .int (nI nb31_19)])), (b3l, .inl (cJ, 128, .inr (.inl fb3l_19)))]) [0, 1, 2, 3, 4, 5, 6, 7, 8, 9] (by decide) rfl
        refine W.widen (k := 0) (n := 0) (Nat.le_of_ble_eq_true rfl) (Nat.le_of_ble_eq_true rfl) ?_
        exact W.zret (v := 0) hx hb hr (mz_nz (by decide +kernel)) (fun t ht hW => ⟨⟨0, (), rfl, Or.inl rfl, nb11_19, fb1l_19, nb21_19, fb2l_19, nb31_19, fb3l_19, (by first | assumption | omega), (by first | assumption | omega), (by first | assumption | omega), by rw [ht]; exact hP9, hD9⟩, hS.F ht⟩) hS.2.2 dX7_sumOver_75
set_option maxHeartbeats 1000000 in
set_option maxRecDepth 100000 in
theorem mz_d_grow_full (l : Launch) (dC : Nat → ClassId) (dI : Nat → Nat → Nat) (cI cJ cZ : ClassId) (dr : Nat) (dp : Nat) (dc : Nat) (sz : Nat)  : Met l yX2_grow wsX2_grow ({ frames := 0, cells := 0, slots := 0, locals := 0 }) (va_Pc [.ref dr] (fun U => U.heap.size = sz ∧ va_P (dC, dI) vwCl [(dr, .inr (2, [.ref dp, .ref dc, .int 8]))] U.heap ∧ va_K (dC, dI) vwCl [(cI, FieldType.int), (cJ, FieldType.long), (cZ, FieldType.boolean)] U ∧ va_D (fun _ => True) [(dr, .inr (2, [.ref dp, .ref dc, .int 8]))] ∧ mz_N U)) (va_Qi (fun (r : Int32) (_ : Unit) => r = (-1)) (fun _ t => va_P (dC, dI) vwCl [(dr, .inr (2, [.ref dp, .ref dc, .int 8]))] t.heap ∧ va_D (va_A [(dr, .inr (2, [.ref dp, .ref dc, .int 8]))] sz) [(dr, .inr (2, [.ref dp, .ref dc, .int 8]))]) (va_A [(dr, .inr (2, [.ref dp, .ref dc, .int 8]))] sz)) 0 0 (va_A [(dr, .inr (2, [.ref dp, .ref dc, .int 8]))] sz) := by
  refine Met.ofW (cc := cX2_grow) (maxL := 1) (ret := (some .int)) (by decide) rfl ?_
  intro p e s m args below meth c s₁ B hml hv
  obtain ⟨rfl, hsz, hP, hK, hD0, hN⟩ := hv
  subst hsz
  have hx := B.exec
  have hb := B.bytes
  have hr := B.returns
  have hts := atoms_spec (ws := wsX2_grow) B.pre
  have hown : s.vm.findClass RX2 = some m.cls := findClass_of_methodNamed B.named
  have hlocks := B.notSynchronized
  have hD := hD0.self (sz := s.heap.size)
  generalize hAe : va_A [(dr, .inr (2, [.ref dp, .ref dc, .int 8]))] s.heap.size = A at hD ⊢
  have hA : ∀ q : Nat, s.heap.size ≤ q → A q := fun q h => by rw [← hAe]; exact Or.inr h
  have hS : va_S A s.heap s.heap [] := va_S.rf
  have hiX2 : ∀ w ∈ u_ws RX2 TX2 3, w ∈ wsX2_grow := by decide +kernel
  have hl := lv_entry ([.ref dr]) (n := 1) (Nat.le_of_ble_eq_true rfl)
  rw [lg_entry_eq]
  generalize (lg_sl ([.ref dr]) ++ List.replicate (1 - (lg_sl ([.ref dr])).length) Slot.unset).toArray = ls at hl ⊢
  have hl : lv_has ls 1 [(0, .ref dr)] := hl
  refine lv_aload_n hx hb dX2_grow_0 rfl (lv_at hl 0 rfl) ?_
  refine va_get (D := (dC, dI)) (ci := 2) (v := .int 8) (C := RX2) (T := TX2) (N := 3) hx hb hts hiX2 hown hK hP 0 rfl rfl 2 (by decide) (hts (.fieldLink RX2 18 "MadeItSo$Drawing" "things" "I") (by decide +kernel)) (fun _ h9 => h9) rfl dX2_grow_1 ?_
  refine lv_bipush (v := 8) hx hb dX2_grow_4 (by decide +kernel) ?_
  refine lv_icmp_lt (tgt := 11) hx hb dX2_grow_6 (by decide) (fun c_6 => absurd c_6 (by decide +kernel)) (fun _ => ?_)
  refine lv_iconst (v := (-1)) hx hb dX2_grow_9 (by decide +kernel) ?_
  have hP9 := hP.sub (ws' := [(dr, .inr (2, [.ref dp, .ref dc, .int 8]))]) [0] rfl
  have hD9 := hD.sub (ws' := [(dr, .inr (2, [.ref dp, .ref dc, .int 8]))]) [0] (by decide) rfl
  refine W.widen (k := 0) (n := 0) (Nat.le_of_ble_eq_true rfl) (Nat.le_of_ble_eq_true rfl) ?_
  exact W.iret (v := (-1)) hx hb hr (fun t ht hW => ⟨⟨(-1), (), rfl, rfl, by rw [ht]; exact hP9, hD9⟩, hS.F ht⟩) hS.2.2 dX2_grow_10
set_option maxHeartbeats 1000000 in
set_option maxRecDepth 100000 in
theorem mz_d_grow_more (l : Launch) (dC : Nat → ClassId) (dI : Nat → Nat → Nat) (cI cJ cZ : ClassId) (dr : Nat) (dp : Nat) (dc : Nat) (n : Nat) (sz : Nat) (hn8 : n < 8) : Met l yX2_grow wsX2_grow ({ frames := 0, cells := 0, slots := 0, locals := 0 }) (va_Pc [.ref dr] (fun U => U.heap.size = sz ∧ va_P (dC, dI) vwCl [(dr, .inr (2, [.ref dp, .ref dc, .int (nI n)]))] U.heap ∧ va_K (dC, dI) vwCl [(cI, FieldType.int), (cJ, FieldType.long), (cZ, FieldType.boolean)] U ∧ va_D (fun _ => True) [(dr, .inr (2, [.ref dp, .ref dc, .int (nI n)]))] ∧ mz_N U)) (va_Qi (fun (r : Int32) (_ : Unit) => r = (nI n)) (fun _ t => va_P (dC, dI) vwCl [(dr, .inr (2, [.ref dp, .ref dc, .int (nI ((n + 1)))]))] t.heap ∧ va_D (va_A [(dr, .inr (2, [.ref dp, .ref dc, .int (nI n)]))] sz) [(dr, .inr (2, [.ref dp, .ref dc, .int (nI ((n + 1)))]))]) (va_A [(dr, .inr (2, [.ref dp, .ref dc, .int (nI n)]))] sz)) 0 0 (va_A [(dr, .inr (2, [.ref dp, .ref dc, .int (nI n)]))] sz) := by
  refine Met.ofW (cc := cX2_grow) (maxL := 1) (ret := (some .int)) (by decide) rfl ?_
  intro p e s m args below meth c s₁ B hml hv
  obtain ⟨rfl, hsz, hP, hK, hD0, hN⟩ := hv
  subst hsz
  have hx := B.exec
  have hb := B.bytes
  have hr := B.returns
  have hts := atoms_spec (ws := wsX2_grow) B.pre
  have hown : s.vm.findClass RX2 = some m.cls := findClass_of_methodNamed B.named
  have hlocks := B.notSynchronized
  have hD := hD0.self (sz := s.heap.size)
  generalize hAe : va_A [(dr, .inr (2, [.ref dp, .ref dc, .int (nI n)]))] s.heap.size = A at hD ⊢
  have hA : ∀ q : Nat, s.heap.size ≤ q → A q := fun q h => by rw [← hAe]; exact Or.inr h
  have hS : va_S A s.heap s.heap [] := va_S.rf
  have hiX2 : ∀ w ∈ u_ws RX2 TX2 3, w ∈ wsX2_grow := by decide +kernel
  have hl := lv_entry ([.ref dr]) (n := 1) (Nat.le_of_ble_eq_true rfl)
  rw [lg_entry_eq]
  generalize (lg_sl ([.ref dr]) ++ List.replicate (1 - (lg_sl ([.ref dr])).length) Slot.unset).toArray = ls at hl ⊢
  have hl : lv_has ls 1 [(0, .ref dr)] := hl
  refine lv_aload_n hx hb dX2_grow_0 rfl (lv_at hl 0 rfl) ?_
  refine va_get (D := (dC, dI)) (ci := 2) (v := .int (nI n)) (C := RX2) (T := TX2) (N := 3) hx hb hts hiX2 hown hK hP 0 rfl rfl 2 (by decide) (hts (.fieldLink RX2 18 "MadeItSo$Drawing" "things" "I") (by decide +kernel)) (fun _ h9 => h9) rfl dX2_grow_1 ?_
  refine lv_bipush (v := 8) hx hb dX2_grow_4 (by decide +kernel) ?_
  refine lv_icmp_lt (tgt := 11) hx hb dX2_grow_6 (by decide) (fun _ => ?_) (fun c_6 => absurd ((nI_ltI (a := n) (b := 8) (by omega) (by omega)).mpr hn8) c_6)
  refine lv_aload_n hx hb dX2_grow_11 rfl (lv_at hl 0 rfl) ?_
  refine lv_dup hx hb dX2_grow_12 rfl ?_
  refine va_get (D := (dC, dI)) (ci := 2) (v := .int (nI n)) (C := RX2) (T := TX2) (N := 3) hx hb hts hiX2 hown hK hP 0 rfl rfl 2 (by decide) (hts (.fieldLink RX2 18 "MadeItSo$Drawing" "things" "I") (by decide +kernel)) (fun _ h9 => h9) rfl dX2_grow_13 ?_
  refine lv_iconst (v := 1) hx hb dX2_grow_16 (by decide +kernel) ?_
  refine lv_iadd hx hb dX2_grow_17 ?_
  refine mz_ti (y := (nI (n + 1))) (nI_add _ _) ?_
  refine va_put (D := (dC, dI)) (ci := 2) (v := .int (nI (n + 1))) (ty := .int) (C := RX2) (T := TX2) (N := 3) hx hb hts hiX2 tyX2 tyX2_ok nmX2 hown hK hP hD hS 0 rfl rfl 2 (by decide) (hts (.fieldLink RX2 18 "MadeItSo$Drawing" "things" "I") (by decide +kernel)) (fun _ h9 => h9) rfl (by decide +kernel) rfl rfl (Nat.le_of_ble_eq_true rfl) dX2_grow_18 (fun H locs hP hD hS => ?_)
  have hP : va_P (dC, dI) vwCl [(dr, .inr (2, [.ref dp, .ref dc, .int (nI (n + 1))]))] H := hP
  have hD : va_D A [(dr, .inr (2, [.ref dp, .ref dc, .int (nI (n + 1))]))] := hD
  refine lv_aload_n hx hb dX2_grow_21 rfl (lv_at hl 0 rfl) ?_
  refine va_get (D := (dC, dI)) (ci := 2) (v := .int (nI (n + 1))) (C := RX2) (T := TX2) (N := 3) hx hb hts hiX2 hown hK hP 0 rfl rfl 2 (by decide) (hts (.fieldLink RX2 18 "MadeItSo$Drawing" "things" "I") (by decide +kernel)) (fun _ h9 => h9) rfl dX2_grow_22 ?_
  refine lv_iconst (v := 1) hx hb dX2_grow_25 (by decide +kernel) ?_
  refine lv_isub hx hb dX2_grow_26 ?_
  refine lv_topi (fun v_26 ev_26 => ?_)
  have hP9 := hP.sub (ws' := [(dr, .inr (2, [.ref dp, .ref dc, .int (nI ((n + 1)))]))]) [0] rfl
  have hD9 := hD.sub (ws' := [(dr, .inr (2, [.ref dp, .ref dc, .int (nI ((n + 1)))]))]) [0] (by decide) rfl
  refine W.widen (k := 0) (n := 0) (Nat.le_of_ble_eq_true rfl) (Nat.le_of_ble_eq_true rfl) ?_
  exact W.iret (v := v_26) hx hb hr (fun t ht hW => ⟨⟨v_26, (), rfl, (by rw [ev_26]; exact nI_pred n), by rw [ht]; exact hP9, hD9⟩, hS.F ht⟩) hS.2.2 dX2_grow_27
