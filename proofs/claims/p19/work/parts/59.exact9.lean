/-! exact answers: drawings that look alike -/
set_option maxHeartbeats 1000000 in
set_option maxRecDepth 100000 in
theorem mz_v_unjoinedWith (l : Launch) (dC : Nat → ClassId) (dI : Nat → Nat → Nat) (cI cJ cZ : ClassId) (dr : Nat) (dp : Nat) (dc : Nat) (n : Nat) (fp : Nat → Int32) (fc : Nat → Int32) (j : Nat) (p2 : Int32) (Hq : Heap) (hn : n ≤ 8) (hj : j < n) : Met l yX2_unjoinedWith wsX2_unjoinedWith ({ frames := 2, cells := 0, slots := 0, locals := 42 }) (va_Pc [.ref dr, .int (nI j), .int p2] (fun U => U.heap = Hq ∧ va_P (dC, dI) vwCl [(dr, .inr (2, [.ref dp, .ref dc, .int (nI n)])), (dp, .inl (cI, 8, .inl fp)), (dc, .inl (cI, 8, .inl fc))] Hq ∧ va_K (dC, dI) vwCl [(cI, FieldType.int), (cJ, FieldType.long), (cZ, FieldType.boolean)] U ∧ mz_N U)) (va_Qi (fun (r : Int32) (_ : Unit) => r = (mz_uj (mz_jo fp fc) j p2)) (fun _ t => t.heap = Hq) (fun _ : Nat => False)) 0 0 (fun _ : Nat => False) := by
  refine Met.ofW (cc := cX2_unjoinedWith) (maxL := 3) (ret := (some .int)) (by decide) rfl ?_
  intro p e s m args below meth c s₁ B hml hv
  obtain ⟨rfl, hH, hP, hK, hN⟩ := hv
  subst hH
  have hx := B.exec
  have hb := B.bytes
  have hr := B.returns
  have hts := atoms_spec (ws := wsX2_unjoinedWith) B.pre
  have hown : s.vm.findClass RX2 = some m.cls := findClass_of_methodNamed B.named
  have hlocks := B.notSynchronized
  have hS : va_S (fun _ : Nat => False) s.heap s.heap [] := va_S.rf
  have hl := lv_entry ([.ref dr, .int (nI j), .int p2]) (n := 3) (Nat.le_of_ble_eq_true rfl)
  rw [lg_entry_eq]
  generalize (lg_sl ([.ref dr, .int (nI j), .int p2]) ++ List.replicate (3 - (lg_sl ([.ref dr, .int (nI j), .int p2])).length) Slot.unset).toArray = ls at hl ⊢
  have hl : lv_has ls 3 [(0, .ref dr), (1, .int (nI j)), (2, .int p2)] := hl
  refine lv_iload_n hx hb dX2_unjoinedWith_0 rfl (lv_at hl 2 rfl) ?_
  refine lv_iload_n hx hb dX2_unjoinedWith_1 rfl (lv_at hl 1 rfl) ?_
  have hPc := hP.sub (ws' := []) [] rfl
  refine va_calli (va_runSN (As := [.int p2, .int (nI j)]) (rest := []) ⟨hx, hb, hml, hown, hts⟩ (mz_e_inHeap l dC dI cI cJ cZ p2 j s.heap (by first | assumption | omega)) ⟨va_cnB (host := "MadeItSo") 2 hts gX2_unjoinedWith_X7_inHeap_n26 rfl rfl rfl (hN (RX2, 26, yX7_inHeap, "MadeItSo") (by decide +kernel)) (hts (.initialized RX7) (by decide +kernel)) (by decide +kernel) ⟨Nat.le_of_ble_eq_true rfl, Nat.le_of_ble_eq_true rfl⟩, hts (.static yX7_inHeap) (by decide +kernel), trivial⟩ ⟨fun a U g mk q => mz_blP q, fun U hU hW => ⟨rfl, hU, hPc, va_K.moved hW.alike hK, mz_nw hW hN⟩⟩ rfl rfl hl.1 rfl (lv_room (Nat.le_of_ble_eq_true rfl)) dX2_unjoinedWith_2 ⟨Nat.le_of_ble_eq_true rfl, Nat.le_of_ble_eq_true rfl⟩) hS (fun q _ h => h.elim) (fun q h => h.elim) (fun r_2 u t H1 locs ht hvm hw_2 hB hz1 hk1 hS => ?_)
  have hE : s.heap = H1 := hB.symm.trans ht
  subst hE
  rcases (show (r_2 = 1 ∧ mz_t p2 j = true) ∨ (r_2 = 0 ∧ mz_t p2 j = false) from hw_2) with ⟨rfl, ht_2⟩ | ⟨rfl, ht_2⟩
  · skip
    refine lv_if_eq (tgt := 27) hx hb dX2_unjoinedWith_5 (by decide) (fun c_5 => absurd c_5 (by decide +kernel)) (fun _ => ?_)
    refine lv_iload_n hx hb dX2_unjoinedWith_8 rfl (lv_at hl 2 rfl) ?_
    refine lv_aload_n hx hb dX2_unjoinedWith_9 rfl (lv_at hl 0 rfl) ?_
    refine lv_iload_n hx hb dX2_unjoinedWith_10 rfl (lv_at hl 1 rfl) ?_
    have hPc := hP.sub (ws' := [(dr, .inr (2, [.ref dp, .ref dc, .int (nI n)])), (dp, .inl (cI, 8, .inl fp)), (dc, .inl (cI, 8, .inl fc))]) [0, 1, 2] rfl
    refine va_calli (va_runV (As := [.int (nI j)]) (rest := [.int p2]) ⟨hx, hb, hml, hown, hts⟩ (mz_e_joinedTo l dC dI cI cJ cZ dr dp dc n fp fc j s.heap (by first | assumption | omega) (by first | assumption | omega)) (cwV 1 hts gX2_unjoinedWith_X2_joinedTo rfl rfl rfl (by decide +kernel) ⟨Nat.le_of_ble_eq_true rfl, Nat.le_of_ble_eq_true rfl⟩) ⟨fun a U g mk q => mz_blP q, va_recv hK hPc (ci := 2) (q0 := 0) rfl rfl, fun U hU hW => ⟨rfl, hU, hPc, va_K.moved hW.alike hK, mz_nw hW hN⟩⟩ rfl rfl hl.1 rfl (lv_room (Nat.le_of_ble_eq_true rfl)) dX2_unjoinedWith_11 ⟨Nat.le_of_ble_eq_true rfl, Nat.le_of_ble_eq_true rfl⟩) hS (fun q _ h => h.elim) (fun q h => h.elim) (fun r_11 u t H1 locs ht hvm hw_11 hB hz1 hk1 hS => ?_)
    have hE : s.heap = H1 := hB.symm.trans ht
    subst hE
    obtain rfl : r_11 = ((fp j) ||| (fc j)) := hw_11
    refine lv_iconst (v := (-1)) hx hb dX2_unjoinedWith_14 (by decide +kernel) ?_
    refine lv_ixor hx hb dX2_unjoinedWith_15 ?_
    refine lv_iand hx hb dX2_unjoinedWith_16 ?_
    refine lv_iload_n hx hb dX2_unjoinedWith_17 rfl (lv_at hl 1 rfl) ?_
    have hPc := hP.sub (ws' := []) [] rfl
    refine va_calli (va_runSN (As := [.int (nI j)]) (rest := [.int (p2 &&& (((fp j) ||| (fc j)) ^^^ (-1)))]) ⟨hx, hb, hml, hown, hts⟩ (mz_g_bit l dC dI cI cJ cZ (nI j) s.heap ) ⟨va_cnB (host := "MadeItSo") 1 hts gX2_unjoinedWith_X7_bit_n37 rfl rfl rfl (hN (RX2, 37, yX7_bit, "MadeItSo") (by decide +kernel)) (hts (.initialized RX7) (by decide +kernel)) (by decide +kernel) ⟨Nat.le_of_ble_eq_true rfl, Nat.le_of_ble_eq_true rfl⟩, hts (.static yX7_bit) (by decide +kernel), trivial⟩ ⟨fun a U g mk q => mz_blP q, fun U hU hW => ⟨rfl, hU, hPc, va_K.moved hW.alike hK, mz_nw hW hN⟩⟩ rfl rfl hl.1 rfl (lv_room (Nat.le_of_ble_eq_true rfl)) dX2_unjoinedWith_18 ⟨Nat.le_of_ble_eq_true rfl, Nat.le_of_ble_eq_true rfl⟩) hS (fun q _ h => h.elim) (fun q h => h.elim) (fun r_18 u t H1 locs ht hvm hw_18 hB hz1 hk1 hS => ?_)
    have hE : s.heap = H1 := hB.symm.trans ht
    subst hE
    obtain rfl : r_18 = (1 <<< ((nI j) &&& 31)) := hw_18
    refine lv_iconst (v := (-1)) hx hb dX2_unjoinedWith_21 (by decide +kernel) ?_
    refine lv_ixor hx hb dX2_unjoinedWith_22 ?_
    refine lv_iand hx hb dX2_unjoinedWith_23 ?_
    refine mz_ti (y := (mz_uj (mz_jo fp fc) j p2)) (mz_uj_y (jo := mz_jo fp fc) ht_2) ?_
    refine lv_goto (tgt := 28) hx hb dX2_unjoinedWith_24 (by decide) ?_
    refine W.widen (k := 0) (n := 0) (Nat.le_of_ble_eq_true rfl) (Nat.le_of_ble_eq_true rfl) ?_
    exact W.iret (v := (mz_uj (mz_jo fp fc) j p2)) hx hb hr (fun t ht hW => ⟨⟨(mz_uj (mz_jo fp fc) j p2), (), rfl, rfl, ht⟩, hS.F ht⟩) hS.2.2 dX2_unjoinedWith_28
  · skip
    refine lv_if_eq (tgt := 27) hx hb dX2_unjoinedWith_5 (by decide) (fun _ => ?_) (fun c_5 => absurd (by decide +kernel) c_5)
    refine lv_iconst (v := 0) hx hb dX2_unjoinedWith_27 (by decide +kernel) ?_
    refine W.widen (k := 0) (n := 0) (Nat.le_of_ble_eq_true rfl) (Nat.le_of_ble_eq_true rfl) ?_
    exact W.iret (v := 0) hx hb hr (fun t ht hW => ⟨⟨0, (), rfl, (mz_uj_n ht_2), ht⟩, hS.F ht⟩) hS.2.2 dX2_unjoinedWith_28
set_option maxHeartbeats 1000000 in
set_option maxRecDepth 100000 in
theorem mz_v_sameThirds (l : Launch) (dC : Nat → ClassId) (dI : Nat → Nat → Nat) (cI cJ cZ : ClassId) (dr : Nat) (dp : Nat) (dc : Nat) (n : Nat) (fp : Nat → Int32) (fc : Nat → Int32) (j : Nat) (p2 : Int32) (Hq : Heap) (hn : n ≤ 8) (hj : j < n) (hsy : ∀ a b, a < n → b < n → mz_t (mz_jo fp fc a) b = mz_t (mz_jo fp fc b) a) (hpj : mz_hp n (fp j)) (hw2 : mz_hp n p2) : Met l yX2_sameThirds wsX2_sameThirds ({ frames := 3, cells := 0, slots := 0, locals := 64 }) (va_Pc [.ref dr, .int (nI j), .int p2] (fun U => U.heap = Hq ∧ va_P (dC, dI) vwCl [(dr, .inr (2, [.ref dp, .ref dc, .int (nI n)])), (dp, .inl (cI, 8, .inl fp)), (dc, .inl (cI, 8, .inl fc))] Hq ∧ va_K (dC, dI) vwCl [(cI, FieldType.int), (cJ, FieldType.long), (cZ, FieldType.boolean)] U ∧ mz_N U)) (va_Qi (fun (r : Int32) (_ : Unit) => (r = 1 ∧ (mz_mlk n (mz_jo fp fc) (fp j) p2)) ∨ (r = 0 ∧ ¬ (mz_mlk n (mz_jo fp fc) (fp j) p2))) (fun _ t => t.heap = Hq) (fun _ : Nat => False)) 0 0 (fun _ : Nat => False) := by
  refine Met.ofW (cc := cX2_sameThirds) (maxL := 5) (ret := (some .boolean)) (by decide) rfl ?_
  intro p e s m args below meth c s₁ B hml hv
  obtain ⟨rfl, hH, hP, hK, hN⟩ := hv
  subst hH
  have hx := B.exec
  have hb := B.bytes
  have hr := B.returns
  have hts := atoms_spec (ws := wsX2_sameThirds) B.pre
  have hown : s.vm.findClass RX2 = some m.cls := findClass_of_methodNamed B.named
  have hlocks := B.notSynchronized
  have hS : va_S (fun _ : Nat => False) s.heap s.heap [] := va_S.rf
  have hiX2 : ∀ w ∈ u_ws RX2 TX2 3, w ∈ wsX2_sameThirds := by decide +kernel
  have hl := lv_entry ([.ref dr, .int (nI j), .int p2]) (n := 5) (Nat.le_of_ble_eq_true rfl)
  rw [lg_entry_eq]
  generalize (lg_sl ([.ref dr, .int (nI j), .int p2]) ++ List.replicate (5 - (lg_sl ([.ref dr, .int (nI j), .int p2])).length) Slot.unset).toArray = ls at hl ⊢
  have hl : lv_has ls 5 [(0, .ref dr), (1, .int (nI j)), (2, .int p2)] := hl
  refine lv_aload_n hx hb dX2_sameThirds_0 rfl (lv_at hl 0 rfl) ?_
  refine lv_iload_n hx hb dX2_sameThirds_1 rfl (lv_at hl 1 rfl) ?_
  have hPc := hP.sub (ws' := [(dr, .inr (2, [.ref dp, .ref dc, .int (nI n)])), (dp, .inl (cI, 8, .inl fp))]) [0, 1] rfl
  refine va_calli (va_runV (As := [.int (nI j)]) (rest := []) ⟨hx, hb, hml, hown, hts⟩ (mz_e_parentsOf l dC dI cI cJ cZ dr dp dc n fp j s.heap (by first | assumption | omega) (by first | assumption | omega)) (cwV 1 hts gX2_sameThirds_X2_parentsOf rfl rfl rfl (by decide +kernel) ⟨Nat.le_of_ble_eq_true rfl, Nat.le_of_ble_eq_true rfl⟩) ⟨fun a U g mk q => mz_blP q, va_recv hK hPc (ci := 2) (q0 := 0) rfl rfl, fun U hU hW => ⟨rfl, hU, hPc, va_K.moved hW.alike hK, mz_nw hW hN⟩⟩ rfl rfl hl.1 rfl (lv_room (Nat.le_of_ble_eq_true rfl)) dX2_sameThirds_2 ⟨Nat.le_of_ble_eq_true rfl, Nat.le_of_ble_eq_true rfl⟩) hS (fun q _ h => h.elim) (fun q h => h.elim) (fun r_2 u t H1 locs ht hvm hw_2 hB hz1 hk1 hS => ?_)
  have hE : s.heap = H1 := hB.symm.trans ht
  subst hE
  obtain rfl : r_2 = (fp j) := hw_2
  refine lv_istore_n (lv' := [(3, .int (fp j)), (0, .ref dr), (1, .int (nI j)), (2, .int p2)]) hx hb dX2_sameThirds_5 rfl hl (by decide) rfl (fun ls hl => ?_)
  refine lv_iconst (v := 0) hx hb dX2_sameThirds_6 (by decide +kernel) ?_
  refine lv_istore (lv' := [(4, .int 0), (3, .int (fp j)), (0, .ref dr), (1, .int (nI j)), (2, .int p2)]) hx hb dX2_sameThirds_7 hl (by decide) rfl (fun ls hl => ?_)
  refine mz_loopU (fun k H locs ls => ∃ (i_9 : Nat), i_9 ≤ n ∧ (∀ k, k < i_9 → mz_uj (mz_jo fp fc) k p2 = mz_uj (mz_jo fp fc) k (fp j)) ∧ H = s.heap ∧ va_S (fun _ : Nat => False) s.heap H locs ∧ lv_has ls 5 [(4, .int (nI i_9)), (3, .int (fp j)), (0, .ref dr), (1, .int (nI j)), (2, .int p2)] ∧ k = n - i_9) ?_ _ _ _ _ ⟨0, by omega, (fun k hk => absurd hk (Nat.not_lt_zero k)), rfl, hS, lv_sub hl [0, 1, 2, 3, 4] rfl, rfl⟩
  intro k_9 H locs ls hI_9 ih_9
  obtain ⟨i_9, hi_9, hq_9, hH_9, hS, hl, hk_9⟩ := hI_9
  subst hH_9
  refine lv_iload hx hb dX2_sameThirds_9 (lv_at hl 0 rfl) ?_
  refine lv_aload_n hx hb dX2_sameThirds_11 rfl (lv_at hl 2 rfl) ?_
  refine va_get (D := (dC, dI)) (ci := 2) (v := .int (nI n)) (C := RX2) (T := TX2) (N := 3) hx hb hts hiX2 hown hK hP 0 rfl rfl 2 (by decide) (hts (.fieldLink RX2 18 "MadeItSo$Drawing" "things" "I") (by decide +kernel)) (fun _ h9 => h9) rfl dX2_sameThirds_12 ?_
  refine lv_icmp_ge (tgt := 54) hx hb dX2_sameThirds_15 (by decide) (fun c_15 => ?_) (fun c_15 => ?_)
  · skip
    have d_15 : n ≤ i_9 := (nI_leI (a := n) (b := i_9) (by omega) (by omega)).mp c_15
    refine lv_iconst (v := 1) hx hb dX2_sameThirds_54 (by decide +kernel) ?_
    refine W.widen (k := 0) (n := 0) (Nat.le_of_ble_eq_true rfl) (Nat.le_of_ble_eq_true rfl) ?_
    exact W.zret (v := 1) hx hb hr (mz_nz (by decide +kernel)) (fun t ht hW => ⟨⟨1, (), rfl, Or.inl ⟨rfl, (mz_ml_uj hn hsy hpj hw2).mp (fun k hk => hq_9 k (by omega))⟩, ht⟩, hS.F ht⟩) hS.2.2 dX2_sameThirds_55
  · skip
    have d_15 : ¬ n ≤ i_9 := fun h => c_15 ((nI_leI (a := n) (b := i_9) (by omega) (by omega)).mpr h)
    refine lv_iload_n hx hb dX2_sameThirds_18 rfl (lv_at hl 1 rfl) ?_
    refine lv_iload_n hx hb dX2_sameThirds_19 rfl (lv_at hl 4 rfl) ?_
    refine lv_ior hx hb dX2_sameThirds_20 ?_
    refine lv_iload hx hb dX2_sameThirds_21 (lv_at hl 0 rfl) ?_
    have hPc := hP.sub (ws' := []) [] rfl
    refine va_calli (va_runSN (As := [.int ((fp j) ||| p2), .int (nI i_9)]) (rest := []) ⟨hx, hb, hml, hown, hts⟩ (mz_e_inHeap l dC dI cI cJ cZ ((fp j) ||| p2) i_9 s.heap (by first | assumption | omega)) ⟨va_cnB (host := "MadeItSo") 2 hts gX2_sameThirds_X7_inHeap_n26 rfl rfl rfl (hN (RX2, 26, yX7_inHeap, "MadeItSo") (by decide +kernel)) (hts (.initialized RX7) (by decide +kernel)) (by decide +kernel) ⟨Nat.le_of_ble_eq_true rfl, Nat.le_of_ble_eq_true rfl⟩, hts (.static yX7_inHeap) (by decide +kernel), trivial⟩ ⟨fun a U g mk q => mz_blP q, fun U hU hW => ⟨rfl, hU, hPc, va_K.moved hW.alike hK, mz_nw hW hN⟩⟩ rfl rfl hl.1 rfl (lv_room (Nat.le_of_ble_eq_true rfl)) dX2_sameThirds_23 ⟨Nat.le_of_ble_eq_true rfl, Nat.le_of_ble_eq_true rfl⟩) hS (fun q _ h => h.elim) (fun q h => h.elim) (fun r_23 u t H1 locs ht hvm hw_23 hB hz1 hk1 hS => ?_)
    have hE : s.heap = H1 := hB.symm.trans ht
    subst hE
    rcases (show (r_23 = 1 ∧ mz_t ((fp j) ||| p2) i_9 = true) ∨ (r_23 = 0 ∧ mz_t ((fp j) ||| p2) i_9 = false) from hw_23) with ⟨rfl, ht_23⟩ | ⟨rfl, ht_23⟩
    · skip
      refine lv_if_eq (tgt := 48) hx hb dX2_sameThirds_26 (by decide) (fun c_26 => absurd c_26 (by decide +kernel)) (fun _ => ?_)
      refine lv_aload_n hx hb dX2_sameThirds_29 rfl (lv_at hl 2 rfl) ?_
      refine lv_iload hx hb dX2_sameThirds_30 (lv_at hl 0 rfl) ?_
      refine lv_iload_n hx hb dX2_sameThirds_32 rfl (lv_at hl 4 rfl) ?_
      have hPc := hP.sub (ws' := [(dr, .inr (2, [.ref dp, .ref dc, .int (nI n)])), (dp, .inl (cI, 8, .inl fp)), (dc, .inl (cI, 8, .inl fc))]) [0, 1, 2] rfl
      refine va_calli (va_runV (As := [.int (nI i_9), .int p2]) (rest := []) ⟨hx, hb, hml, hown, hts⟩ (mz_v_unjoinedWith l dC dI cI cJ cZ dr dp dc n fp fc i_9 p2 s.heap (by first | assumption | omega) (by first | assumption | omega)) (cwV 2 hts gX2_sameThirds_X2_unjoinedWith rfl rfl rfl (by decide +kernel) ⟨Nat.le_of_ble_eq_true rfl, Nat.le_of_ble_eq_true rfl⟩) ⟨fun a U g mk q => mz_blP q, va_recv hK hPc (ci := 2) (q0 := 0) rfl rfl, fun U hU hW => ⟨rfl, hU, hPc, va_K.moved hW.alike hK, mz_nw hW hN⟩⟩ rfl rfl hl.1 rfl (lv_room (Nat.le_of_ble_eq_true rfl)) dX2_sameThirds_33 ⟨Nat.le_of_ble_eq_true rfl, Nat.le_of_ble_eq_true rfl⟩) hS (fun q _ h => h.elim) (fun q h => h.elim) (fun r_33 u t H1 locs ht hvm hw_33 hB hz1 hk1 hS => ?_)
      have hE : s.heap = H1 := hB.symm.trans ht
      subst hE
      obtain rfl : r_33 = (mz_uj (mz_jo fp fc) i_9 p2) := hw_33
      refine lv_aload_n hx hb dX2_sameThirds_36 rfl (lv_at hl 2 rfl) ?_
      refine lv_iload hx hb dX2_sameThirds_37 (lv_at hl 0 rfl) ?_
      refine lv_iload_n hx hb dX2_sameThirds_39 rfl (lv_at hl 1 rfl) ?_
      have hPc := hP.sub (ws' := [(dr, .inr (2, [.ref dp, .ref dc, .int (nI n)])), (dp, .inl (cI, 8, .inl fp)), (dc, .inl (cI, 8, .inl fc))]) [0, 1, 2] rfl
      refine va_calli (va_runV (As := [.int (nI i_9), .int (fp j)]) (rest := [.int (mz_uj (mz_jo fp fc) i_9 p2)]) ⟨hx, hb, hml, hown, hts⟩ (mz_v_unjoinedWith l dC dI cI cJ cZ dr dp dc n fp fc i_9 (fp j) s.heap (by first | assumption | omega) (by first | assumption | omega)) (cwV 2 hts gX2_sameThirds_X2_unjoinedWith rfl rfl rfl (by decide +kernel) ⟨Nat.le_of_ble_eq_true rfl, Nat.le_of_ble_eq_true rfl⟩) ⟨fun a U g mk q => mz_blP q, va_recv hK hPc (ci := 2) (q0 := 0) rfl rfl, fun U hU hW => ⟨rfl, hU, hPc, va_K.moved hW.alike hK, mz_nw hW hN⟩⟩ rfl rfl hl.1 rfl (lv_room (Nat.le_of_ble_eq_true rfl)) dX2_sameThirds_40 ⟨Nat.le_of_ble_eq_true rfl, Nat.le_of_ble_eq_true rfl⟩) hS (fun q _ h => h.elim) (fun q h => h.elim) (fun r_40 u t H1 locs ht hvm hw_40 hB hz1 hk1 hS => ?_)
      have hE : s.heap = H1 := hB.symm.trans ht
      subst hE
      obtain rfl : r_40 = (mz_uj (mz_jo fp fc) i_9 (fp j)) := hw_40
      refine lv_icmp_eq (tgt := 48) hx hb dX2_sameThirds_43 (by decide) (fun c_43 => ?_) (fun c_43 => ?_)
      · skip
        refine lv_iinc (v := (nI (i_9 + 1))) (lv' := [(4, .int (nI (i_9 + 1))), (3, .int (fp j)), (0, .ref dr), (1, .int (nI j)), (2, .int p2)]) hx hb dX2_sameThirds_48 hl (k := 0) rfl (nI_1 _) (by decide) rfl (fun ls hl => ?_)
        refine lv_goto (tgt := 9) hx hb dX2_sameThirds_51 (by decide) ?_
        exact ih_9 _ (by omega) _ _ _ ⟨(i_9 + 1), by omega, (lt_s hq_9 c_43), rfl, hS, lv_sub hl [0, 1, 2, 3, 4] rfl, rfl⟩
      · skip
        refine lv_iconst (v := 0) hx hb dX2_sameThirds_46 (by decide +kernel) ?_
        refine W.widen (k := 0) (n := 0) (Nat.le_of_ble_eq_true rfl) (Nat.le_of_ble_eq_true rfl) ?_
        exact W.zret (v := 0) hx hb hr (mz_nz (by decide +kernel)) (fun t ht hW => ⟨⟨0, (), rfl, Or.inr ⟨rfl, fun h9 => c_43 ((mz_ml_uj hn hsy hpj hw2).mpr h9 i_9 (by omega))⟩, ht⟩, hS.F ht⟩) hS.2.2 dX2_sameThirds_47
    · skip
      refine lv_if_eq (tgt := 48) hx hb dX2_sameThirds_26 (by decide) (fun _ => ?_) (fun c_26 => absurd (by decide +kernel) c_26)
      refine lv_iinc (v := (nI (i_9 + 1))) (lv' := [(4, .int (nI (i_9 + 1))), (3, .int (fp j)), (0, .ref dr), (1, .int (nI j)), (2, .int p2)]) hx hb dX2_sameThirds_48 hl (k := 0) rfl (nI_1 _) (by decide) rfl (fun ls hl => ?_)
      refine lv_goto (tgt := 9) hx hb dX2_sameThirds_51 (by decide) ?_
      exact ih_9 _ (by omega) _ _ _ ⟨(i_9 + 1), by omega, (lt_s hq_9 (mz_uj_0 ht_23)), rfl, hS, lv_sub hl [0, 1, 2, 3, 4] rfl, rfl⟩
set_option maxHeartbeats 1000000 in
set_option maxRecDepth 100000 in
theorem mz_v_canBeLast (l : Launch) (dC : Nat → ClassId) (dI : Nat → Nat → Nat) (cI cJ cZ : ClassId) (dr : Nat) (dp : Nat) (dc : Nat) (n : Nat) (fp : Nat → Int32) (fc : Nat → Int32) (p1 : Int32) (Hq : Heap) (hn : n ≤ 8) (hsy : ∀ a b, a < n → b < n → mz_t (mz_jo fp fc a) b = mz_t (mz_jo fp fc b) a) (hpn : ∀ k, k < n → mz_hp n (fp k)) (hHp : mz_hp n p1) : Met l yX4_canBeLast wsX4_canBeLast ({ frames := 4, cells := 0, slots := 0, locals := 88 }) (va_Pc [.ref dr, .int p1] (fun U => U.heap = Hq ∧ va_P (dC, dI) vwCl [(dr, .inr (2, [.ref dp, .ref dc, .int (nI n)])), (dp, .inl (cI, 8, .inl fp)), (dc, .inl (cI, 8, .inl fc))] Hq ∧ va_K (dC, dI) vwCl [(cI, FieldType.int), (cJ, FieldType.long), (cZ, FieldType.boolean)] U ∧ mz_N U)) (va_Qi (fun (r : Int32) (_ : Unit) => mz_cbl n (mz_jo fp fc) fp p1 n r) (fun _ t => t.heap = Hq) (fun _ : Nat => False)) 0 0 (fun _ : Nat => False) := by
  refine Met.ofW (cc := cX4_canBeLast) (maxL := 4) (ret := (some .int)) (by decide) rfl ?_
  intro p e s m args below meth c s₁ B hml hv
  obtain ⟨rfl, hH, hP, hK, hN⟩ := hv
  subst hH
  have hx := B.exec
  have hb := B.bytes
  have hr := B.returns
  have hts := atoms_spec (ws := wsX4_canBeLast) B.pre
  have hown : s.vm.findClass RX4 = some m.cls := findClass_of_methodNamed B.named
  have hlocks := B.notSynchronized
  have hS : va_S (fun _ : Nat => False) s.heap s.heap [] := va_S.rf
  have hl := lv_entry ([.ref dr, .int p1]) (n := 4) (Nat.le_of_ble_eq_true rfl)
  rw [lg_entry_eq]
  generalize (lg_sl ([.ref dr, .int p1]) ++ List.replicate (4 - (lg_sl ([.ref dr, .int p1])).length) Slot.unset).toArray = ls at hl ⊢
  have hl : lv_has ls 4 [(0, .ref dr), (1, .int p1)] := hl
  refine lv_iconst (v := 0) hx hb dX4_canBeLast_0 (by decide +kernel) ?_
  refine lv_istore_n (lv' := [(2, .int 0), (0, .ref dr), (1, .int p1)]) hx hb dX4_canBeLast_1 rfl hl (by decide) rfl (fun ls hl => ?_)
  refine lv_iconst (v := 0) hx hb dX4_canBeLast_2 (by decide +kernel) ?_
  refine lv_istore_n (lv' := [(3, .int 0), (2, .int 0), (0, .ref dr), (1, .int p1)]) hx hb dX4_canBeLast_3 rfl hl (by decide) rfl (fun ls hl => ?_)
  refine mz_loopU (fun k H locs ls => ∃ (i_4 : Nat), ∃ (x2_4 : Int32), i_4 ≤ n ∧ (mz_cbl n (mz_jo fp fc) fp p1 i_4 x2_4) ∧ H = s.heap ∧ va_S (fun _ : Nat => False) s.heap H locs ∧ lv_has ls 4 [(3, .int (nI i_4)), (2, .int x2_4), (0, .ref dr), (1, .int p1)] ∧ k = n - i_4) ?_ _ _ _ _ ⟨0, 0, by omega, mz_cbl_0, rfl, hS, lv_sub hl [0, 1, 2, 3] rfl, rfl⟩
  intro k_4 H locs ls hI_4 ih_4
  obtain ⟨i_4, x2_4, hi_4, hq_4, hH_4, hS, hl, hk_4⟩ := hI_4
  subst hH_4
  refine lv_iload_n hx hb dX4_canBeLast_4 rfl (lv_at hl 0 rfl) ?_
  refine lv_aload_n hx hb dX4_canBeLast_5 rfl (lv_at hl 2 rfl) ?_
  have hPc := hP.sub (ws' := [(dr, .inr (2, [.ref dp, .ref dc, .int (nI n)]))]) [0] rfl
  refine va_calli (va_runV (As := []) (rest := [.int (nI i_4)]) ⟨hx, hb, hml, hown, hts⟩ (mz_d_size l dC dI cI cJ cZ dr dp dc n s.heap ) (cwV 0 hts gX4_canBeLast_X2_size rfl rfl rfl (by decide +kernel) ⟨Nat.le_of_ble_eq_true rfl, Nat.le_of_ble_eq_true rfl⟩) ⟨fun a U g mk q => mz_blP q, va_recv hK hPc (ci := 2) (q0 := 0) rfl rfl, fun U hU hW => ⟨rfl, hU, hPc, va_K.moved hW.alike hK, mz_nw hW hN⟩⟩ rfl rfl hl.1 rfl (lv_room (Nat.le_of_ble_eq_true rfl)) dX4_canBeLast_6 ⟨Nat.le_of_ble_eq_true rfl, Nat.le_of_ble_eq_true rfl⟩) hS (fun q _ h => h.elim) (fun q h => h.elim) (fun r_6 u t H1 locs ht hvm hw_6 hB hz1 hk1 hS => ?_)
  have hE : s.heap = H1 := hB.symm.trans ht
  subst hE
  obtain rfl : r_6 = (nI n) := hw_6
  refine lv_icmp_ge (tgt := 48) hx hb dX4_canBeLast_9 (by decide) (fun c_9 => ?_) (fun c_9 => ?_)
  · skip
    have d_9 : n ≤ i_4 := (nI_leI (a := n) (b := i_4) (by omega) (by omega)).mp c_9
    refine lv_iload_n hx hb dX4_canBeLast_48 rfl (lv_at hl 1 rfl) ?_
    refine W.widen (k := 0) (n := 0) (Nat.le_of_ble_eq_true rfl) (Nat.le_of_ble_eq_true rfl) ?_
    exact W.iret (v := x2_4) hx hb hr (fun t ht hW => ⟨⟨x2_4, (), rfl, (by obtain rfl : i_4 = n := (by omega); exact hq_4), ht⟩, hS.F ht⟩) hS.2.2 dX4_canBeLast_49
  · skip
    have d_9 : ¬ n ≤ i_4 := fun h => c_9 ((nI_leI (a := n) (b := i_4) (by omega) (by omega)).mpr h)
    refine lv_iload_n hx hb dX4_canBeLast_12 rfl (lv_at hl 3 rfl) ?_
    refine lv_iload_n hx hb dX4_canBeLast_13 rfl (lv_at hl 0 rfl) ?_
    have hPc := hP.sub (ws' := []) [] rfl
    refine va_calli (va_runSN (As := [.int p1, .int (nI i_4)]) (rest := []) ⟨hx, hb, hml, hown, hts⟩ (mz_e_inHeap l dC dI cI cJ cZ p1 i_4 s.heap (by first | assumption | omega)) ⟨va_cnB (host := "MadeItSo") 2 hts gX4_canBeLast_X7_inHeap_n25 rfl rfl rfl (hN (RX4, 25, yX7_inHeap, "MadeItSo") (by decide +kernel)) (hts (.initialized RX7) (by decide +kernel)) (by decide +kernel) ⟨Nat.le_of_ble_eq_true rfl, Nat.le_of_ble_eq_true rfl⟩, hts (.static yX7_inHeap) (by decide +kernel), trivial⟩ ⟨fun a U g mk q => mz_blP q, fun U hU hW => ⟨rfl, hU, hPc, va_K.moved hW.alike hK, mz_nw hW hN⟩⟩ rfl rfl hl.1 rfl (lv_room (Nat.le_of_ble_eq_true rfl)) dX4_canBeLast_14 ⟨Nat.le_of_ble_eq_true rfl, Nat.le_of_ble_eq_true rfl⟩) hS (fun q _ h => h.elim) (fun q h => h.elim) (fun r_14 u t H1 locs ht hvm hw_14 hB hz1 hk1 hS => ?_)
    have hE : s.heap = H1 := hB.symm.trans ht
    subst hE
    rcases (show (r_14 = 1 ∧ mz_t p1 i_4 = true) ∨ (r_14 = 0 ∧ mz_t p1 i_4 = false) from hw_14) with ⟨rfl, ht_14⟩ | ⟨rfl, ht_14⟩
    · skip
      refine lv_if_eq (tgt := 42) hx hb dX4_canBeLast_17 (by decide) (fun c_17 => absurd c_17 (by decide +kernel)) (fun _ => ?_)
      refine lv_aload_n hx hb dX4_canBeLast_20 rfl (lv_at hl 2 rfl) ?_
      refine lv_iload_n hx hb dX4_canBeLast_21 rfl (lv_at hl 0 rfl) ?_
      refine lv_aload_n hx hb dX4_canBeLast_22 rfl (lv_at hl 2 rfl) ?_
      refine lv_iload_n hx hb dX4_canBeLast_23 rfl (lv_at hl 0 rfl) ?_
      have hPc := hP.sub (ws' := [(dr, .inr (2, [.ref dp, .ref dc, .int (nI n)])), (dp, .inl (cI, 8, .inl fp)), (dc, .inl (cI, 8, .inl fc))]) [0, 1, 2] rfl
      refine va_calli (va_runV (As := [.int (nI i_4)]) (rest := [.int (nI i_4), .ref dr]) ⟨hx, hb, hml, hown, hts⟩ (mz_e_joinedTo l dC dI cI cJ cZ dr dp dc n fp fc i_4 s.heap (by first | assumption | omega) (by first | assumption | omega)) (cwV 1 hts gX4_canBeLast_X2_joinedTo rfl rfl rfl (by decide +kernel) ⟨Nat.le_of_ble_eq_true rfl, Nat.le_of_ble_eq_true rfl⟩) ⟨fun a U g mk q => mz_blP q, va_recv hK hPc (ci := 2) (q0 := 0) rfl rfl, fun U hU hW => ⟨rfl, hU, hPc, va_K.moved hW.alike hK, mz_nw hW hN⟩⟩ rfl rfl hl.1 rfl (lv_room (Nat.le_of_ble_eq_true rfl)) dX4_canBeLast_24 ⟨Nat.le_of_ble_eq_true rfl, Nat.le_of_ble_eq_true rfl⟩) hS (fun q _ h => h.elim) (fun q h => h.elim) (fun r_24 u t H1 locs ht hvm hw_24 hB hz1 hk1 hS => ?_)
      have hE : s.heap = H1 := hB.symm.trans ht
      subst hE
      obtain rfl : r_24 = ((fp i_4) ||| (fc i_4)) := hw_24
      refine lv_iload_n hx hb dX4_canBeLast_27 rfl (lv_at hl 3 rfl) ?_
      refine lv_iand hx hb dX4_canBeLast_28 ?_
      have hPc := hP.sub (ws' := [(dr, .inr (2, [.ref dp, .ref dc, .int (nI n)])), (dp, .inl (cI, 8, .inl fp)), (dc, .inl (cI, 8, .inl fc))]) [0, 1, 2] rfl
      refine va_calli (va_runV (As := [.int (nI i_4), .int (((fp i_4) ||| (fc i_4)) &&& p1)]) (rest := []) ⟨hx, hb, hml, hown, hts⟩ (mz_v_sameThirds l dC dI cI cJ cZ dr dp dc n fp fc i_4 (((fp i_4) ||| (fc i_4)) &&& p1) s.heap (by first | assumption | omega) (by first | assumption | omega) (by first | assumption | omega) (hpn i_4 (by omega)) (mz_hp_and hHp)) (cwV 2 hts gX4_canBeLast_X2_sameThirds rfl rfl rfl (by decide +kernel) ⟨Nat.le_of_ble_eq_true rfl, Nat.le_of_ble_eq_true rfl⟩) ⟨fun a U g mk q => mz_blP q, va_recv hK hPc (ci := 2) (q0 := 0) rfl rfl, fun U hU hW => ⟨rfl, hU, hPc, va_K.moved hW.alike hK, mz_nw hW hN⟩⟩ rfl rfl hl.1 rfl (lv_room (Nat.le_of_ble_eq_true rfl)) dX4_canBeLast_29 ⟨Nat.le_of_ble_eq_true rfl, Nat.le_of_ble_eq_true rfl⟩) hS (fun q _ h => h.elim) (fun q h => h.elim) (fun r_29 u t H1 locs ht hvm hw_29 hB hz1 hk1 hS => ?_)
      have hE : s.heap = H1 := hB.symm.trans ht
      subst hE
      rcases (show (r_29 = 1 ∧ (mz_mlk n (mz_jo fp fc) (fp i_4) (((fp i_4) ||| (fc i_4)) &&& p1))) ∨ (r_29 = 0 ∧ ¬ (mz_mlk n (mz_jo fp fc) (fp i_4) (((fp i_4) ||| (fc i_4)) &&& p1))) from hw_29) with ⟨rfl, hc_29⟩ | ⟨rfl, hc_29⟩
      · skip
        refine lv_if_eq (tgt := 42) hx hb dX4_canBeLast_32 (by decide) (fun c_32 => absurd c_32 (by decide +kernel)) (fun _ => ?_)
        refine lv_iload_n hx hb dX4_canBeLast_35 rfl (lv_at hl 1 rfl) ?_
        refine lv_iload_n hx hb dX4_canBeLast_36 rfl (lv_at hl 0 rfl) ?_
        have hPc := hP.sub (ws' := []) [] rfl
        refine va_calli (va_runSN (As := [.int (nI i_4)]) (rest := [.int x2_4]) ⟨hx, hb, hml, hown, hts⟩ (mz_g_bit l dC dI cI cJ cZ (nI i_4) s.heap ) ⟨va_cnB (host := "MadeItSo") 1 hts gX4_canBeLast_X7_bit_n29 rfl rfl rfl (hN (RX4, 29, yX7_bit, "MadeItSo") (by decide +kernel)) (hts (.initialized RX7) (by decide +kernel)) (by decide +kernel) ⟨Nat.le_of_ble_eq_true rfl, Nat.le_of_ble_eq_true rfl⟩, hts (.static yX7_bit) (by decide +kernel), trivial⟩ ⟨fun a U g mk q => mz_blP q, fun U hU hW => ⟨rfl, hU, hPc, va_K.moved hW.alike hK, mz_nw hW hN⟩⟩ rfl rfl hl.1 rfl (lv_room (Nat.le_of_ble_eq_true rfl)) dX4_canBeLast_37 ⟨Nat.le_of_ble_eq_true rfl, Nat.le_of_ble_eq_true rfl⟩) hS (fun q _ h => h.elim) (fun q h => h.elim) (fun r_37 u t H1 locs ht hvm hw_37 hB hz1 hk1 hS => ?_)
        have hE : s.heap = H1 := hB.symm.trans ht
        subst hE
        obtain rfl : r_37 = (1 <<< ((nI i_4) &&& 31)) := hw_37
        refine lv_ior hx hb dX4_canBeLast_40 ?_
        refine lv_istore_n (lv' := [(2, .int (x2_4 ||| (1 <<< ((nI i_4) &&& 31)))), (3, .int (nI i_4)), (0, .ref dr), (1, .int p1)]) hx hb dX4_canBeLast_41 rfl hl (by decide) rfl (fun ls hl => ?_)
        refine lv_iinc (v := (nI (i_4 + 1))) (lv' := [(3, .int (nI (i_4 + 1))), (2, .int (x2_4 ||| (1 <<< ((nI i_4) &&& 31)))), (0, .ref dr), (1, .int p1)]) hx hb dX4_canBeLast_42 hl (k := 1) rfl (nI_1 _) (by decide) rfl (fun ls hl => ?_)
        refine lv_goto (tgt := 4) hx hb dX4_canBeLast_45 (by decide) ?_
        exact ih_4 _ (by omega) _ _ _ ⟨(i_4 + 1), (x2_4 ||| (1 <<< ((nI i_4) &&& 31))), by omega, (mz_cbl_y (by omega) hq_4 ht_14 hc_29), rfl, hS, lv_sub hl [0, 1, 2, 3] rfl, rfl⟩
      · skip
        refine lv_if_eq (tgt := 42) hx hb dX4_canBeLast_32 (by decide) (fun _ => ?_) (fun c_32 => absurd (by decide +kernel) c_32)
        refine lv_iinc (v := (nI (i_4 + 1))) (lv' := [(3, .int (nI (i_4 + 1))), (2, .int x2_4), (0, .ref dr), (1, .int p1)]) hx hb dX4_canBeLast_42 hl (k := 0) rfl (nI_1 _) (by decide) rfl (fun ls hl => ?_)
        refine lv_goto (tgt := 4) hx hb dX4_canBeLast_45 (by decide) ?_
        exact ih_4 _ (by omega) _ _ _ ⟨(i_4 + 1), x2_4, by omega, (mz_cbl_n hq_4 (Or.inr hc_29)), rfl, hS, lv_sub hl [0, 1, 2, 3] rfl, rfl⟩
    · skip
      refine lv_if_eq (tgt := 42) hx hb dX4_canBeLast_17 (by decide) (fun _ => ?_) (fun c_17 => absurd (by decide +kernel) c_17)
      refine lv_iinc (v := (nI (i_4 + 1))) (lv' := [(3, .int (nI (i_4 + 1))), (2, .int x2_4), (0, .ref dr), (1, .int p1)]) hx hb dX4_canBeLast_42 hl (k := 0) rfl (nI_1 _) (by decide) rfl (fun ls hl => ?_)
      refine lv_goto (tgt := 4) hx hb dX4_canBeLast_45 (by decide) ?_
      exact ih_4 _ (by omega) _ _ _ ⟨(i_4 + 1), x2_4, by omega, (mz_cbl_n hq_4 (Or.inl ht_14)), rfl, hS, lv_sub hl [0, 1, 2, 3] rfl, rfl⟩
set_option maxHeartbeats 1000000 in
set_option maxRecDepth 100000 in
theorem mz_v_apart (l : Launch) (dC : Nat → ClassId) (dI : Nat → Nat → Nat) (cI cJ cZ : ClassId) (dr : Nat) (dp : Nat) (dc : Nat) (n : Nat) (fp : Nat → Int32) (fc : Nat → Int32) (p0 : Int32) (Hq : Heap) (hn : n ≤ 8) : Met l yX2_apart wsX2_apart ({ frames := 2, cells := 0, slots := 0, locals := 42 }) (va_Pc [.ref dr, .int p0] (fun U => U.heap = Hq ∧ va_P (dC, dI) vwCl [(dr, .inr (2, [.ref dp, .ref dc, .int (nI n)])), (dp, .inl (cI, 8, .inl fp)), (dc, .inl (cI, 8, .inl fc))] Hq ∧ va_K (dC, dI) vwCl [(cI, FieldType.int), (cJ, FieldType.long), (cZ, FieldType.boolean)] U ∧ mz_N U)) (va_Qi (fun (r : Int32) (_ : Unit) => (r = 1 ∧ (mz_apt n (mz_jo fp fc) p0)) ∨ (r = 0 ∧ ¬ (mz_apt n (mz_jo fp fc) p0))) (fun _ t => t.heap = Hq) (fun _ : Nat => False)) 0 0 (fun _ : Nat => False) := by
  refine Met.ofW (cc := cX2_apart) (maxL := 3) (ret := (some .boolean)) (by decide) rfl ?_
  intro p e s m args below meth c s₁ B hml hv
  obtain ⟨rfl, hH, hP, hK, hN⟩ := hv
  subst hH
  have hx := B.exec
  have hb := B.bytes
  have hr := B.returns
  have hts := atoms_spec (ws := wsX2_apart) B.pre
  have hown : s.vm.findClass RX2 = some m.cls := findClass_of_methodNamed B.named
  have hlocks := B.notSynchronized
  have hS : va_S (fun _ : Nat => False) s.heap s.heap [] := va_S.rf
  have hiX2 : ∀ w ∈ u_ws RX2 TX2 3, w ∈ wsX2_apart := by decide +kernel
  have hl := lv_entry ([.ref dr, .int p0]) (n := 3) (Nat.le_of_ble_eq_true rfl)
  rw [lg_entry_eq]
  generalize (lg_sl ([.ref dr, .int p0]) ++ List.replicate (3 - (lg_sl ([.ref dr, .int p0])).length) Slot.unset).toArray = ls at hl ⊢
  have hl : lv_has ls 3 [(0, .ref dr), (1, .int p0)] := hl
  refine lv_iconst (v := 0) hx hb dX2_apart_0 (by decide +kernel) ?_
  refine lv_istore_n (lv' := [(2, .int 0), (0, .ref dr), (1, .int p0)]) hx hb dX2_apart_1 rfl hl (by decide) rfl (fun ls hl => ?_)
  refine mz_loopU (fun k H locs ls => ∃ (i_2 : Nat), i_2 ≤ n ∧ (∀ k, k < i_2 → mz_t p0 k = true → (mz_jo fp fc k) &&& p0 = 0) ∧ H = s.heap ∧ va_S (fun _ : Nat => False) s.heap H locs ∧ lv_has ls 3 [(2, .int (nI i_2)), (0, .ref dr), (1, .int p0)] ∧ k = n - i_2) ?_ _ _ _ _ ⟨0, by omega, (fun k hk => absurd hk (Nat.not_lt_zero k)), rfl, hS, lv_sub hl [0, 1, 2] rfl, rfl⟩
  intro k_2 H locs ls hI_2 ih_2
  obtain ⟨i_2, hi_2, hq_2, hH_2, hS, hl, hk_2⟩ := hI_2
  subst hH_2
  refine lv_iload_n hx hb dX2_apart_2 rfl (lv_at hl 0 rfl) ?_
  refine lv_aload_n hx hb dX2_apart_3 rfl (lv_at hl 1 rfl) ?_
  refine va_get (D := (dC, dI)) (ci := 2) (v := .int (nI n)) (C := RX2) (T := TX2) (N := 3) hx hb hts hiX2 hown hK hP 0 rfl rfl 2 (by decide) (hts (.fieldLink RX2 18 "MadeItSo$Drawing" "things" "I") (by decide +kernel)) (fun _ h9 => h9) rfl dX2_apart_4 ?_
  refine lv_icmp_ge (tgt := 36) hx hb dX2_apart_7 (by decide) (fun c_7 => ?_) (fun c_7 => ?_)
  · skip
    have d_7 : n ≤ i_2 := (nI_leI (a := n) (b := i_2) (by omega) (by omega)).mp c_7
    refine lv_iconst (v := 1) hx hb dX2_apart_36 (by decide +kernel) ?_
    refine W.widen (k := 0) (n := 0) (Nat.le_of_ble_eq_true rfl) (Nat.le_of_ble_eq_true rfl) ?_
    exact W.zret (v := 1) hx hb hr (mz_nz (by decide +kernel)) (fun t ht hW => ⟨⟨1, (), rfl, Or.inl ⟨rfl, fun k hk => hq_2 k (by omega)⟩, ht⟩, hS.F ht⟩) hS.2.2 dX2_apart_37
  · skip
    have d_7 : ¬ n ≤ i_2 := fun h => c_7 ((nI_leI (a := n) (b := i_2) (by omega) (by omega)).mpr h)
    refine lv_iload_n hx hb dX2_apart_10 rfl (lv_at hl 2 rfl) ?_
    refine lv_iload_n hx hb dX2_apart_11 rfl (lv_at hl 0 rfl) ?_
    have hPc := hP.sub (ws' := []) [] rfl
    refine va_calli (va_runSN (As := [.int p0, .int (nI i_2)]) (rest := []) ⟨hx, hb, hml, hown, hts⟩ (mz_e_inHeap l dC dI cI cJ cZ p0 i_2 s.heap (by first | assumption | omega)) ⟨va_cnB (host := "MadeItSo") 2 hts gX2_apart_X7_inHeap_n26 rfl rfl rfl (hN (RX2, 26, yX7_inHeap, "MadeItSo") (by decide +kernel)) (hts (.initialized RX7) (by decide +kernel)) (by decide +kernel) ⟨Nat.le_of_ble_eq_true rfl, Nat.le_of_ble_eq_true rfl⟩, hts (.static yX7_inHeap) (by decide +kernel), trivial⟩ ⟨fun a U g mk q => mz_blP q, fun U hU hW => ⟨rfl, hU, hPc, va_K.moved hW.alike hK, mz_nw hW hN⟩⟩ rfl rfl hl.1 rfl (lv_room (Nat.le_of_ble_eq_true rfl)) dX2_apart_12 ⟨Nat.le_of_ble_eq_true rfl, Nat.le_of_ble_eq_true rfl⟩) hS (fun q _ h => h.elim) (fun q h => h.elim) (fun r_12 u t H1 locs ht hvm hw_12 hB hz1 hk1 hS => ?_)
    have hE : s.heap = H1 := hB.symm.trans ht
    subst hE
    rcases (show (r_12 = 1 ∧ mz_t p0 i_2 = true) ∨ (r_12 = 0 ∧ mz_t p0 i_2 = false) from hw_12) with ⟨rfl, ht_12⟩ | ⟨rfl, ht_12⟩
    · skip
      refine lv_if_eq (tgt := 30) hx hb dX2_apart_15 (by decide) (fun c_15 => absurd c_15 (by decide +kernel)) (fun _ => ?_)
      refine lv_aload_n hx hb dX2_apart_18 rfl (lv_at hl 1 rfl) ?_
      refine lv_iload_n hx hb dX2_apart_19 rfl (lv_at hl 0 rfl) ?_
      have hPc := hP.sub (ws' := [(dr, .inr (2, [.ref dp, .ref dc, .int (nI n)])), (dp, .inl (cI, 8, .inl fp)), (dc, .inl (cI, 8, .inl fc))]) [0, 1, 2] rfl
      refine va_calli (va_runV (As := [.int (nI i_2)]) (rest := []) ⟨hx, hb, hml, hown, hts⟩ (mz_e_joinedTo l dC dI cI cJ cZ dr dp dc n fp fc i_2 s.heap (by first | assumption | omega) (by first | assumption | omega)) (cwV 1 hts gX2_apart_X2_joinedTo rfl rfl rfl (by decide +kernel) ⟨Nat.le_of_ble_eq_true rfl, Nat.le_of_ble_eq_true rfl⟩) ⟨fun a U g mk q => mz_blP q, va_recv hK hPc (ci := 2) (q0 := 0) rfl rfl, fun U hU hW => ⟨rfl, hU, hPc, va_K.moved hW.alike hK, mz_nw hW hN⟩⟩ rfl rfl hl.1 rfl (lv_room (Nat.le_of_ble_eq_true rfl)) dX2_apart_20 ⟨Nat.le_of_ble_eq_true rfl, Nat.le_of_ble_eq_true rfl⟩) hS (fun q _ h => h.elim) (fun q h => h.elim) (fun r_20 u t H1 locs ht hvm hw_20 hB hz1 hk1 hS => ?_)
      have hE : s.heap = H1 := hB.symm.trans ht
      subst hE
      obtain rfl : r_20 = ((fp i_2) ||| (fc i_2)) := hw_20
      refine lv_iload_n hx hb dX2_apart_23 rfl (lv_at hl 2 rfl) ?_
      refine lv_iand hx hb dX2_apart_24 ?_
      refine lv_if_eq (tgt := 30) hx hb dX2_apart_25 (by decide) (fun c_25 => ?_) (fun c_25 => ?_)
      · skip
        refine lv_iinc (v := (nI (i_2 + 1))) (lv' := [(2, .int (nI (i_2 + 1))), (0, .ref dr), (1, .int p0)]) hx hb dX2_apart_30 hl (k := 0) rfl (nI_1 _) (by decide) rfl (fun ls hl => ?_)
        refine lv_goto (tgt := 2) hx hb dX2_apart_33 (by decide) ?_
        exact ih_2 _ (by omega) _ _ _ ⟨(i_2 + 1), by omega, (lt_s hq_2 (fun _ => c_25)), rfl, hS, lv_sub hl [0, 1, 2] rfl, rfl⟩
      · skip
        refine lv_iconst (v := 0) hx hb dX2_apart_28 (by decide +kernel) ?_
        refine W.widen (k := 0) (n := 0) (Nat.le_of_ble_eq_true rfl) (Nat.le_of_ble_eq_true rfl) ?_
        exact W.zret (v := 0) hx hb hr (mz_nz (by decide +kernel)) (fun t ht hW => ⟨⟨0, (), rfl, Or.inr ⟨rfl, fun h9 => c_25 (h9 i_2 (by omega) ht_12)⟩, ht⟩, hS.F ht⟩) hS.2.2 dX2_apart_29
    · skip
      refine lv_if_eq (tgt := 30) hx hb dX2_apart_15 (by decide) (fun _ => ?_) (fun c_15 => absurd (by decide +kernel) c_15)
      refine lv_iinc (v := (nI (i_2 + 1))) (lv' := [(2, .int (nI (i_2 + 1))), (0, .ref dr), (1, .int p0)]) hx hb dX2_apart_30 hl (k := 0) rfl (nI_1 _) (by decide) rfl (fun ls hl => ?_)
      refine lv_goto (tgt := 2) hx hb dX2_apart_33 (by decide) ?_
      exact ih_2 _ (by omega) _ _ _ ⟨(i_2 + 1), by omega, (lt_s hq_2 (fun h9 => by rw [ht_12] at h9; cases h9)), rfl, hS, lv_sub hl [0, 1, 2] rfl, rfl⟩
set_option maxHeartbeats 1000000 in
set_option maxRecDepth 100000 in
theorem mz_v_waysEndingIn (l : Launch) (dC : Nat → ClassId) (dI : Nat → Nat → Nat) (cI cJ cZ : ClassId) (la : Nat) (lw : Nat) (fl : Nat → Int32) (dr : Nat) (dp : Nat) (dc : Nat) (n : Nat) (fp : Nat → Int32) (fc : Nat → Int32) (h0 : Nat) (p2 : Int32) (NW : Nat → Nat) (Hq : Heap) (hn : n ≤ 8) (hh0 : h0 < 256) (h00 : 0 < h0) (hx8 : ∀ j, j < 32 → mz_t p2 j = true → j < 8) (hlh : ∀ j, j < 32 → mz_t p2 j = true → mz_t (nI h0) j = true) (htw : mz_tw NW h0 fl) : Met l yX4_waysEndingIn wsX4_waysEndingIn ({ frames := 3, cells := 0, slots := 0, locals := 64 }) (va_Pc [.ref la, .ref dr, .int (nI h0), .int p2] (fun U => U.heap = Hq ∧ va_P (dC, dI) vwCl [(la, .inr (4, [.ref lw])), (lw, .inl (cI, 256, .inl fl)), (dr, .inr (2, [.ref dp, .ref dc, .int (nI n)])), (dp, .inl (cI, 8, .inl fp)), (dc, .inl (cI, 8, .inl fc))] Hq ∧ va_K (dC, dI) vwCl [(cI, FieldType.int), (cJ, FieldType.long), (cZ, FieldType.boolean)] U ∧ mz_N U)) (va_Qi (fun (r : Int32) (_ : Unit) => r = (Int32.ofInt (mz_si (mz_EE n (mz_jo fp fc) NW h0 p2) (2 ^ (mz_pc p2 8))))) (fun _ t => t.heap = Hq) (fun _ : Nat => False)) 0 0 (fun _ : Nat => False) := by
  refine Met.ofW (cc := cX4_waysEndingIn) (maxL := 9) (ret := (some .int)) (by decide) rfl ?_
  intro p e s m args below meth c s₁ B hml hv
  obtain ⟨rfl, hH, hP, hK, hN⟩ := hv
  subst hH
  have hx := B.exec
  have hb := B.bytes
  have hr := B.returns
  have hts := atoms_spec (ws := wsX4_waysEndingIn) B.pre
  have hown : s.vm.findClass RX4 = some m.cls := findClass_of_methodNamed B.named
  have hlocks := B.notSynchronized
  have hS : va_S (fun _ : Nat => False) s.heap s.heap [] := va_S.rf
  have hiX4 : ∀ w ∈ u_ws RX4 TX4 1, w ∈ wsX4_waysEndingIn := by decide +kernel
  have hl := lv_entry ([.ref la, .ref dr, .int (nI h0), .int p2]) (n := 9) (Nat.le_of_ble_eq_true rfl)
  rw [lg_entry_eq]
  generalize (lg_sl ([.ref la, .ref dr, .int (nI h0), .int p2]) ++ List.replicate (9 - (lg_sl ([.ref la, .ref dr, .int (nI h0), .int p2])).length) Slot.unset).toArray = ls at hl ⊢
  have hl : lv_has ls 9 [(0, .ref la), (1, .ref dr), (2, .int (nI h0)), (3, .int p2)] := hl
  refine lv_iconst (v := 0) hx hb dX4_waysEndingIn_0 (by decide +kernel) ?_
  refine lv_istore (lv' := [(4, .int 0), (0, .ref la), (1, .ref dr), (2, .int (nI h0)), (3, .int p2)]) hx hb dX4_waysEndingIn_1 hl (by decide) rfl (fun ls hl => ?_)
  refine lv_iload_n hx hb dX4_waysEndingIn_3 rfl (lv_at hl 4 rfl) ?_
  have hPc := hP.sub (ws' := []) [] rfl
  refine va_calli (va_runSN (As := [.int p2]) (rest := []) ⟨hx, hb, hml, hown, hts⟩ (mz_f_partsOf l dC dI cI cJ cZ p2 s.heap hx8) ⟨va_cnB (host := "MadeItSo") 1 hts gX4_waysEndingIn_X7_partsOf_n37 rfl rfl rfl (hN (RX4, 37, yX7_partsOf, "MadeItSo") (by decide +kernel)) (hts (.initialized RX7) (by decide +kernel)) (by decide +kernel) ⟨Nat.le_of_ble_eq_true rfl, Nat.le_of_ble_eq_true rfl⟩, hts (.static yX7_partsOf) (by decide +kernel), trivial⟩ ⟨fun a U g mk q => mz_blP q, fun U hU hW => ⟨rfl, hU, hPc, va_K.moved hW.alike hK, mz_nw hW hN⟩⟩ rfl rfl hl.1 rfl (lv_room (Nat.le_of_ble_eq_true rfl)) dX4_waysEndingIn_4 ⟨Nat.le_of_ble_eq_true rfl, Nat.le_of_ble_eq_true rfl⟩) hS (fun q _ h => h.elim) (fun q h => h.elim) (fun r_4 u t H1 locs ht hvm hw_4 hB hz1 hk1 hS => ?_)
  have hE : s.heap = H1 := hB.symm.trans ht
  subst hE
  obtain rfl : r_4 = (nI (2 ^ (mz_pc p2 8))) := hw_4
  obtain ⟨K_, hK_⟩ : ∃ k : Nat, k = 2 ^ (mz_pc p2 8) := ⟨_, rfl⟩
  have hK2_ : K_ ≤ 256 := (by rw [hK_]; exact mz_p8 _)
  refine mz_ti (y := (nI K_)) (by rw [hK_]) ?_
  have hK4_ : 1 ≤ K_ := (by rw [hK_]; exact Nat.two_pow_pos _)
  refine lv_istore (lv' := [(5, .int (nI K_)), (4, .int 0), (0, .ref la), (1, .ref dr), (2, .int (nI h0)), (3, .int p2)]) hx hb dX4_waysEndingIn_7 hl (by decide) rfl (fun ls hl => ?_)
  refine lv_iconst (v := 1) hx hb dX4_waysEndingIn_9 (by decide +kernel) ?_
  refine lv_istore (lv' := [(6, .int 1), (5, .int (nI K_)), (4, .int 0), (0, .ref la), (1, .ref dr), (2, .int (nI h0)), (3, .int p2)]) hx hb dX4_waysEndingIn_10 hl (by decide) rfl (fun ls hl => ?_)
  refine lv_iconst (v := 0) hx hb dX4_waysEndingIn_12 (by decide +kernel) ?_
  refine lv_iload_n hx hb dX4_waysEndingIn_13 rfl (lv_at hl 6 rfl) ?_
  have hPc := hP.sub (ws' := []) [] rfl
  refine va_calli (va_runSN (As := [.int 0, .int p2]) (rest := []) ⟨hx, hb, hml, hown, hts⟩ (mz_k_nextPart l dC dI cI cJ cZ 0 p2 s.heap ) ⟨va_cnB (host := "MadeItSo") 2 hts gX4_waysEndingIn_X7_nextPart_n40 rfl rfl rfl (hN (RX4, 40, yX7_nextPart, "MadeItSo") (by decide +kernel)) (hts (.initialized RX7) (by decide +kernel)) (by decide +kernel) ⟨Nat.le_of_ble_eq_true rfl, Nat.le_of_ble_eq_true rfl⟩, hts (.static yX7_nextPart) (by decide +kernel), trivial⟩ ⟨fun a U g mk q => mz_blP q, fun U hU hW => ⟨rfl, hU, hPc, va_K.moved hW.alike hK, mz_nw hW hN⟩⟩ rfl rfl hl.1 rfl (lv_room (Nat.le_of_ble_eq_true rfl)) dX4_waysEndingIn_14 ⟨Nat.le_of_ble_eq_true rfl, Nat.le_of_ble_eq_true rfl⟩) hS (fun q _ h => h.elim) (fun q h => h.elim) (fun r_14 u t H1 locs ht hvm hw_14 hB hz1 hk1 hS => ?_)
  have hE : s.heap = H1 := hB.symm.trans ht
  subst hE
  obtain rfl : r_14 = (((0 : Int32) - p2) &&& p2) := hw_14
  refine lv_istore (lv' := [(7, .int ((0 - p2) &&& p2)), (6, .int 1), (5, .int (nI K_)), (4, .int 0), (0, .ref la), (1, .ref dr), (2, .int (nI h0)), (3, .int p2)]) hx hb dX4_waysEndingIn_17 hl (by decide) rfl (fun ls hl => ?_)
  refine mz_loopU (fun k H locs ls => ∃ (i_19 : Nat), ∃ (x7_19 : Int32), ∃ (x4_19 : Int32), i_19 ≤ K_ ∧ (1 ≤ i_19) ∧ (x7_19 = nI (mz_dp p2 i_19)) ∧ (x4_19 = Int32.ofInt (mz_si (mz_EE n (mz_jo fp fc) NW h0 p2) i_19)) ∧ H = s.heap ∧ va_S (fun _ : Nat => False) s.heap H locs ∧ lv_has ls 9 [(7, .int x7_19), (6, .int (nI i_19)), (5, .int (nI K_)), (4, .int x4_19), (0, .ref la), (1, .ref dr), (2, .int (nI h0)), (3, .int p2)] ∧ k = K_ - i_19) ?_ _ _ _ _ ⟨1, ((0 - p2) &&& p2), 0, by omega, (by first | assumption | omega), (by have h9 := mz_nxt hx8 (i := 0) (Nat.two_pow_pos _); rw [mz_dp_0] at h9; exact h9), mz_EE_1, rfl, hS, lv_sub hl [0, 1, 2, 3, 4, 5, 6, 7] rfl, rfl⟩
  intro k_19 H locs ls hI_19 ih_19
  obtain ⟨i_19, x7_19, x4_19, hi_19, h1_19, hd_19, hs_19, hH_19, hS, hl, hk_19⟩ := hI_19
  subst hH_19
  subst hd_19
  refine lv_iload hx hb dX4_waysEndingIn_19 (lv_at hl 1 rfl) ?_
  refine lv_iload hx hb dX4_waysEndingIn_21 (lv_at hl 2 rfl) ?_
  refine lv_icmp_ge (tgt := 90) hx hb dX4_waysEndingIn_23 (by decide) (fun c_23 => ?_) (fun c_23 => ?_)
  · skip
    have d_23 : K_ ≤ i_19 := (nI_leI (a := K_) (b := i_19) (by omega) (by omega)).mp c_23
    refine lv_iload hx hb dX4_waysEndingIn_90 (lv_at hl 3 rfl) ?_
    refine W.widen (k := 0) (n := 0) (Nat.le_of_ble_eq_true rfl) (Nat.le_of_ble_eq_true rfl) ?_
    exact W.iret (v := x4_19) hx hb hr (fun t ht hW => ⟨⟨x4_19, (), rfl, (by rw [hs_19, show i_19 = K_ by omega, hK_]), ht⟩, hS.F ht⟩) hS.2.2 dX4_waysEndingIn_92
  · skip
    have d_23 : ¬ K_ ≤ i_19 := fun h => c_23 ((nI_leI (a := K_) (b := i_19) (by omega) (by omega)).mpr h)
    have hp0_ : 0 < mz_dp p2 i_19 := (by have h9 := mz_dp_up hx8 (i := 0) (j := i_19) (by omega) (by rw [← hK_]; omega); rw [mz_dp_0] at h9; exact h9)
    have hsb_ := mz_dp_sub (i := i_19) hh0 hlh
    refine lv_aload_n hx hb dX4_waysEndingIn_26 rfl (lv_at hl 5 rfl) ?_
    refine lv_iload hx hb dX4_waysEndingIn_27 (lv_at hl 0 rfl) ?_
    have hPc := hP.sub (ws' := [(dr, .inr (2, [.ref dp, .ref dc, .int (nI n)])), (dp, .inl (cI, 8, .inl fp)), (dc, .inl (cI, 8, .inl fc))]) [2, 3, 4] rfl
    refine va_calli (va_runV (As := [.int (nI (mz_dp p2 i_19))]) (rest := []) ⟨hx, hb, hml, hown, hts⟩ (mz_v_apart l dC dI cI cJ cZ dr dp dc n fp fc (nI (mz_dp p2 i_19)) s.heap (by first | assumption | omega)) (cwV 1 hts gX4_waysEndingIn_X2_apart rfl rfl rfl (by decide +kernel) ⟨Nat.le_of_ble_eq_true rfl, Nat.le_of_ble_eq_true rfl⟩) ⟨fun a U g mk q => mz_blP q, va_recv hK hPc (ci := 2) (q0 := 0) rfl rfl, fun U hU hW => ⟨rfl, hU, hPc, va_K.moved hW.alike hK, mz_nw hW hN⟩⟩ rfl rfl hl.1 rfl (lv_room (Nat.le_of_ble_eq_true rfl)) dX4_waysEndingIn_29 ⟨Nat.le_of_ble_eq_true rfl, Nat.le_of_ble_eq_true rfl⟩) hS (fun q _ h => h.elim) (fun q h => h.elim) (fun r_29 u t H1 locs ht hvm hw_29 hB hz1 hk1 hS => ?_)
    have hE : s.heap = H1 := hB.symm.trans ht
    subst hE
    rcases (show (r_29 = 1 ∧ (mz_apt n (mz_jo fp fc) (nI (mz_dp p2 i_19)))) ∨ (r_29 = 0 ∧ ¬ (mz_apt n (mz_jo fp fc) (nI (mz_dp p2 i_19)))) from hw_29) with ⟨rfl, hc_29⟩ | ⟨rfl, hc_29⟩
    · skip
      refine lv_if_eq (tgt := 76) hx hb dX4_waysEndingIn_32 (by decide) (fun c_32 => absurd c_32 (by decide +kernel)) (fun _ => ?_)
      refine lv_aload_n hx hb dX4_waysEndingIn_35 rfl (lv_at hl 4 rfl) ?_
      refine va_get (D := (dC, dI)) (ci := 4) (v := .ref lw) (C := RX4) (T := TX4) (N := 1) hx hb hts hiX4 hown hK hP 0 rfl rfl 0 (by decide) (hts (.fieldLink RX4 9 "MadeItSo$Lookalikes" "waysOf" "[I") (by decide +kernel)) (fun _ h9 => h9) rfl dX4_waysEndingIn_36 ?_
      refine lv_iload_n hx hb dX4_waysEndingIn_39 rfl (lv_at hl 6 rfl) ?_
      refine lv_iload hx hb dX4_waysEndingIn_40 (lv_at hl 0 rfl) ?_
      refine lv_iconst (v := (-1)) hx hb dX4_waysEndingIn_42 (by decide +kernel) ?_
      refine lv_ixor hx hb dX4_waysEndingIn_43 ?_
      refine lv_iand hx hb dX4_waysEndingIn_44 ?_
      refine lv_sipush (v := 255) hx hb dX4_waysEndingIn_45 (by decide +kernel) ?_
      refine lv_iand hx hb dX4_waysEndingIn_48 ?_
      refine mz_ti (y := (nI (h0 - mz_dp p2 i_19))) (mz_hmc h0 hh0 _ (mz_dp_lt p2 i_19) hsb_) ?_
      refine va_iald hx hb hK hP 1 0 rfl rfl (vp_in_nI (by omega) (by omega)) dX4_waysEndingIn_49 ?_
      refine mz_ti (y := (fl (h0 - mz_dp p2 i_19))) (by rw [mz_cl (by omega)]) ?_
      refine mz_ti (y := (nI (NW (h0 - mz_dp p2 i_19)))) (htw _ (by omega)) ?_
      refine lv_istore (lv' := [(8, .int (nI (NW (h0 - mz_dp p2 i_19)))), (7, .int (nI (mz_dp p2 i_19))), (6, .int (nI i_19)), (5, .int (nI K_)), (4, .int x4_19), (0, .ref la), (1, .ref dr), (2, .int (nI h0)), (3, .int p2)]) hx hb dX4_waysEndingIn_50 hl (by decide) rfl (fun ls hl => ?_)
      refine lv_iload hx hb dX4_waysEndingIn_52 (lv_at hl 4 rfl) ?_
      refine lv_iload hx hb dX4_waysEndingIn_54 (lv_at hl 1 rfl) ?_
      have hPc := hP.sub (ws' := []) [] rfl
      refine va_calli (va_runS (As := [.int (nI (mz_dp p2 i_19))]) (rest := [.int x4_19]) ⟨hx, hb, hml, hown, hts⟩ (mz_f_bitCount l dC dI cI cJ cZ (nI (mz_dp p2 i_19)) s.heap mz_dp_b8) (va_cwS 1 hts gX4_waysEndingIn_J6_bitCount_0f7a4 rfl rfl rfl (by decide +kernel) ⟨Nat.le_of_ble_eq_true rfl, Nat.le_of_ble_eq_true rfl⟩) ⟨fun a U g mk q => mz_blP q, fun U hU hW => ⟨rfl, hU, hPc, va_K.moved hW.alike hK, mz_nw hW hN⟩⟩ rfl rfl hl.1 rfl (lv_room (Nat.le_of_ble_eq_true rfl)) dX4_waysEndingIn_56 ⟨Nat.le_of_ble_eq_true rfl, Nat.le_of_ble_eq_true rfl⟩) hS (fun q _ h => h.elim) (fun q h => h.elim) (fun r_56 u t H1 locs ht hvm hw_56 hB hz1 hk1 hS => ?_)
      have hE : s.heap = H1 := hB.symm.trans ht
      subst hE
      obtain rfl : r_56 = (nI (mz_pc (nI (mz_dp p2 i_19)) 8)) := hw_56
      refine lv_iconst (v := 1) hx hb dX4_waysEndingIn_59 (by decide +kernel) ?_
      refine lv_iand hx hb dX4_waysEndingIn_60 ?_
      refine lv_iconst (v := 1) hx hb dX4_waysEndingIn_61 (by decide +kernel) ?_
      refine lv_icmp_ne (tgt := 70) hx hb dX4_waysEndingIn_62 (by decide) (fun c_62 => ?_) (fun c_62 => ?_)
      · skip
        refine lv_iload hx hb dX4_waysEndingIn_70 (lv_at hl 0 rfl) ?_
        refine lv_ineg hx hb dX4_waysEndingIn_72 ?_
        refine lv_topi (fun v_72 ev_72 => ?_)
        refine lv_iadd hx hb dX4_waysEndingIn_73 ?_
        refine lv_istore (lv' := [(4, .int (x4_19 + v_72)), (8, .int (nI (NW (h0 - mz_dp p2 i_19)))), (7, .int (nI (mz_dp p2 i_19))), (6, .int (nI i_19)), (5, .int (nI K_)), (0, .ref la), (1, .ref dr), (2, .int (nI h0)), (3, .int p2)]) hx hb dX4_waysEndingIn_74 hl (by decide) rfl (fun ls hl => ?_)
        refine lv_iinc (v := (nI (i_19 + 1))) (lv' := [(6, .int (nI (i_19 + 1))), (4, .int (x4_19 + v_72)), (8, .int (nI (NW (h0 - mz_dp p2 i_19)))), (7, .int (nI (mz_dp p2 i_19))), (5, .int (nI K_)), (0, .ref la), (1, .ref dr), (2, .int (nI h0)), (3, .int p2)]) hx hb dX4_waysEndingIn_76 hl (k := 3) rfl (nI_1 _) (by decide) rfl (fun ls hl => ?_)
        refine lv_iload hx hb dX4_waysEndingIn_79 (lv_at hl 3 rfl) ?_
        refine lv_iload_n hx hb dX4_waysEndingIn_81 rfl (lv_at hl 8 rfl) ?_
        have hPc := hP.sub (ws' := []) [] rfl
        refine va_calli (va_runSN (As := [.int (nI (mz_dp p2 i_19)), .int p2]) (rest := []) ⟨hx, hb, hml, hown, hts⟩ (mz_k_nextPart l dC dI cI cJ cZ (nI (mz_dp p2 i_19)) p2 s.heap ) ⟨va_cnB (host := "MadeItSo") 2 hts gX4_waysEndingIn_X7_nextPart_n40 rfl rfl rfl (hN (RX4, 40, yX7_nextPart, "MadeItSo") (by decide +kernel)) (hts (.initialized RX7) (by decide +kernel)) (by decide +kernel) ⟨Nat.le_of_ble_eq_true rfl, Nat.le_of_ble_eq_true rfl⟩, hts (.static yX7_nextPart) (by decide +kernel), trivial⟩ ⟨fun a U g mk q => mz_blP q, fun U hU hW => ⟨rfl, hU, hPc, va_K.moved hW.alike hK, mz_nw hW hN⟩⟩ rfl rfl hl.1 rfl (lv_room (Nat.le_of_ble_eq_true rfl)) dX4_waysEndingIn_82 ⟨Nat.le_of_ble_eq_true rfl, Nat.le_of_ble_eq_true rfl⟩) hS (fun q _ h => h.elim) (fun q h => h.elim) (fun r_82 u t H1 locs ht hvm hw_82 hB hz1 hk1 hS => ?_)
        have hE : s.heap = H1 := hB.symm.trans ht
        subst hE
        obtain rfl : r_82 = (((nI (mz_dp p2 i_19)) - p2) &&& p2) := hw_82
        refine lv_istore (lv' := [(7, .int (((nI (mz_dp p2 i_19)) - p2) &&& p2)), (6, .int (nI (i_19 + 1))), (4, .int (x4_19 + v_72)), (8, .int (nI (NW (h0 - mz_dp p2 i_19)))), (5, .int (nI K_)), (0, .ref la), (1, .ref dr), (2, .int (nI h0)), (3, .int p2)]) hx hb dX4_waysEndingIn_85 hl (by decide) rfl (fun ls hl => ?_)
        refine lv_goto (tgt := 19) hx hb dX4_waysEndingIn_87 (by decide) ?_
        exact ih_19 _ (by omega) _ _ _ ⟨(i_19 + 1), (((nI (mz_dp p2 i_19)) - p2) &&& p2), (x4_19 + v_72), by omega, (by first | assumption | omega), (mz_nxt hx8 (by rw [← hK_]; omega)), (mz_EE_e hs_19 (by omega) hc_29 (fun h9 => c_62 (mz_odd.mpr h9)) ev_72), rfl, hS, lv_sub hl [0, 1, 4, 2, 5, 6, 7, 8] rfl, rfl⟩
      · skip
        refine lv_iload hx hb dX4_waysEndingIn_65 (lv_at hl 0 rfl) ?_
        refine lv_goto (tgt := 73) hx hb dX4_waysEndingIn_67 (by decide) ?_
        refine lv_iadd hx hb dX4_waysEndingIn_73 ?_
        refine lv_istore (lv' := [(4, .int (x4_19 + (nI (NW (h0 - mz_dp p2 i_19))))), (8, .int (nI (NW (h0 - mz_dp p2 i_19)))), (7, .int (nI (mz_dp p2 i_19))), (6, .int (nI i_19)), (5, .int (nI K_)), (0, .ref la), (1, .ref dr), (2, .int (nI h0)), (3, .int p2)]) hx hb dX4_waysEndingIn_74 hl (by decide) rfl (fun ls hl => ?_)
        refine lv_iinc (v := (nI (i_19 + 1))) (lv' := [(6, .int (nI (i_19 + 1))), (4, .int (x4_19 + (nI (NW (h0 - mz_dp p2 i_19))))), (8, .int (nI (NW (h0 - mz_dp p2 i_19)))), (7, .int (nI (mz_dp p2 i_19))), (5, .int (nI K_)), (0, .ref la), (1, .ref dr), (2, .int (nI h0)), (3, .int p2)]) hx hb dX4_waysEndingIn_76 hl (k := 3) rfl (nI_1 _) (by decide) rfl (fun ls hl => ?_)
        refine lv_iload hx hb dX4_waysEndingIn_79 (lv_at hl 3 rfl) ?_
        refine lv_iload_n hx hb dX4_waysEndingIn_81 rfl (lv_at hl 8 rfl) ?_
        have hPc := hP.sub (ws' := []) [] rfl
        refine va_calli (va_runSN (As := [.int (nI (mz_dp p2 i_19)), .int p2]) (rest := []) ⟨hx, hb, hml, hown, hts⟩ (mz_k_nextPart l dC dI cI cJ cZ (nI (mz_dp p2 i_19)) p2 s.heap ) ⟨va_cnB (host := "MadeItSo") 2 hts gX4_waysEndingIn_X7_nextPart_n40 rfl rfl rfl (hN (RX4, 40, yX7_nextPart, "MadeItSo") (by decide +kernel)) (hts (.initialized RX7) (by decide +kernel)) (by decide +kernel) ⟨Nat.le_of_ble_eq_true rfl, Nat.le_of_ble_eq_true rfl⟩, hts (.static yX7_nextPart) (by decide +kernel), trivial⟩ ⟨fun a U g mk q => mz_blP q, fun U hU hW => ⟨rfl, hU, hPc, va_K.moved hW.alike hK, mz_nw hW hN⟩⟩ rfl rfl hl.1 rfl (lv_room (Nat.le_of_ble_eq_true rfl)) dX4_waysEndingIn_82 ⟨Nat.le_of_ble_eq_true rfl, Nat.le_of_ble_eq_true rfl⟩) hS (fun q _ h => h.elim) (fun q h => h.elim) (fun r_82 u t H1 locs ht hvm hw_82 hB hz1 hk1 hS => ?_)
        have hE : s.heap = H1 := hB.symm.trans ht
        subst hE
        obtain rfl : r_82 = (((nI (mz_dp p2 i_19)) - p2) &&& p2) := hw_82
        refine lv_istore (lv' := [(7, .int (((nI (mz_dp p2 i_19)) - p2) &&& p2)), (6, .int (nI (i_19 + 1))), (4, .int (x4_19 + (nI (NW (h0 - mz_dp p2 i_19))))), (8, .int (nI (NW (h0 - mz_dp p2 i_19)))), (5, .int (nI K_)), (0, .ref la), (1, .ref dr), (2, .int (nI h0)), (3, .int p2)]) hx hb dX4_waysEndingIn_85 hl (by decide) rfl (fun ls hl => ?_)
        refine lv_goto (tgt := 19) hx hb dX4_waysEndingIn_87 (by decide) ?_
        exact ih_19 _ (by omega) _ _ _ ⟨(i_19 + 1), (((nI (mz_dp p2 i_19)) - p2) &&& p2), (x4_19 + (nI (NW (h0 - mz_dp p2 i_19)))), by omega, (by first | assumption | omega), (mz_nxt hx8 (by rw [← hK_]; omega)), (mz_EE_o hs_19 (by omega) hc_29 (mz_odd.mp c_62)), rfl, hS, lv_sub hl [0, 1, 4, 2, 5, 6, 7, 8] rfl, rfl⟩
    · skip
      refine lv_if_eq (tgt := 76) hx hb dX4_waysEndingIn_32 (by decide) (fun _ => ?_) (fun c_32 => absurd (by decide +kernel) c_32)
      refine lv_iinc (v := (nI (i_19 + 1))) (lv' := [(6, .int (nI (i_19 + 1))), (7, .int (nI (mz_dp p2 i_19))), (5, .int (nI K_)), (4, .int x4_19), (0, .ref la), (1, .ref dr), (2, .int (nI h0)), (3, .int p2)]) hx hb dX4_waysEndingIn_76 hl (k := 1) rfl (nI_1 _) (by decide) rfl (fun ls hl => ?_)
      refine lv_iload hx hb dX4_waysEndingIn_79 (lv_at hl 1 rfl) ?_
      refine lv_iload_n hx hb dX4_waysEndingIn_81 rfl (lv_at hl 7 rfl) ?_
      have hPc := hP.sub (ws' := []) [] rfl
      refine va_calli (va_runSN (As := [.int (nI (mz_dp p2 i_19)), .int p2]) (rest := []) ⟨hx, hb, hml, hown, hts⟩ (mz_k_nextPart l dC dI cI cJ cZ (nI (mz_dp p2 i_19)) p2 s.heap ) ⟨va_cnB (host := "MadeItSo") 2 hts gX4_waysEndingIn_X7_nextPart_n40 rfl rfl rfl (hN (RX4, 40, yX7_nextPart, "MadeItSo") (by decide +kernel)) (hts (.initialized RX7) (by decide +kernel)) (by decide +kernel) ⟨Nat.le_of_ble_eq_true rfl, Nat.le_of_ble_eq_true rfl⟩, hts (.static yX7_nextPart) (by decide +kernel), trivial⟩ ⟨fun a U g mk q => mz_blP q, fun U hU hW => ⟨rfl, hU, hPc, va_K.moved hW.alike hK, mz_nw hW hN⟩⟩ rfl rfl hl.1 rfl (lv_room (Nat.le_of_ble_eq_true rfl)) dX4_waysEndingIn_82 ⟨Nat.le_of_ble_eq_true rfl, Nat.le_of_ble_eq_true rfl⟩) hS (fun q _ h => h.elim) (fun q h => h.elim) (fun r_82 u t H1 locs ht hvm hw_82 hB hz1 hk1 hS => ?_)
      have hE : s.heap = H1 := hB.symm.trans ht
      subst hE
      obtain rfl : r_82 = (((nI (mz_dp p2 i_19)) - p2) &&& p2) := hw_82
      refine lv_istore (lv' := [(7, .int (((nI (mz_dp p2 i_19)) - p2) &&& p2)), (6, .int (nI (i_19 + 1))), (5, .int (nI K_)), (4, .int x4_19), (0, .ref la), (1, .ref dr), (2, .int (nI h0)), (3, .int p2)]) hx hb dX4_waysEndingIn_85 hl (by decide) rfl (fun ls hl => ?_)
      refine lv_goto (tgt := 19) hx hb dX4_waysEndingIn_87 (by decide) ?_
      exact ih_19 _ (by omega) _ _ _ ⟨(i_19 + 1), (((nI (mz_dp p2 i_19)) - p2) &&& p2), x4_19, by omega, (by first | assumption | omega), (mz_nxt hx8 (by rw [← hK_]; omega)), (mz_EE_n hs_19 hc_29), rfl, hS, lv_sub hl [0, 1, 2, 3, 4, 5, 6, 7] rfl, rfl⟩
set_option maxHeartbeats 1000000 in
set_option maxRecDepth 100000 in
theorem mz_v_reckon0 (l : Launch) (dC : Nat → ClassId) (dI : Nat → Nat → Nat) (cI cJ cZ : ClassId) (la : Nat) (lw : Nat) (fl : Nat → Int32) (dr : Nat) (dp : Nat) (dc : Nat) (n : Nat) (fp : Nat → Int32) (fc : Nat → Int32) (sz : Nat) (hn : n ≤ 8) (hsy : ∀ a b, a < n → b < n → mz_t (mz_jo fp fc a) b = mz_t (mz_jo fp fc b) a) (hir : ∀ a, a < n → mz_t (mz_jo fp fc a) a = false) (hpn : ∀ k, k < n → mz_hp n (fp k)) : Met l yX4_reckon wsX4_reckon ({ frames := 5, cells := 0, slots := 0, locals := 111 }) (va_Pc [.ref la, .ref dr, .int (-1), .int (-1)] (fun U => U.heap.size = sz ∧ va_P (dC, dI) vwCl [(la, .inr (4, [.ref lw])), (lw, .inl (cI, 256, .inl fl)), (dr, .inr (2, [.ref dp, .ref dc, .int (nI n)])), (dp, .inl (cI, 8, .inl fp)), (dc, .inl (cI, 8, .inl fc))] U.heap ∧ va_K (dC, dI) vwCl [(cI, FieldType.int), (cJ, FieldType.long), (cZ, FieldType.boolean)] U ∧ va_D (fun _ => True) [(la, .inr (4, [.ref lw])), (lw, .inl (cI, 256, .inl fl)), (dr, .inr (2, [.ref dp, .ref dc, .int (nI n)])), (dp, .inl (cI, 8, .inl fp)), (dc, .inl (cI, 8, .inl fc))] ∧ mz_N U)) (va_Qi (fun (r : Int32) (_ : Unit) => r = (nI (mz_nuw n (mz_jo fp fc) (mz_V0 n fp fc) (nI (2 ^ n - 1))))) (fun _ t => ∃ (gl : Nat → Int32), va_P (dC, dI) vwCl [(la, .inr (4, [.ref lw])), (lw, .inl (cI, 256, .inl gl)), (dr, .inr (2, [.ref dp, .ref dc, .int (nI n)])), (dp, .inl (cI, 8, .inl fp)), (dc, .inl (cI, 8, .inl fc))] t.heap ∧ va_D (va_A [(la, .inr (4, [.ref lw])), (lw, .inl (cI, 256, .inl fl)), (dr, .inr (2, [.ref dp, .ref dc, .int (nI n)])), (dp, .inl (cI, 8, .inl fp)), (dc, .inl (cI, 8, .inl fc))] sz) [(la, .inr (4, [.ref lw])), (lw, .inl (cI, 256, .inl gl)), (dr, .inr (2, [.ref dp, .ref dc, .int (nI n)])), (dp, .inl (cI, 8, .inl fp)), (dc, .inl (cI, 8, .inl fc))]) (va_A [(la, .inr (4, [.ref lw])), (lw, .inl (cI, 256, .inl fl)), (dr, .inr (2, [.ref dp, .ref dc, .int (nI n)])), (dp, .inl (cI, 8, .inl fp)), (dc, .inl (cI, 8, .inl fc))] sz)) 0 0 (va_A [(la, .inr (4, [.ref lw])), (lw, .inl (cI, 256, .inl fl)), (dr, .inr (2, [.ref dp, .ref dc, .int (nI n)])), (dp, .inl (cI, 8, .inl fp)), (dc, .inl (cI, 8, .inl fc))] sz) := by
  refine Met.ofW (cc := cX4_reckon) (maxL := 7) (ret := (some .int)) (by decide) rfl ?_
  intro p e s m args below meth c s₁ B hml hv
  obtain ⟨rfl, hsz, hP, hK, hD0, hN⟩ := hv
  subst hsz
  have hx := B.exec
  have hb := B.bytes
  have hr := B.returns
  have hts := atoms_spec (ws := wsX4_reckon) B.pre
  have hown : s.vm.findClass RX4 = some m.cls := findClass_of_methodNamed B.named
  have hlocks := B.notSynchronized
  have hD := hD0.self (sz := s.heap.size)
  generalize hAe : va_A [(la, .inr (4, [.ref lw])), (lw, .inl (cI, 256, .inl fl)), (dr, .inr (2, [.ref dp, .ref dc, .int (nI n)])), (dp, .inl (cI, 8, .inl fp)), (dc, .inl (cI, 8, .inl fc))] s.heap.size = A at hD ⊢
  have hA : ∀ q : Nat, s.heap.size ≤ q → A q := fun q h => by rw [← hAe]; exact Or.inr h
  have hS : va_S A s.heap s.heap [] := va_S.rf
  have hiX4 : ∀ w ∈ u_ws RX4 TX4 1, w ∈ wsX4_reckon := by decide +kernel
  have hl := lv_entry ([.ref la, .ref dr, .int (-1), .int (-1)]) (n := 7) (Nat.le_of_ble_eq_true rfl)
  rw [lg_entry_eq]
  generalize (lg_sl ([.ref la, .ref dr, .int (-1), .int (-1)]) ++ List.replicate (7 - (lg_sl ([.ref la, .ref dr, .int (-1), .int (-1)])).length) Slot.unset).toArray = ls at hl ⊢
  have hl : lv_has ls 7 [(0, .ref la), (1, .ref dr), (2, .int (-1)), (3, .int (-1))] := hl
  obtain ⟨N2, hN2⟩ : ∃ k : Nat, k = 2 ^ n := ⟨_, rfl⟩
  have h2n : N2 ≤ 256 := by rw [hN2]; exact mz_2n hn
  have hN3 : 1 ≤ N2 := by rw [hN2]; exact Nat.two_pow_pos n
  refine lv_aload_n hx hb dX4_reckon_0 rfl (lv_at hl 1 rfl) ?_
  have hPc := hP.sub (ws' := [(dr, .inr (2, [.ref dp, .ref dc, .int (nI n)]))]) [2] rfl
  refine va_calli (va_runV (As := []) (rest := []) ⟨hx, hb, hml, hown, hts⟩ (mz_h_everything l dC dI cI cJ cZ dr dp dc n s.heap (by first | assumption | omega)) (cwV 0 hts gX4_reckon_X2_everything rfl rfl rfl (by decide +kernel) ⟨Nat.le_of_ble_eq_true rfl, Nat.le_of_ble_eq_true rfl⟩) ⟨fun a U g mk q => mz_blP q, va_recv hK hPc (ci := 2) (q0 := 0) rfl rfl, fun U hU hW => ⟨rfl, hU, hPc, va_K.moved hW.alike hK, mz_nw hW hN⟩⟩ rfl rfl hl.1 rfl (lv_room (Nat.le_of_ble_eq_true rfl)) dX4_reckon_1 ⟨Nat.le_of_ble_eq_true rfl, Nat.le_of_ble_eq_true rfl⟩) hS (fun q _ h => h.elim) (fun q h => h.elim) (fun r_1 u t H1 locs ht hvm hw_1 hB hz1 hk1 hS => ?_)
  have hE : s.heap = H1 := hB.symm.trans ht
  subst hE
  obtain rfl : r_1 = (nI (2 ^ n - 1)) := hw_1
  refine lv_sipush (v := 255) hx hb dX4_reckon_4 (by decide +kernel) ?_
  refine lv_iand hx hb dX4_reckon_7 ?_
  refine mz_ti (y := (nI (N2 - 1))) (by rw [hN2]; exact mz_a255 _ (by have h9 := mz_2n hn; omega)) ?_
  refine lv_istore (lv' := [(4, .int (nI (N2 - 1))), (0, .ref la), (1, .ref dr), (2, .int (-1)), (3, .int (-1))]) hx hb dX4_reckon_8 hl (by decide) rfl (fun ls hl => ?_)
  refine lv_aload_n hx hb dX4_reckon_10 rfl (lv_at hl 1 rfl) ?_
  refine va_get (D := (dC, dI)) (ci := 4) (v := .ref lw) (C := RX4) (T := TX4) (N := 1) hx hb hts hiX4 hown hK hP 0 rfl rfl 0 (by decide) (hts (.fieldLink RX4 9 "MadeItSo$Lookalikes" "waysOf" "[I") (by decide +kernel)) (fun _ h9 => h9) rfl dX4_reckon_11 ?_
  refine lv_iconst (v := 0) hx hb dX4_reckon_14 (by decide +kernel) ?_
  refine lv_iconst (v := 1) hx hb dX4_reckon_15 (by decide +kernel) ?_
  refine va_iast hx hb hK hP hD hS 1 0 rfl rfl (mz_in (by decide +kernel)) dX4_reckon_16 (fun H locs hP hD hS => ?_)
  rw [show (0 : Int32).toNatClampNeg = 0 by decide] at hP hD
  have hP : va_P (dC, dI) vwCl [(la, .inr (4, [.ref lw])), (lw, .inl (cI, 256, .inl (upd fl 0 1))), (dr, .inr (2, [.ref dp, .ref dc, .int (nI n)])), (dp, .inl (cI, 8, .inl fp)), (dc, .inl (cI, 8, .inl fc))] H := hP
  have hD : va_D A [(la, .inr (4, [.ref lw])), (lw, .inl (cI, 256, .inl (upd fl 0 1))), (dr, .inr (2, [.ref dp, .ref dc, .int (nI n)])), (dp, .inl (cI, 8, .inl fp)), (dc, .inl (cI, 8, .inl fc))] := hD
  refine lv_iconst (v := 1) hx hb dX4_reckon_17 (by decide +kernel) ?_
  refine lv_istore (lv' := [(5, .int 1), (4, .int (nI (N2 - 1))), (0, .ref la), (1, .ref dr), (2, .int (-1)), (3, .int (-1))]) hx hb dX4_reckon_18 hl (by decide) rfl (fun ls hl => ?_)
  refine mz_loopU (fun k H locs ls => ∃ (i_20 : Nat), ∃ (flw_20 : Nat → Int32), i_20 ≤ N2 ∧ (1 ≤ i_20) ∧ (mz_tw (fun q => mz_nuw n (mz_jo fp fc) (mz_V0 n fp fc) (nI q)) i_20 flw_20) ∧ va_P (dC, dI) vwCl [(la, .inr (4, [.ref lw])), (lw, .inl (cI, 256, .inl flw_20)), (dr, .inr (2, [.ref dp, .ref dc, .int (nI n)])), (dp, .inl (cI, 8, .inl fp)), (dc, .inl (cI, 8, .inl fc))] H ∧ va_D A [(la, .inr (4, [.ref lw])), (lw, .inl (cI, 256, .inl flw_20)), (dr, .inr (2, [.ref dp, .ref dc, .int (nI n)])), (dp, .inl (cI, 8, .inl fp)), (dc, .inl (cI, 8, .inl fc))] ∧ va_S A s.heap H locs ∧ lv_has ls 7 [(5, .int (nI i_20)), (4, .int (nI (N2 - 1))), (0, .ref la), (1, .ref dr), (2, .int (-1)), (3, .int (-1))] ∧ k = N2 - i_20) ?_ _ _ _ _ ⟨1, (upd fl 0 1), by omega, (by first | assumption | omega), (mz_tw_1 mz_nw_0), hP, hD, hS, lv_sub hl [0, 1, 2, 3, 4, 5] rfl, rfl⟩
  intro k_20 H locs ls hI_20 ih_20
  obtain ⟨i_20, flw_20, hi_20, h1_20, htw_20, hP, hD, hS, hl, hk_20⟩ := hI_20
  refine lv_iload hx hb dX4_reckon_20 (lv_at hl 0 rfl) ?_
  refine lv_iload hx hb dX4_reckon_22 (lv_at hl 1 rfl) ?_
  refine lv_icmp_gt (tgt := 82) hx hb dX4_reckon_24 (by decide) (fun c_24 => ?_) (fun c_24 => ?_)
  · skip
    have d_24 : N2 - 1 < i_20 := (nI_ltI (a := N2 - 1) (b := i_20) (by omega) (by omega)).mp c_24
    refine lv_aload_n hx hb dX4_reckon_82 rfl (lv_at hl 2 rfl) ?_
    refine va_get (D := (dC, dI)) (ci := 4) (v := .ref lw) (C := RX4) (T := TX4) (N := 1) hx hb hts hiX4 hown hK hP 0 rfl rfl 0 (by decide) (hts (.fieldLink RX4 9 "MadeItSo$Lookalikes" "waysOf" "[I") (by decide +kernel)) (fun _ h9 => h9) rfl dX4_reckon_83 ?_
    refine lv_iload hx hb dX4_reckon_86 (lv_at hl 1 rfl) ?_
    refine va_iald hx hb hK hP 1 0 rfl rfl (vp_in_nI (by omega) (by omega)) dX4_reckon_88 ?_
    refine mz_ti (y := (flw_20 (N2 - 1))) (by rw [mz_cl (by omega)]) ?_
    have hP9 := hP.sub (ws' := [(la, .inr (4, [.ref lw])), (lw, .inl (cI, 256, .inl flw_20)), (dr, .inr (2, [.ref dp, .ref dc, .int (nI n)])), (dp, .inl (cI, 8, .inl fp)), (dc, .inl (cI, 8, .inl fc))]) [0, 1, 2, 3, 4] rfl
    have hD9 := hD.sub (ws' := [(la, .inr (4, [.ref lw])), (lw, .inl (cI, 256, .inl flw_20)), (dr, .inr (2, [.ref dp, .ref dc, .int (nI n)])), (dp, .inl (cI, 8, .inl fp)), (dc, .inl (cI, 8, .inl fc))]) [0, 1, 2, 3, 4] (by decide) rfl
    refine W.widen (k := 0) (n := 0) (Nat.le_of_ble_eq_true rfl) (Nat.le_of_ble_eq_true rfl) ?_
    exact W.iret (v := (flw_20 (N2 - 1))) hx hb hr (fun t ht hW => ⟨⟨(flw_20 (N2 - 1)), (), rfl, (by rw [htw_20 (N2 - 1) (by omega), hN2]), flw_20, by rw [ht]; exact hP9, hD9⟩, hS.F ht⟩) hS.2.2 dX4_reckon_89
  · skip
    have d_24 : ¬ N2 - 1 < i_20 := fun h => c_24 ((nI_ltI (a := N2 - 1) (b := i_20) (by omega) (by omega)).mpr h)
    refine lv_aload_n hx hb dX4_reckon_27 rfl (lv_at hl 3 rfl) ?_
    refine lv_iload hx hb dX4_reckon_28 (lv_at hl 0 rfl) ?_
    have hPc := hP.sub (ws' := [(dr, .inr (2, [.ref dp, .ref dc, .int (nI n)])), (dp, .inl (cI, 8, .inl fp)), (dc, .inl (cI, 8, .inl fc))]) [2, 3, 4] rfl
    refine va_calli (va_runS (As := [.ref dr, .int (nI i_20)]) (rest := []) ⟨hx, hb, hml, hown, hts⟩ (mz_v_canBeLast l dC dI cI cJ cZ dr dp dc n fp fc (nI i_20) H (by first | assumption | omega) (by first | assumption | omega) (by first | assumption | omega) (mz_hp_of hn (by rw [← hN2]; omega))) (va_cwS 2 hts gX4_reckon_X4_canBeLast rfl rfl rfl (by decide +kernel) ⟨Nat.le_of_ble_eq_true rfl, Nat.le_of_ble_eq_true rfl⟩) ⟨fun a U g mk q => mz_blP q, fun U hU hW => ⟨rfl, hU, hPc, va_K.moved hW.alike hK, mz_nw hW hN⟩⟩ rfl rfl hl.1 rfl (lv_room (Nat.le_of_ble_eq_true rfl)) dX4_reckon_30 ⟨Nat.le_of_ble_eq_true rfl, Nat.le_of_ble_eq_true rfl⟩) hS (fun q _ h => h.elim) (fun q h => h.elim) (fun r_30 u t H1 locs ht hvm hw_30 hB hz1 hk1 hS => ?_)
    have hE : H = H1 := hB.symm.trans ht
    subst hE
    refine lv_istore (lv' := [(6, .int r_30), (5, .int (nI i_20)), (4, .int (nI (N2 - 1))), (0, .ref la), (1, .ref dr), (2, .int (-1)), (3, .int (-1))]) hx hb dX4_reckon_33 hl (by decide) rfl (fun ls hl => ?_)
    refine lv_iload_n hx hb dX4_reckon_35 rfl (lv_at hl 6 rfl) ?_
    refine lv_iconst (v := (-1)) hx hb dX4_reckon_36 (by decide +kernel) ?_
    refine lv_icmp_eq (tgt := 60) hx hb dX4_reckon_37 (by decide) (fun _ => ?_) (fun c_37 => absurd (by decide +kernel) c_37)
    have hla_ : ∀ k, k < 32 → (mz_t r_30 k = true ↔ k < n ∧ mz_t (nI i_20) k = true ∧ (mz_V0 n fp fc) k ((mz_jo fp fc k) &&& (nI i_20))) := (mz_la0 hw_30)
    have hi2_ : i_20 < 2 ^ n := (by rw [← hN2]; omega)
    refine lv_aload_n hx hb dX4_reckon_60 rfl (lv_at hl 3 rfl) ?_
    refine va_get (D := (dC, dI)) (ci := 4) (v := .ref lw) (C := RX4) (T := TX4) (N := 1) hx hb hts hiX4 hown hK hP 0 rfl rfl 0 (by decide) (hts (.fieldLink RX4 9 "MadeItSo$Lookalikes" "waysOf" "[I") (by decide +kernel)) (fun _ h9 => h9) rfl dX4_reckon_61 ?_
    refine lv_iload hx hb dX4_reckon_64 (lv_at hl 1 rfl) ?_
    refine lv_aload_n hx hb dX4_reckon_66 rfl (lv_at hl 3 rfl) ?_
    refine lv_aload_n hx hb dX4_reckon_67 rfl (lv_at hl 4 rfl) ?_
    refine lv_iload hx hb dX4_reckon_68 (lv_at hl 1 rfl) ?_
    refine lv_iload hx hb dX4_reckon_70 (lv_at hl 0 rfl) ?_
    have hPc := hP.sub (ws' := [(la, .inr (4, [.ref lw])), (lw, .inl (cI, 256, .inl flw_20)), (dr, .inr (2, [.ref dp, .ref dc, .int (nI n)])), (dp, .inl (cI, 8, .inl fp)), (dc, .inl (cI, 8, .inl fc))]) [0, 1, 2, 3, 4] rfl
    refine va_calli (va_runV (As := [.ref dr, .int (nI i_20), .int r_30]) (rest := [.int (nI i_20), .ref lw]) ⟨hx, hb, hml, hown, hts⟩ (mz_v_waysEndingIn l dC dI cI cJ cZ la lw flw_20 dr dp dc n fp fc i_20 r_30 (fun q => mz_nuw n (mz_jo fp fc) (mz_V0 n fp fc) (nI q)) H (by first | assumption | omega) (by first | assumption | omega) (by first | assumption | omega) (fun j9 hj9 hx9 => by have h9 := ((hla_ j9 hj9).mp hx9).1; omega) (fun j9 hj9 hx9 => ((hla_ j9 hj9).mp hx9).2.1) htw_20) (cwV 3 hts gX4_reckon_X4_waysEndingIn rfl rfl rfl (by decide +kernel) ⟨Nat.le_of_ble_eq_true rfl, Nat.le_of_ble_eq_true rfl⟩) ⟨fun a U g mk q => mz_blP q, va_recv hK hPc (ci := 4) (q0 := 0) rfl rfl, fun U hU hW => ⟨rfl, hU, hPc, va_K.moved hW.alike hK, mz_nw hW hN⟩⟩ rfl rfl hl.1 rfl (lv_room (Nat.le_of_ble_eq_true rfl)) dX4_reckon_72 ⟨Nat.le_of_ble_eq_true rfl, Nat.le_of_ble_eq_true rfl⟩) hS (fun q _ h => h.elim) (fun q h => h.elim) (fun r_72 u t H1 locs ht hvm hw_72 hB hz1 hk1 hS => ?_)
    have hE : H = H1 := hB.symm.trans ht
    subst hE
    obtain rfl : r_72 = (Int32.ofInt (mz_si (mz_EE n (mz_jo fp fc) (fun q => mz_nuw n (mz_jo fp fc) (mz_V0 n fp fc) (nI q)) i_20 r_30) (2 ^ (mz_pc r_30 8)))) := hw_72
    refine mz_ti (y := (nI (mz_nuw n (mz_jo fp fc) (mz_V0 n fp fc) (nI i_20)))) (mz_rk hn hsy hir hi2_ (by omega) hla_) ?_
    refine va_iast hx hb hK hP hD hS 1 0 rfl rfl (vp_in_nI (by omega) (by omega)) dX4_reckon_75 (fun H locs hP hD hS => ?_)
    rw [mz_cl (n := i_20) (by omega)] at hP hD
    have hP : va_P (dC, dI) vwCl [(la, .inr (4, [.ref lw])), (lw, .inl (cI, 256, .inl (upd flw_20 i_20 (nI (mz_nuw n (mz_jo fp fc) (mz_V0 n fp fc) (nI i_20)))))), (dr, .inr (2, [.ref dp, .ref dc, .int (nI n)])), (dp, .inl (cI, 8, .inl fp)), (dc, .inl (cI, 8, .inl fc))] H := hP
    have hD : va_D A [(la, .inr (4, [.ref lw])), (lw, .inl (cI, 256, .inl (upd flw_20 i_20 (nI (mz_nuw n (mz_jo fp fc) (mz_V0 n fp fc) (nI i_20)))))), (dr, .inr (2, [.ref dp, .ref dc, .int (nI n)])), (dp, .inl (cI, 8, .inl fp)), (dc, .inl (cI, 8, .inl fc))] := hD
    refine lv_iinc (v := (nI (i_20 + 1))) (lv' := [(5, .int (nI (i_20 + 1))), (6, .int r_30), (4, .int (nI (N2 - 1))), (0, .ref la), (1, .ref dr), (2, .int (-1)), (3, .int (-1))]) hx hb dX4_reckon_76 hl (k := 1) rfl (nI_1 _) (by decide) rfl (fun ls hl => ?_)
    refine lv_goto (tgt := 20) hx hb dX4_reckon_79 (by decide) ?_
    exact ih_20 _ (by omega) _ _ _ ⟨(i_20 + 1), (upd flw_20 i_20 (nI (mz_nuw n (mz_jo fp fc) (mz_V0 n fp fc) (nI i_20)))), by omega, (by first | assumption | omega), (mz_tw_s (NW := (fun q => mz_nuw n (mz_jo fp fc) (mz_V0 n fp fc) (nI q))) htw_20), hP, hD, hS, lv_sub hl [0, 2, 3, 4, 5, 6] rfl, rfl⟩
set_option maxHeartbeats 1000000 in
set_option maxRecDepth 100000 in
theorem mz_v_reckon1 (l : Launch) (dC : Nat → ClassId) (dI : Nat → Nat → Nat) (cI cJ cZ : ClassId) (la : Nat) (lw : Nat) (fl : Nat → Int32) (dr : Nat) (dp : Nat) (dc : Nat) (n : Nat) (fp : Nat → Int32) (fc : Nat → Int32) (a0 : Nat) (b0 : Nat) (sz : Nat) (hn : n ≤ 8) (hsy : ∀ a b, a < n → b < n → mz_t (mz_jo fp fc a) b = mz_t (mz_jo fp fc b) a) (hir : ∀ a, a < n → mz_t (mz_jo fp fc a) a = false) (hpn : ∀ k, k < n → mz_hp n (fp k)) (hia : a0 < n) (hib : b0 < n) (hjab : mz_t (mz_jo fp fc b0) a0 = true) : Met l yX4_reckon wsX4_reckon ({ frames := 5, cells := 0, slots := 0, locals := 111 }) (va_Pc [.ref la, .ref dr, .int (nI a0), .int (nI b0)] (fun U => U.heap.size = sz ∧ va_P (dC, dI) vwCl [(la, .inr (4, [.ref lw])), (lw, .inl (cI, 256, .inl fl)), (dr, .inr (2, [.ref dp, .ref dc, .int (nI n)])), (dp, .inl (cI, 8, .inl fp)), (dc, .inl (cI, 8, .inl fc))] U.heap ∧ va_K (dC, dI) vwCl [(cI, FieldType.int), (cJ, FieldType.long), (cZ, FieldType.boolean)] U ∧ va_D (fun _ => True) [(la, .inr (4, [.ref lw])), (lw, .inl (cI, 256, .inl fl)), (dr, .inr (2, [.ref dp, .ref dc, .int (nI n)])), (dp, .inl (cI, 8, .inl fp)), (dc, .inl (cI, 8, .inl fc))] ∧ mz_N U)) (va_Qi (fun (r : Int32) (_ : Unit) => r = (nI (mz_nuw n (mz_jo fp fc) (mz_V1 n fp fc a0 b0) (nI (2 ^ n - 1))))) (fun _ t => ∃ (gl : Nat → Int32), va_P (dC, dI) vwCl [(la, .inr (4, [.ref lw])), (lw, .inl (cI, 256, .inl gl)), (dr, .inr (2, [.ref dp, .ref dc, .int (nI n)])), (dp, .inl (cI, 8, .inl fp)), (dc, .inl (cI, 8, .inl fc))] t.heap ∧ va_D (va_A [(la, .inr (4, [.ref lw])), (lw, .inl (cI, 256, .inl fl)), (dr, .inr (2, [.ref dp, .ref dc, .int (nI n)])), (dp, .inl (cI, 8, .inl fp)), (dc, .inl (cI, 8, .inl fc))] sz) [(la, .inr (4, [.ref lw])), (lw, .inl (cI, 256, .inl gl)), (dr, .inr (2, [.ref dp, .ref dc, .int (nI n)])), (dp, .inl (cI, 8, .inl fp)), (dc, .inl (cI, 8, .inl fc))]) (va_A [(la, .inr (4, [.ref lw])), (lw, .inl (cI, 256, .inl fl)), (dr, .inr (2, [.ref dp, .ref dc, .int (nI n)])), (dp, .inl (cI, 8, .inl fp)), (dc, .inl (cI, 8, .inl fc))] sz)) 0 0 (va_A [(la, .inr (4, [.ref lw])), (lw, .inl (cI, 256, .inl fl)), (dr, .inr (2, [.ref dp, .ref dc, .int (nI n)])), (dp, .inl (cI, 8, .inl fp)), (dc, .inl (cI, 8, .inl fc))] sz) := by
  refine Met.ofW (cc := cX4_reckon) (maxL := 7) (ret := (some .int)) (by decide) rfl ?_
  intro p e s m args below meth c s₁ B hml hv
  obtain ⟨rfl, hsz, hP, hK, hD0, hN⟩ := hv
  subst hsz
  have hx := B.exec
  have hb := B.bytes
  have hr := B.returns
  have hts := atoms_spec (ws := wsX4_reckon) B.pre
  have hown : s.vm.findClass RX4 = some m.cls := findClass_of_methodNamed B.named
  have hlocks := B.notSynchronized
  have hD := hD0.self (sz := s.heap.size)
  generalize hAe : va_A [(la, .inr (4, [.ref lw])), (lw, .inl (cI, 256, .inl fl)), (dr, .inr (2, [.ref dp, .ref dc, .int (nI n)])), (dp, .inl (cI, 8, .inl fp)), (dc, .inl (cI, 8, .inl fc))] s.heap.size = A at hD ⊢
  have hA : ∀ q : Nat, s.heap.size ≤ q → A q := fun q h => by rw [← hAe]; exact Or.inr h
  have hS : va_S A s.heap s.heap [] := va_S.rf
  have hiX4 : ∀ w ∈ u_ws RX4 TX4 1, w ∈ wsX4_reckon := by decide +kernel
  have hl := lv_entry ([.ref la, .ref dr, .int (nI a0), .int (nI b0)]) (n := 7) (Nat.le_of_ble_eq_true rfl)
  rw [lg_entry_eq]
  generalize (lg_sl ([.ref la, .ref dr, .int (nI a0), .int (nI b0)]) ++ List.replicate (7 - (lg_sl ([.ref la, .ref dr, .int (nI a0), .int (nI b0)])).length) Slot.unset).toArray = ls at hl ⊢
  have hl : lv_has ls 7 [(0, .ref la), (1, .ref dr), (2, .int (nI a0)), (3, .int (nI b0))] := hl
  obtain ⟨N2, hN2⟩ : ∃ k : Nat, k = 2 ^ n := ⟨_, rfl⟩
  have h2n : N2 ≤ 256 := by rw [hN2]; exact mz_2n hn
  have hN3 : 1 ≤ N2 := by rw [hN2]; exact Nat.two_pow_pos n
  refine lv_aload_n hx hb dX4_reckon_0 rfl (lv_at hl 1 rfl) ?_
  have hPc := hP.sub (ws' := [(dr, .inr (2, [.ref dp, .ref dc, .int (nI n)]))]) [2] rfl
  refine va_calli (va_runV (As := []) (rest := []) ⟨hx, hb, hml, hown, hts⟩ (mz_h_everything l dC dI cI cJ cZ dr dp dc n s.heap (by first | assumption | omega)) (cwV 0 hts gX4_reckon_X2_everything rfl rfl rfl (by decide +kernel) ⟨Nat.le_of_ble_eq_true rfl, Nat.le_of_ble_eq_true rfl⟩) ⟨fun a U g mk q => mz_blP q, va_recv hK hPc (ci := 2) (q0 := 0) rfl rfl, fun U hU hW => ⟨rfl, hU, hPc, va_K.moved hW.alike hK, mz_nw hW hN⟩⟩ rfl rfl hl.1 rfl (lv_room (Nat.le_of_ble_eq_true rfl)) dX4_reckon_1 ⟨Nat.le_of_ble_eq_true rfl, Nat.le_of_ble_eq_true rfl⟩) hS (fun q _ h => h.elim) (fun q h => h.elim) (fun r_1 u t H1 locs ht hvm hw_1 hB hz1 hk1 hS => ?_)
  have hE : s.heap = H1 := hB.symm.trans ht
  subst hE
  obtain rfl : r_1 = (nI (2 ^ n - 1)) := hw_1
  refine lv_sipush (v := 255) hx hb dX4_reckon_4 (by decide +kernel) ?_
  refine lv_iand hx hb dX4_reckon_7 ?_
  refine mz_ti (y := (nI (N2 - 1))) (by rw [hN2]; exact mz_a255 _ (by have h9 := mz_2n hn; omega)) ?_
  refine lv_istore (lv' := [(4, .int (nI (N2 - 1))), (0, .ref la), (1, .ref dr), (2, .int (nI a0)), (3, .int (nI b0))]) hx hb dX4_reckon_8 hl (by decide) rfl (fun ls hl => ?_)
  refine lv_aload_n hx hb dX4_reckon_10 rfl (lv_at hl 1 rfl) ?_
  refine va_get (D := (dC, dI)) (ci := 4) (v := .ref lw) (C := RX4) (T := TX4) (N := 1) hx hb hts hiX4 hown hK hP 0 rfl rfl 0 (by decide) (hts (.fieldLink RX4 9 "MadeItSo$Lookalikes" "waysOf" "[I") (by decide +kernel)) (fun _ h9 => h9) rfl dX4_reckon_11 ?_
  refine lv_iconst (v := 0) hx hb dX4_reckon_14 (by decide +kernel) ?_
  refine lv_iconst (v := 1) hx hb dX4_reckon_15 (by decide +kernel) ?_
  refine va_iast hx hb hK hP hD hS 1 0 rfl rfl (mz_in (by decide +kernel)) dX4_reckon_16 (fun H locs hP hD hS => ?_)
  rw [show (0 : Int32).toNatClampNeg = 0 by decide] at hP hD
  have hP : va_P (dC, dI) vwCl [(la, .inr (4, [.ref lw])), (lw, .inl (cI, 256, .inl (upd fl 0 1))), (dr, .inr (2, [.ref dp, .ref dc, .int (nI n)])), (dp, .inl (cI, 8, .inl fp)), (dc, .inl (cI, 8, .inl fc))] H := hP
  have hD : va_D A [(la, .inr (4, [.ref lw])), (lw, .inl (cI, 256, .inl (upd fl 0 1))), (dr, .inr (2, [.ref dp, .ref dc, .int (nI n)])), (dp, .inl (cI, 8, .inl fp)), (dc, .inl (cI, 8, .inl fc))] := hD
  refine lv_iconst (v := 1) hx hb dX4_reckon_17 (by decide +kernel) ?_
  refine lv_istore (lv' := [(5, .int 1), (4, .int (nI (N2 - 1))), (0, .ref la), (1, .ref dr), (2, .int (nI a0)), (3, .int (nI b0))]) hx hb dX4_reckon_18 hl (by decide) rfl (fun ls hl => ?_)
  refine mz_loopU (fun k H locs ls => ∃ (i_20 : Nat), ∃ (flw_20 : Nat → Int32), i_20 ≤ N2 ∧ (1 ≤ i_20) ∧ (mz_tw (fun q => mz_nuw n (mz_jo fp fc) (mz_V1 n fp fc a0 b0) (nI q)) i_20 flw_20) ∧ va_P (dC, dI) vwCl [(la, .inr (4, [.ref lw])), (lw, .inl (cI, 256, .inl flw_20)), (dr, .inr (2, [.ref dp, .ref dc, .int (nI n)])), (dp, .inl (cI, 8, .inl fp)), (dc, .inl (cI, 8, .inl fc))] H ∧ va_D A [(la, .inr (4, [.ref lw])), (lw, .inl (cI, 256, .inl flw_20)), (dr, .inr (2, [.ref dp, .ref dc, .int (nI n)])), (dp, .inl (cI, 8, .inl fp)), (dc, .inl (cI, 8, .inl fc))] ∧ va_S A s.heap H locs ∧ lv_has ls 7 [(5, .int (nI i_20)), (4, .int (nI (N2 - 1))), (0, .ref la), (1, .ref dr), (2, .int (nI a0)), (3, .int (nI b0))] ∧ k = N2 - i_20) ?_ _ _ _ _ ⟨1, (upd fl 0 1), by omega, (by first | assumption | omega), (mz_tw_1 mz_nw_0), hP, hD, hS, lv_sub hl [0, 1, 2, 3, 4, 5] rfl, rfl⟩
  intro k_20 H locs ls hI_20 ih_20
  obtain ⟨i_20, flw_20, hi_20, h1_20, htw_20, hP, hD, hS, hl, hk_20⟩ := hI_20
  refine lv_iload hx hb dX4_reckon_20 (lv_at hl 0 rfl) ?_
  refine lv_iload hx hb dX4_reckon_22 (lv_at hl 1 rfl) ?_
  refine lv_icmp_gt (tgt := 82) hx hb dX4_reckon_24 (by decide) (fun c_24 => ?_) (fun c_24 => ?_)
  · skip
    have d_24 : N2 - 1 < i_20 := (nI_ltI (a := N2 - 1) (b := i_20) (by omega) (by omega)).mp c_24
    refine lv_aload_n hx hb dX4_reckon_82 rfl (lv_at hl 2 rfl) ?_
    refine va_get (D := (dC, dI)) (ci := 4) (v := .ref lw) (C := RX4) (T := TX4) (N := 1) hx hb hts hiX4 hown hK hP 0 rfl rfl 0 (by decide) (hts (.fieldLink RX4 9 "MadeItSo$Lookalikes" "waysOf" "[I") (by decide +kernel)) (fun _ h9 => h9) rfl dX4_reckon_83 ?_
    refine lv_iload hx hb dX4_reckon_86 (lv_at hl 1 rfl) ?_
    refine va_iald hx hb hK hP 1 0 rfl rfl (vp_in_nI (by omega) (by omega)) dX4_reckon_88 ?_
    refine mz_ti (y := (flw_20 (N2 - 1))) (by rw [mz_cl (by omega)]) ?_
    have hP9 := hP.sub (ws' := [(la, .inr (4, [.ref lw])), (lw, .inl (cI, 256, .inl flw_20)), (dr, .inr (2, [.ref dp, .ref dc, .int (nI n)])), (dp, .inl (cI, 8, .inl fp)), (dc, .inl (cI, 8, .inl fc))]) [0, 1, 2, 3, 4] rfl
    have hD9 := hD.sub (ws' := [(la, .inr (4, [.ref lw])), (lw, .inl (cI, 256, .inl flw_20)), (dr, .inr (2, [.ref dp, .ref dc, .int (nI n)])), (dp, .inl (cI, 8, .inl fp)), (dc, .inl (cI, 8, .inl fc))]) [0, 1, 2, 3, 4] (by decide) rfl
    refine W.widen (k := 0) (n := 0) (Nat.le_of_ble_eq_true rfl) (Nat.le_of_ble_eq_true rfl) ?_
    exact W.iret (v := (flw_20 (N2 - 1))) hx hb hr (fun t ht hW => ⟨⟨(flw_20 (N2 - 1)), (), rfl, (by rw [htw_20 (N2 - 1) (by omega), hN2]), flw_20, by rw [ht]; exact hP9, hD9⟩, hS.F ht⟩) hS.2.2 dX4_reckon_89
  · skip
    have d_24 : ¬ N2 - 1 < i_20 := fun h => c_24 ((nI_ltI (a := N2 - 1) (b := i_20) (by omega) (by omega)).mpr h)
    refine lv_aload_n hx hb dX4_reckon_27 rfl (lv_at hl 3 rfl) ?_
    refine lv_iload hx hb dX4_reckon_28 (lv_at hl 0 rfl) ?_
    have hPc := hP.sub (ws' := [(dr, .inr (2, [.ref dp, .ref dc, .int (nI n)])), (dp, .inl (cI, 8, .inl fp)), (dc, .inl (cI, 8, .inl fc))]) [2, 3, 4] rfl
    refine va_calli (va_runS (As := [.ref dr, .int (nI i_20)]) (rest := []) ⟨hx, hb, hml, hown, hts⟩ (mz_v_canBeLast l dC dI cI cJ cZ dr dp dc n fp fc (nI i_20) H (by first | assumption | omega) (by first | assumption | omega) (by first | assumption | omega) (mz_hp_of hn (by rw [← hN2]; omega))) (va_cwS 2 hts gX4_reckon_X4_canBeLast rfl rfl rfl (by decide +kernel) ⟨Nat.le_of_ble_eq_true rfl, Nat.le_of_ble_eq_true rfl⟩) ⟨fun a U g mk q => mz_blP q, fun U hU hW => ⟨rfl, hU, hPc, va_K.moved hW.alike hK, mz_nw hW hN⟩⟩ rfl rfl hl.1 rfl (lv_room (Nat.le_of_ble_eq_true rfl)) dX4_reckon_30 ⟨Nat.le_of_ble_eq_true rfl, Nat.le_of_ble_eq_true rfl⟩) hS (fun q _ h => h.elim) (fun q h => h.elim) (fun r_30 u t H1 locs ht hvm hw_30 hB hz1 hk1 hS => ?_)
    have hE : H = H1 := hB.symm.trans ht
    subst hE
    refine lv_istore (lv' := [(6, .int r_30), (5, .int (nI i_20)), (4, .int (nI (N2 - 1))), (0, .ref la), (1, .ref dr), (2, .int (nI a0)), (3, .int (nI b0))]) hx hb dX4_reckon_33 hl (by decide) rfl (fun ls hl => ?_)
    refine lv_iload_n hx hb dX4_reckon_35 rfl (lv_at hl 6 rfl) ?_
    refine lv_iconst (v := (-1)) hx hb dX4_reckon_36 (by decide +kernel) ?_
    refine lv_icmp_eq (tgt := 60) hx hb dX4_reckon_37 (by decide) (fun c_37 => absurd c_37 (mz_ne1 (by omega))) (fun _ => ?_)
    refine lv_iload hx hb dX4_reckon_40 (lv_at hl 1 rfl) ?_
    refine lv_iload_n hx hb dX4_reckon_42 rfl (lv_at hl 5 rfl) ?_
    have hPc := hP.sub (ws' := []) [] rfl
    refine va_calli (va_runSN (As := [.int (nI i_20), .int (nI a0)]) (rest := []) ⟨hx, hb, hml, hown, hts⟩ (mz_e_inHeap l dC dI cI cJ cZ (nI i_20) a0 H (by first | assumption | omega)) ⟨va_cnB (host := "MadeItSo") 2 hts gX4_reckon_X7_inHeap_n25 rfl rfl rfl (hN (RX4, 25, yX7_inHeap, "MadeItSo") (by decide +kernel)) (hts (.initialized RX7) (by decide +kernel)) (by decide +kernel) ⟨Nat.le_of_ble_eq_true rfl, Nat.le_of_ble_eq_true rfl⟩, hts (.static yX7_inHeap) (by decide +kernel), trivial⟩ ⟨fun a U g mk q => mz_blP q, fun U hU hW => ⟨rfl, hU, hPc, va_K.moved hW.alike hK, mz_nw hW hN⟩⟩ rfl rfl hl.1 rfl (lv_room (Nat.le_of_ble_eq_true rfl)) dX4_reckon_43 ⟨Nat.le_of_ble_eq_true rfl, Nat.le_of_ble_eq_true rfl⟩) hS (fun q _ h => h.elim) (fun q h => h.elim) (fun r_43 u t H1 locs ht hvm hw_43 hB hz1 hk1 hS => ?_)
    have hE : H = H1 := hB.symm.trans ht
    subst hE
    rcases (show (r_43 = 1 ∧ mz_t (nI i_20) a0 = true) ∨ (r_43 = 0 ∧ mz_t (nI i_20) a0 = false) from hw_43) with ⟨rfl, ht_43⟩ | ⟨rfl, ht_43⟩
    · skip
      refine lv_if_ne (tgt := 60) hx hb dX4_reckon_46 (by decide) (fun _ => ?_) (fun c_46 => absurd c_46 (by decide +kernel))
      have hla_ : ∀ k, k < 32 → (mz_t r_30 k = true ↔ k < n ∧ mz_t (nI i_20) k = true ∧ (mz_V1 n fp fc a0 b0) k ((mz_jo fp fc k) &&& (nI i_20))) := (mz_la1y hw_30 hjab ht_43)
      have hi2_ : i_20 < 2 ^ n := (by rw [← hN2]; omega)
      refine lv_aload_n hx hb dX4_reckon_60 rfl (lv_at hl 3 rfl) ?_
      refine va_get (D := (dC, dI)) (ci := 4) (v := .ref lw) (C := RX4) (T := TX4) (N := 1) hx hb hts hiX4 hown hK hP 0 rfl rfl 0 (by decide) (hts (.fieldLink RX4 9 "MadeItSo$Lookalikes" "waysOf" "[I") (by decide +kernel)) (fun _ h9 => h9) rfl dX4_reckon_61 ?_
      refine lv_iload hx hb dX4_reckon_64 (lv_at hl 1 rfl) ?_
      refine lv_aload_n hx hb dX4_reckon_66 rfl (lv_at hl 3 rfl) ?_
      refine lv_aload_n hx hb dX4_reckon_67 rfl (lv_at hl 4 rfl) ?_
      refine lv_iload hx hb dX4_reckon_68 (lv_at hl 1 rfl) ?_
      refine lv_iload hx hb dX4_reckon_70 (lv_at hl 0 rfl) ?_
      have hPc := hP.sub (ws' := [(la, .inr (4, [.ref lw])), (lw, .inl (cI, 256, .inl flw_20)), (dr, .inr (2, [.ref dp, .ref dc, .int (nI n)])), (dp, .inl (cI, 8, .inl fp)), (dc, .inl (cI, 8, .inl fc))]) [0, 1, 2, 3, 4] rfl
      refine va_calli (va_runV (As := [.ref dr, .int (nI i_20), .int r_30]) (rest := [.int (nI i_20), .ref lw]) ⟨hx, hb, hml, hown, hts⟩ (mz_v_waysEndingIn l dC dI cI cJ cZ la lw flw_20 dr dp dc n fp fc i_20 r_30 (fun q => mz_nuw n (mz_jo fp fc) (mz_V1 n fp fc a0 b0) (nI q)) H (by first | assumption | omega) (by first | assumption | omega) (by first | assumption | omega) (fun j9 hj9 hx9 => by have h9 := ((hla_ j9 hj9).mp hx9).1; omega) (fun j9 hj9 hx9 => ((hla_ j9 hj9).mp hx9).2.1) htw_20) (cwV 3 hts gX4_reckon_X4_waysEndingIn rfl rfl rfl (by decide +kernel) ⟨Nat.le_of_ble_eq_true rfl, Nat.le_of_ble_eq_true rfl⟩) ⟨fun a U g mk q => mz_blP q, va_recv hK hPc (ci := 4) (q0 := 0) rfl rfl, fun U hU hW => ⟨rfl, hU, hPc, va_K.moved hW.alike hK, mz_nw hW hN⟩⟩ rfl rfl hl.1 rfl (lv_room (Nat.le_of_ble_eq_true rfl)) dX4_reckon_72 ⟨Nat.le_of_ble_eq_true rfl, Nat.le_of_ble_eq_true rfl⟩) hS (fun q _ h => h.elim) (fun q h => h.elim) (fun r_72 u t H1 locs ht hvm hw_72 hB hz1 hk1 hS => ?_)
      have hE : H = H1 := hB.symm.trans ht
      subst hE
      obtain rfl : r_72 = (Int32.ofInt (mz_si (mz_EE n (mz_jo fp fc) (fun q => mz_nuw n (mz_jo fp fc) (mz_V1 n fp fc a0 b0) (nI q)) i_20 r_30) (2 ^ (mz_pc r_30 8)))) := hw_72
      refine mz_ti (y := (nI (mz_nuw n (mz_jo fp fc) (mz_V1 n fp fc a0 b0) (nI i_20)))) (mz_rk hn hsy hir hi2_ (by omega) hla_) ?_
      refine va_iast hx hb hK hP hD hS 1 0 rfl rfl (vp_in_nI (by omega) (by omega)) dX4_reckon_75 (fun H locs hP hD hS => ?_)
      rw [mz_cl (n := i_20) (by omega)] at hP hD
      have hP : va_P (dC, dI) vwCl [(la, .inr (4, [.ref lw])), (lw, .inl (cI, 256, .inl (upd flw_20 i_20 (nI (mz_nuw n (mz_jo fp fc) (mz_V1 n fp fc a0 b0) (nI i_20)))))), (dr, .inr (2, [.ref dp, .ref dc, .int (nI n)])), (dp, .inl (cI, 8, .inl fp)), (dc, .inl (cI, 8, .inl fc))] H := hP
      have hD : va_D A [(la, .inr (4, [.ref lw])), (lw, .inl (cI, 256, .inl (upd flw_20 i_20 (nI (mz_nuw n (mz_jo fp fc) (mz_V1 n fp fc a0 b0) (nI i_20)))))), (dr, .inr (2, [.ref dp, .ref dc, .int (nI n)])), (dp, .inl (cI, 8, .inl fp)), (dc, .inl (cI, 8, .inl fc))] := hD
      refine lv_iinc (v := (nI (i_20 + 1))) (lv' := [(5, .int (nI (i_20 + 1))), (6, .int r_30), (4, .int (nI (N2 - 1))), (0, .ref la), (1, .ref dr), (2, .int (nI a0)), (3, .int (nI b0))]) hx hb dX4_reckon_76 hl (k := 1) rfl (nI_1 _) (by decide) rfl (fun ls hl => ?_)
      refine lv_goto (tgt := 20) hx hb dX4_reckon_79 (by decide) ?_
      exact ih_20 _ (by omega) _ _ _ ⟨(i_20 + 1), (upd flw_20 i_20 (nI (mz_nuw n (mz_jo fp fc) (mz_V1 n fp fc a0 b0) (nI i_20)))), by omega, (by first | assumption | omega), (mz_tw_s (NW := (fun q => mz_nuw n (mz_jo fp fc) (mz_V1 n fp fc a0 b0) (nI q))) htw_20), hP, hD, hS, lv_sub hl [0, 2, 3, 4, 5, 6] rfl, rfl⟩
    · skip
      refine lv_if_ne (tgt := 60) hx hb dX4_reckon_46 (by decide) (fun c_46 => absurd (by decide +kernel) c_46) (fun _ => ?_)
      refine lv_iload hx hb dX4_reckon_49 (lv_at hl 0 rfl) ?_
      refine lv_iload_n hx hb dX4_reckon_51 rfl (lv_at hl 6 rfl) ?_
      have hPc := hP.sub (ws' := []) [] rfl
      refine va_calli (va_runSN (As := [.int (nI b0)]) (rest := [.int r_30]) ⟨hx, hb, hml, hown, hts⟩ (mz_g_bit l dC dI cI cJ cZ (nI b0) H ) ⟨va_cnB (host := "MadeItSo") 1 hts gX4_reckon_X7_bit_n29 rfl rfl rfl (hN (RX4, 29, yX7_bit, "MadeItSo") (by decide +kernel)) (hts (.initialized RX7) (by decide +kernel)) (by decide +kernel) ⟨Nat.le_of_ble_eq_true rfl, Nat.le_of_ble_eq_true rfl⟩, hts (.static yX7_bit) (by decide +kernel), trivial⟩ ⟨fun a U g mk q => mz_blP q, fun U hU hW => ⟨rfl, hU, hPc, va_K.moved hW.alike hK, mz_nw hW hN⟩⟩ rfl rfl hl.1 rfl (lv_room (Nat.le_of_ble_eq_true rfl)) dX4_reckon_52 ⟨Nat.le_of_ble_eq_true rfl, Nat.le_of_ble_eq_true rfl⟩) hS (fun q _ h => h.elim) (fun q h => h.elim) (fun r_52 u t H1 locs ht hvm hw_52 hB hz1 hk1 hS => ?_)
      have hE : H = H1 := hB.symm.trans ht
      subst hE
      obtain rfl : r_52 = (1 <<< ((nI b0) &&& 31)) := hw_52
      refine lv_iconst (v := (-1)) hx hb dX4_reckon_55 (by decide +kernel) ?_
      refine lv_ixor hx hb dX4_reckon_56 ?_
      refine lv_iand hx hb dX4_reckon_57 ?_
      refine lv_istore (lv' := [(6, .int (r_30 &&& ((1 <<< ((nI b0) &&& 31)) ^^^ (-1)))), (5, .int (nI i_20)), (4, .int (nI (N2 - 1))), (0, .ref la), (1, .ref dr), (2, .int (nI a0)), (3, .int (nI b0))]) hx hb dX4_reckon_58 hl (by decide) rfl (fun ls hl => ?_)
      have hla_ : ∀ k, k < 32 → (mz_t (r_30 &&& ((1 <<< ((nI b0) &&& 31)) ^^^ (-1))) k = true ↔ k < n ∧ mz_t (nI i_20) k = true ∧ (mz_V1 n fp fc a0 b0) k ((mz_jo fp fc k) &&& (nI i_20))) := (mz_la1n (by omega) hw_30 ht_43)
      have hi2_ : i_20 < 2 ^ n := (by rw [← hN2]; omega)
      refine lv_aload_n hx hb dX4_reckon_60 rfl (lv_at hl 3 rfl) ?_
      refine va_get (D := (dC, dI)) (ci := 4) (v := .ref lw) (C := RX4) (T := TX4) (N := 1) hx hb hts hiX4 hown hK hP 0 rfl rfl 0 (by decide) (hts (.fieldLink RX4 9 "MadeItSo$Lookalikes" "waysOf" "[I") (by decide +kernel)) (fun _ h9 => h9) rfl dX4_reckon_61 ?_
      refine lv_iload hx hb dX4_reckon_64 (lv_at hl 1 rfl) ?_
      refine lv_aload_n hx hb dX4_reckon_66 rfl (lv_at hl 3 rfl) ?_
      refine lv_aload_n hx hb dX4_reckon_67 rfl (lv_at hl 4 rfl) ?_
      refine lv_iload hx hb dX4_reckon_68 (lv_at hl 1 rfl) ?_
      refine lv_iload hx hb dX4_reckon_70 (lv_at hl 0 rfl) ?_
      have hPc := hP.sub (ws' := [(la, .inr (4, [.ref lw])), (lw, .inl (cI, 256, .inl flw_20)), (dr, .inr (2, [.ref dp, .ref dc, .int (nI n)])), (dp, .inl (cI, 8, .inl fp)), (dc, .inl (cI, 8, .inl fc))]) [0, 1, 2, 3, 4] rfl
      refine va_calli (va_runV (As := [.ref dr, .int (nI i_20), .int (r_30 &&& ((1 <<< ((nI b0) &&& 31)) ^^^ (-1)))]) (rest := [.int (nI i_20), .ref lw]) ⟨hx, hb, hml, hown, hts⟩ (mz_v_waysEndingIn l dC dI cI cJ cZ la lw flw_20 dr dp dc n fp fc i_20 (r_30 &&& ((1 <<< ((nI b0) &&& 31)) ^^^ (-1))) (fun q => mz_nuw n (mz_jo fp fc) (mz_V1 n fp fc a0 b0) (nI q)) H (by first | assumption | omega) (by first | assumption | omega) (by first | assumption | omega) (fun j9 hj9 hx9 => by have h9 := ((hla_ j9 hj9).mp hx9).1; omega) (fun j9 hj9 hx9 => ((hla_ j9 hj9).mp hx9).2.1) htw_20) (cwV 3 hts gX4_reckon_X4_waysEndingIn rfl rfl rfl (by decide +kernel) ⟨Nat.le_of_ble_eq_true rfl, Nat.le_of_ble_eq_true rfl⟩) ⟨fun a U g mk q => mz_blP q, va_recv hK hPc (ci := 4) (q0 := 0) rfl rfl, fun U hU hW => ⟨rfl, hU, hPc, va_K.moved hW.alike hK, mz_nw hW hN⟩⟩ rfl rfl hl.1 rfl (lv_room (Nat.le_of_ble_eq_true rfl)) dX4_reckon_72 ⟨Nat.le_of_ble_eq_true rfl, Nat.le_of_ble_eq_true rfl⟩) hS (fun q _ h => h.elim) (fun q h => h.elim) (fun r_72 u t H1 locs ht hvm hw_72 hB hz1 hk1 hS => ?_)
      have hE : H = H1 := hB.symm.trans ht
      subst hE
      obtain rfl : r_72 = (Int32.ofInt (mz_si (mz_EE n (mz_jo fp fc) (fun q => mz_nuw n (mz_jo fp fc) (mz_V1 n fp fc a0 b0) (nI q)) i_20 (r_30 &&& ((1 <<< ((nI b0) &&& 31)) ^^^ (-1)))) (2 ^ (mz_pc (r_30 &&& ((1 <<< ((nI b0) &&& 31)) ^^^ (-1))) 8)))) := hw_72
      refine mz_ti (y := (nI (mz_nuw n (mz_jo fp fc) (mz_V1 n fp fc a0 b0) (nI i_20)))) (mz_rk hn hsy hir hi2_ (by omega) hla_) ?_
      refine va_iast hx hb hK hP hD hS 1 0 rfl rfl (vp_in_nI (by omega) (by omega)) dX4_reckon_75 (fun H locs hP hD hS => ?_)
      rw [mz_cl (n := i_20) (by omega)] at hP hD
      have hP : va_P (dC, dI) vwCl [(la, .inr (4, [.ref lw])), (lw, .inl (cI, 256, .inl (upd flw_20 i_20 (nI (mz_nuw n (mz_jo fp fc) (mz_V1 n fp fc a0 b0) (nI i_20)))))), (dr, .inr (2, [.ref dp, .ref dc, .int (nI n)])), (dp, .inl (cI, 8, .inl fp)), (dc, .inl (cI, 8, .inl fc))] H := hP
      have hD : va_D A [(la, .inr (4, [.ref lw])), (lw, .inl (cI, 256, .inl (upd flw_20 i_20 (nI (mz_nuw n (mz_jo fp fc) (mz_V1 n fp fc a0 b0) (nI i_20)))))), (dr, .inr (2, [.ref dp, .ref dc, .int (nI n)])), (dp, .inl (cI, 8, .inl fp)), (dc, .inl (cI, 8, .inl fc))] := hD
      refine lv_iinc (v := (nI (i_20 + 1))) (lv' := [(5, .int (nI (i_20 + 1))), (6, .int (r_30 &&& ((1 <<< ((nI b0) &&& 31)) ^^^ (-1)))), (4, .int (nI (N2 - 1))), (0, .ref la), (1, .ref dr), (2, .int (nI a0)), (3, .int (nI b0))]) hx hb dX4_reckon_76 hl (k := 1) rfl (nI_1 _) (by decide) rfl (fun ls hl => ?_)
      refine lv_goto (tgt := 20) hx hb dX4_reckon_79 (by decide) ?_
      exact ih_20 _ (by omega) _ _ _ ⟨(i_20 + 1), (upd flw_20 i_20 (nI (mz_nuw n (mz_jo fp fc) (mz_V1 n fp fc a0 b0) (nI i_20)))), by omega, (by first | assumption | omega), (mz_tw_s (NW := (fun q => mz_nuw n (mz_jo fp fc) (mz_V1 n fp fc a0 b0) (nI q))) htw_20), hP, hD, hS, lv_sub hl [0, 2, 3, 4, 5, 6] rfl, rfl⟩
set_option maxHeartbeats 1000000 in
set_option maxRecDepth 100000 in
theorem mz_v_x_alike (l : Launch) (dC : Nat → ClassId) (dI : Nat → Nat → Nat) (cI cJ cZ : ClassId) (mx : Nat) (dr : Nat) (th : Nat) (bk : Nat) (wt : Nat) (tt : Nat) (lh : Nat) (la : Nat) (sh : Int32) (ab : Int64) (be : Int64) (dp : Nat) (dc : Nat) (n : Nat) (fp : Nat → Int32) (fc : Nat → Int32) (lw : Nat) (fl : Nat → Int32) (sz : Nat) (hn : n ≤ 8) (hsy : ∀ a b, a < n → b < n → mz_t (mz_jo fp fc a) b = mz_t (mz_jo fp fc b) a) (hir : ∀ a, a < n → mz_t (mz_jo fp fc a) a = false) (hpn : ∀ k, k < n → mz_hp n (fp k)) : Met l yX7_alike wsX7_alike ({ frames := 6, cells := 0, slots := 0, locals := 137 }) (va_Pc [.ref mx] (fun U => U.heap.size = sz ∧ va_P (dC, dI) vwCl [(mx, .inr (7, [.ref dr, .ref th, .ref bk, .ref wt, .ref tt, .ref lh, .ref la, .int sh, .long ab, .long be])), (dr, .inr (2, [.ref dp, .ref dc, .int (nI n)])), (dp, .inl (cI, 8, .inl fp)), (dc, .inl (cI, 8, .inl fc)), (la, .inr (4, [.ref lw])), (lw, .inl (cI, 256, .inl fl))] U.heap ∧ va_K (dC, dI) vwCl [(cI, FieldType.int), (cJ, FieldType.long), (cZ, FieldType.boolean)] U ∧ va_D (fun _ => True) [(mx, .inr (7, [.ref dr, .ref th, .ref bk, .ref wt, .ref tt, .ref lh, .ref la, .int sh, .long ab, .long be])), (dr, .inr (2, [.ref dp, .ref dc, .int (nI n)])), (dp, .inl (cI, 8, .inl fp)), (dc, .inl (cI, 8, .inl fc)), (la, .inr (4, [.ref lw])), (lw, .inl (cI, 256, .inl fl))] ∧ mz_N U)) (va_Qi (fun (r : Int32) (_ : Unit) => r = (nI (mz_nuw n (mz_jo fp fc) (mz_V0 n fp fc) (nI (2 ^ n - 1))))) (fun _ t => ∃ (gl : Nat → Int32), va_P (dC, dI) vwCl [(mx, .inr (7, [.ref dr, .ref th, .ref bk, .ref wt, .ref tt, .ref lh, .ref la, .int sh, .long ab, .long be])), (dr, .inr (2, [.ref dp, .ref dc, .int (nI n)])), (dp, .inl (cI, 8, .inl fp)), (dc, .inl (cI, 8, .inl fc)), (la, .inr (4, [.ref lw])), (lw, .inl (cI, 256, .inl gl))] t.heap ∧ va_D (va_A [(mx, .inr (7, [.ref dr, .ref th, .ref bk, .ref wt, .ref tt, .ref lh, .ref la, .int sh, .long ab, .long be])), (dr, .inr (2, [.ref dp, .ref dc, .int (nI n)])), (dp, .inl (cI, 8, .inl fp)), (dc, .inl (cI, 8, .inl fc)), (la, .inr (4, [.ref lw])), (lw, .inl (cI, 256, .inl fl))] sz) [(mx, .inr (7, [.ref dr, .ref th, .ref bk, .ref wt, .ref tt, .ref lh, .ref la, .int sh, .long ab, .long be])), (dr, .inr (2, [.ref dp, .ref dc, .int (nI n)])), (dp, .inl (cI, 8, .inl fp)), (dc, .inl (cI, 8, .inl fc)), (la, .inr (4, [.ref lw])), (lw, .inl (cI, 256, .inl gl))]) (va_A [(mx, .inr (7, [.ref dr, .ref th, .ref bk, .ref wt, .ref tt, .ref lh, .ref la, .int sh, .long ab, .long be])), (dr, .inr (2, [.ref dp, .ref dc, .int (nI n)])), (dp, .inl (cI, 8, .inl fp)), (dc, .inl (cI, 8, .inl fc)), (la, .inr (4, [.ref lw])), (lw, .inl (cI, 256, .inl fl))] sz)) 0 0 (va_A [(mx, .inr (7, [.ref dr, .ref th, .ref bk, .ref wt, .ref tt, .ref lh, .ref la, .int sh, .long ab, .long be])), (dr, .inr (2, [.ref dp, .ref dc, .int (nI n)])), (dp, .inl (cI, 8, .inl fp)), (dc, .inl (cI, 8, .inl fc)), (la, .inr (4, [.ref lw])), (lw, .inl (cI, 256, .inl fl))] sz) := by
  refine Met.ofW (cc := cX7_alike) (maxL := 1) (ret := (some .int)) (by decide) rfl ?_
  intro p e s m args below meth c s₁ B hml hv
  obtain ⟨rfl, hsz, hP, hK, hD0, hN⟩ := hv
  subst hsz
  have hx := B.exec
  have hb := B.bytes
  have hr := B.returns
  have hts := atoms_spec (ws := wsX7_alike) B.pre
  have hown : s.vm.findClass RX7 = some m.cls := findClass_of_methodNamed B.named
  have hlocks := B.notSynchronized
  have hD := hD0.self (sz := s.heap.size)
  generalize hAe : va_A [(mx, .inr (7, [.ref dr, .ref th, .ref bk, .ref wt, .ref tt, .ref lh, .ref la, .int sh, .long ab, .long be])), (dr, .inr (2, [.ref dp, .ref dc, .int (nI n)])), (dp, .inl (cI, 8, .inl fp)), (dc, .inl (cI, 8, .inl fc)), (la, .inr (4, [.ref lw])), (lw, .inl (cI, 256, .inl fl))] s.heap.size = A at hD ⊢
  have hA : ∀ q : Nat, s.heap.size ≤ q → A q := fun q h => by rw [← hAe]; exact Or.inr h
  have hS : va_S A s.heap s.heap [] := va_S.rf
  have hiX7 : ∀ w ∈ u_ws RX7 TX7 10, w ∈ wsX7_alike := by decide +kernel
  have hl := lv_entry ([.ref mx]) (n := 1) (Nat.le_of_ble_eq_true rfl)
  rw [lg_entry_eq]
  generalize (lg_sl ([.ref mx]) ++ List.replicate (1 - (lg_sl ([.ref mx])).length) Slot.unset).toArray = ls at hl ⊢
  have hl : lv_has ls 1 [(0, .ref mx)] := hl
  refine lv_aload_n hx hb dX7_alike_0 rfl (lv_at hl 0 rfl) ?_
  refine va_get (D := (dC, dI)) (ci := 7) (v := .ref la) (C := RX7) (T := TX7) (N := 10) hx hb hts hiX7 hown hK hP 0 rfl rfl 6 (by decide) (hts (.fieldLink RX7 50 "MadeItSo" "lookalikes" "LMadeItSo$Lookalikes;") (by decide +kernel)) (fun _ h9 => h9) rfl dX7_alike_1 ?_
  refine lv_aload_n hx hb dX7_alike_4 rfl (lv_at hl 0 rfl) ?_
  refine va_get (D := (dC, dI)) (ci := 7) (v := .ref dr) (C := RX7) (T := TX7) (N := 10) hx hb hts hiX7 hown hK hP 0 rfl rfl 0 (by decide) (hts (.fieldLink RX7 12 "MadeItSo" "drawing" "LMadeItSo$Drawing;") (by decide +kernel)) (fun _ h9 => h9) rfl dX7_alike_5 ?_
  refine lv_iconst (v := (-1)) hx hb dX7_alike_8 (by decide +kernel) ?_
  refine lv_iconst (v := (-1)) hx hb dX7_alike_9 (by decide +kernel) ?_
  have hPc := hP.sub (ws' := [(la, .inr (4, [.ref lw])), (lw, .inl (cI, 256, .inl fl)), (dr, .inr (2, [.ref dp, .ref dc, .int (nI n)])), (dp, .inl (cI, 8, .inl fp)), (dc, .inl (cI, 8, .inl fc))]) [4, 5, 1, 2, 3] rfl
  have hDc := hD.sub (ws' := [(la, .inr (4, [.ref lw])), (lw, .inl (cI, 256, .inl fl)), (dr, .inr (2, [.ref dp, .ref dc, .int (nI n)])), (dp, .inl (cI, 8, .inl fp)), (dc, .inl (cI, 8, .inl fc))]) [4, 5, 1, 2, 3] (by decide) rfl
  have hFc := va_free (wc := [(la, .inr (4, [.ref lw])), (lw, .inl (cI, 256, .inl fl)), (dr, .inr (2, [.ref dp, .ref dc, .int (nI n)])), (dp, .inl (cI, 8, .inl fp)), (dc, .inl (cI, 8, .inl fc))]) hD hS hA [4, 5, 1, 2, 3] rfl
  refine va_calli (va_runV (As := [.ref dr, .int (-1), .int (-1)]) (rest := []) ⟨hx, hb, hml, hown, hts⟩ (mz_v_reckon0 l dC dI cI cJ cZ la lw fl dr dp dc n fp fc s.heap.size (by first | assumption | omega) (by first | assumption | omega) (by first | assumption | omega) (by first | assumption | omega)) (cwV 3 hts gX7_alike_X4_reckon rfl rfl rfl (by decide +kernel) ⟨Nat.le_of_ble_eq_true rfl, Nat.le_of_ble_eq_true rfl⟩) ⟨fun a U g mk q => mz_blI q, va_recv hK hPc (ci := 4) (q0 := 0) rfl rfl, fun U hU hW => ⟨rfl, by rw [hU], by rw [hU]; exact hPc, va_K.moved hW.alike hK, hDc.weaken (fun _ _ _ _ => trivial), mz_nw hW hN⟩⟩ rfl rfl hl.1 rfl (lv_room (Nat.le_of_ble_eq_true rfl)) dX7_alike_10 ⟨Nat.le_of_ble_eq_true rfl, Nat.le_of_ble_eq_true rfl⟩) hS (fun q _ h => hFc q h) hFc (fun r_10 u t H1 locs ht hvm hw_10 hB hz1 hk1 hS => ?_)
  obtain ⟨gl_10, hP1, hD1⟩ := hB
  rw [ht] at hP1
  obtain ⟨hP, hD⟩ := va_join (wr := [(mx, .inr (7, [.ref dr, .ref th, .ref bk, .ref wt, .ref tt, .ref lh, .ref la, .int sh, .long ab, .long be]))]) (w1 := [(la, .inr (4, [.ref lw])), (lw, .inl (cI, 256, .inl gl_10)), (dr, .inr (2, [.ref dp, .ref dc, .int (nI n)])), (dp, .inl (cI, 8, .inl fp)), (dc, .inl (cI, 8, .inl fc))]) hP hD [4, 5, 1, 2, 3] [0] rfl rfl (by decide) (by decide) hk1 hFc hP1 hD1
  generalize H1 = H at hP hS ⊢
  have hP : va_P (dC, dI) vwCl [(mx, .inr (7, [.ref dr, .ref th, .ref bk, .ref wt, .ref tt, .ref lh, .ref la, .int sh, .long ab, .long be])), (la, .inr (4, [.ref lw])), (lw, .inl (cI, 256, .inl gl_10)), (dr, .inr (2, [.ref dp, .ref dc, .int (nI n)])), (dp, .inl (cI, 8, .inl fp)), (dc, .inl (cI, 8, .inl fc))] H := hP
  have hD : va_D A [(mx, .inr (7, [.ref dr, .ref th, .ref bk, .ref wt, .ref tt, .ref lh, .ref la, .int sh, .long ab, .long be])), (la, .inr (4, [.ref lw])), (lw, .inl (cI, 256, .inl gl_10)), (dr, .inr (2, [.ref dp, .ref dc, .int (nI n)])), (dp, .inl (cI, 8, .inl fp)), (dc, .inl (cI, 8, .inl fc))] := hD
  obtain rfl : r_10 = (nI (mz_nuw n (mz_jo fp fc) (mz_V0 n fp fc) (nI (2 ^ n - 1)))) := hw_10
  have hP9 := hP.sub (ws' := [(mx, .inr (7, [.ref dr, .ref th, .ref bk, .ref wt, .ref tt, .ref lh, .ref la, .int sh, .long ab, .long be])), (dr, .inr (2, [.ref dp, .ref dc, .int (nI n)])), (dp, .inl (cI, 8, .inl fp)), (dc, .inl (cI, 8, .inl fc)), (la, .inr (4, [.ref lw])), (lw, .inl (cI, 256, .inl gl_10))]) [0, 3, 4, 5, 1, 2] rfl
  have hD9 := hD.sub (ws' := [(mx, .inr (7, [.ref dr, .ref th, .ref bk, .ref wt, .ref tt, .ref lh, .ref la, .int sh, .long ab, .long be])), (dr, .inr (2, [.ref dp, .ref dc, .int (nI n)])), (dp, .inl (cI, 8, .inl fp)), (dc, .inl (cI, 8, .inl fc)), (la, .inr (4, [.ref lw])), (lw, .inl (cI, 256, .inl gl_10))]) [0, 3, 4, 5, 1, 2] (by decide) rfl
  refine W.widen (k := 0) (n := 0) (Nat.le_of_ble_eq_true rfl) (Nat.le_of_ble_eq_true rfl) ?_
  exact W.iret (v := (nI (mz_nuw n (mz_jo fp fc) (mz_V0 n fp fc) (nI (2 ^ n - 1))))) hx hb hr (fun t ht hW => ⟨⟨(nI (mz_nuw n (mz_jo fp fc) (mz_V0 n fp fc) (nI (2 ^ n - 1)))), (), rfl, rfl, gl_10, by rw [ht]; exact hP9, hD9⟩, hS.F ht⟩) hS.2.2 dX7_alike_13
set_option maxHeartbeats 1000000 in
set_option maxRecDepth 100000 in
theorem mz_v_x_fixed (l : Launch) (dC : Nat → ClassId) (dI : Nat → Nat → Nat) (cI cJ cZ : ClassId) (mx : Nat) (dr : Nat) (th : Nat) (bk : Nat) (wt : Nat) (tt : Nat) (lh : Nat) (la : Nat) (sh : Int32) (ab : Int64) (be : Int64) (dp : Nat) (dc : Nat) (n : Nat) (fp : Nat → Int32) (fc : Nat → Int32) (lw : Nat) (fl : Nat → Int32) (i : Nat) (j : Nat) (FQ : Prop) (sz : Nat) (hn : n ≤ 8) (hsy : ∀ a b, a < n → b < n → mz_t (mz_jo fp fc a) b = mz_t (mz_jo fp fc b) a) (hir : ∀ a, a < n → mz_t (mz_jo fp fc a) a = false) (hpn : ∀ k, k < n → mz_hp n (fp k)) (hi : i < n) (hj : j < n) (hfq1 : mz_t (fc i) j = true → ((nI (mz_nuw n (mz_jo fp fc) (mz_V1 n fp fc j i) (nI (2 ^ n - 1)))) = 0 ↔ FQ)) (hfq0 : mz_t (fc i) j = false → ¬ FQ) : Met l yX7_fixed wsX7_fixed ({ frames := 6, cells := 0, slots := 0, locals := 137 }) (va_Pc [.ref mx, .int (nI i), .int (nI j)] (fun U => U.heap.size = sz ∧ va_P (dC, dI) vwCl [(mx, .inr (7, [.ref dr, .ref th, .ref bk, .ref wt, .ref tt, .ref lh, .ref la, .int sh, .long ab, .long be])), (dr, .inr (2, [.ref dp, .ref dc, .int (nI n)])), (dp, .inl (cI, 8, .inl fp)), (dc, .inl (cI, 8, .inl fc)), (la, .inr (4, [.ref lw])), (lw, .inl (cI, 256, .inl fl))] U.heap ∧ va_K (dC, dI) vwCl [(cI, FieldType.int), (cJ, FieldType.long), (cZ, FieldType.boolean)] U ∧ va_D (fun _ => True) [(mx, .inr (7, [.ref dr, .ref th, .ref bk, .ref wt, .ref tt, .ref lh, .ref la, .int sh, .long ab, .long be])), (dr, .inr (2, [.ref dp, .ref dc, .int (nI n)])), (dp, .inl (cI, 8, .inl fp)), (dc, .inl (cI, 8, .inl fc)), (la, .inr (4, [.ref lw])), (lw, .inl (cI, 256, .inl fl))] ∧ mz_N U)) (va_Qi (fun (r : Int32) (_ : Unit) => (r = 1 ∧ FQ) ∨ (r = 0 ∧ ¬ FQ)) (fun _ t => ∃ (gl : Nat → Int32), va_P (dC, dI) vwCl [(mx, .inr (7, [.ref dr, .ref th, .ref bk, .ref wt, .ref tt, .ref lh, .ref la, .int sh, .long ab, .long be])), (dr, .inr (2, [.ref dp, .ref dc, .int (nI n)])), (dp, .inl (cI, 8, .inl fp)), (dc, .inl (cI, 8, .inl fc)), (la, .inr (4, [.ref lw])), (lw, .inl (cI, 256, .inl gl))] t.heap ∧ va_D (va_A [(mx, .inr (7, [.ref dr, .ref th, .ref bk, .ref wt, .ref tt, .ref lh, .ref la, .int sh, .long ab, .long be])), (dr, .inr (2, [.ref dp, .ref dc, .int (nI n)])), (dp, .inl (cI, 8, .inl fp)), (dc, .inl (cI, 8, .inl fc)), (la, .inr (4, [.ref lw])), (lw, .inl (cI, 256, .inl fl))] sz) [(mx, .inr (7, [.ref dr, .ref th, .ref bk, .ref wt, .ref tt, .ref lh, .ref la, .int sh, .long ab, .long be])), (dr, .inr (2, [.ref dp, .ref dc, .int (nI n)])), (dp, .inl (cI, 8, .inl fp)), (dc, .inl (cI, 8, .inl fc)), (la, .inr (4, [.ref lw])), (lw, .inl (cI, 256, .inl gl))]) (va_A [(mx, .inr (7, [.ref dr, .ref th, .ref bk, .ref wt, .ref tt, .ref lh, .ref la, .int sh, .long ab, .long be])), (dr, .inr (2, [.ref dp, .ref dc, .int (nI n)])), (dp, .inl (cI, 8, .inl fp)), (dc, .inl (cI, 8, .inl fc)), (la, .inr (4, [.ref lw])), (lw, .inl (cI, 256, .inl fl))] sz)) 0 0 (va_A [(mx, .inr (7, [.ref dr, .ref th, .ref bk, .ref wt, .ref tt, .ref lh, .ref la, .int sh, .long ab, .long be])), (dr, .inr (2, [.ref dp, .ref dc, .int (nI n)])), (dp, .inl (cI, 8, .inl fp)), (dc, .inl (cI, 8, .inl fc)), (la, .inr (4, [.ref lw])), (lw, .inl (cI, 256, .inl fl))] sz) := by
  refine Met.ofW (cc := cX7_fixed) (maxL := 3) (ret := (some .boolean)) (by decide) rfl ?_
  intro p e s m args below meth c s₁ B hml hv
  obtain ⟨rfl, hsz, hP, hK, hD0, hN⟩ := hv
  subst hsz
  have hx := B.exec
  have hb := B.bytes
  have hr := B.returns
  have hts := atoms_spec (ws := wsX7_fixed) B.pre
  have hown : s.vm.findClass RX7 = some m.cls := findClass_of_methodNamed B.named
  have hlocks := B.notSynchronized
  have hD := hD0.self (sz := s.heap.size)
  generalize hAe : va_A [(mx, .inr (7, [.ref dr, .ref th, .ref bk, .ref wt, .ref tt, .ref lh, .ref la, .int sh, .long ab, .long be])), (dr, .inr (2, [.ref dp, .ref dc, .int (nI n)])), (dp, .inl (cI, 8, .inl fp)), (dc, .inl (cI, 8, .inl fc)), (la, .inr (4, [.ref lw])), (lw, .inl (cI, 256, .inl fl))] s.heap.size = A at hD ⊢
  have hA : ∀ q : Nat, s.heap.size ≤ q → A q := fun q h => by rw [← hAe]; exact Or.inr h
  have hS : va_S A s.heap s.heap [] := va_S.rf
  have hiX7 : ∀ w ∈ u_ws RX7 TX7 10, w ∈ wsX7_fixed := by decide +kernel
  have hl := lv_entry ([.ref mx, .int (nI i), .int (nI j)]) (n := 3) (Nat.le_of_ble_eq_true rfl)
  rw [lg_entry_eq]
  generalize (lg_sl ([.ref mx, .int (nI i), .int (nI j)]) ++ List.replicate (3 - (lg_sl ([.ref mx, .int (nI i), .int (nI j)])).length) Slot.unset).toArray = ls at hl ⊢
  have hl : lv_has ls 3 [(0, .ref mx), (1, .int (nI i)), (2, .int (nI j))] := hl
  refine lv_aload_n hx hb dX7_fixed_0 rfl (lv_at hl 0 rfl) ?_
  refine va_get (D := (dC, dI)) (ci := 7) (v := .ref dr) (C := RX7) (T := TX7) (N := 10) hx hb hts hiX7 hown hK hP 0 rfl rfl 0 (by decide) (hts (.fieldLink RX7 12 "MadeItSo" "drawing" "LMadeItSo$Drawing;") (by decide +kernel)) (fun _ h9 => h9) rfl dX7_fixed_1 ?_
  refine lv_iload_n hx hb dX7_fixed_4 rfl (lv_at hl 1 rfl) ?_
  refine lv_iload_n hx hb dX7_fixed_5 rfl (lv_at hl 2 rfl) ?_
  have hPc := hP.sub (ws' := [(dr, .inr (2, [.ref dp, .ref dc, .int (nI n)])), (dc, .inl (cI, 8, .inl fc))]) [1, 3] rfl
  refine va_calli (va_runV (As := [.int (nI i), .int (nI j)]) (rest := []) ⟨hx, hb, hml, hown, hts⟩ (mz_e_leads l dC dI cI cJ cZ dr dp dc n fc i j s.heap (by first | assumption | omega) (by first | assumption | omega) (by first | assumption | omega)) (cwV 2 hts gX7_fixed_X2_leads rfl rfl rfl (by decide +kernel) ⟨Nat.le_of_ble_eq_true rfl, Nat.le_of_ble_eq_true rfl⟩) ⟨fun a U g mk q => mz_blP q, va_recv hK hPc (ci := 2) (q0 := 0) rfl rfl, fun U hU hW => ⟨rfl, hU, hPc, va_K.moved hW.alike hK, mz_nw hW hN⟩⟩ rfl rfl hl.1 rfl (lv_room (Nat.le_of_ble_eq_true rfl)) dX7_fixed_6 ⟨Nat.le_of_ble_eq_true rfl, Nat.le_of_ble_eq_true rfl⟩) hS (fun q _ h => h.elim) (fun q h => h.elim) (fun r_6 u t H1 locs ht hvm hw_6 hB hz1 hk1 hS => ?_)
  have hE : s.heap = H1 := hB.symm.trans ht
  subst hE
  rcases (show (r_6 = 1 ∧ mz_t (fc i) j = true) ∨ (r_6 = 0 ∧ mz_t (fc i) j = false) from hw_6) with ⟨rfl, ht_6⟩ | ⟨rfl, ht_6⟩
  · skip
    refine lv_if_ne (tgt := 14) hx hb dX7_fixed_9 (by decide) (fun _ => ?_) (fun c_9 => absurd c_9 (by decide +kernel))
    refine lv_aload_n hx hb dX7_fixed_14 rfl (lv_at hl 0 rfl) ?_
    refine va_get (D := (dC, dI)) (ci := 7) (v := .ref la) (C := RX7) (T := TX7) (N := 10) hx hb hts hiX7 hown hK hP 0 rfl rfl 6 (by decide) (hts (.fieldLink RX7 50 "MadeItSo" "lookalikes" "LMadeItSo$Lookalikes;") (by decide +kernel)) (fun _ h9 => h9) rfl dX7_fixed_15 ?_
    refine lv_aload_n hx hb dX7_fixed_18 rfl (lv_at hl 0 rfl) ?_
    refine va_get (D := (dC, dI)) (ci := 7) (v := .ref dr) (C := RX7) (T := TX7) (N := 10) hx hb hts hiX7 hown hK hP 0 rfl rfl 0 (by decide) (hts (.fieldLink RX7 12 "MadeItSo" "drawing" "LMadeItSo$Drawing;") (by decide +kernel)) (fun _ h9 => h9) rfl dX7_fixed_19 ?_
    refine lv_iload_n hx hb dX7_fixed_22 rfl (lv_at hl 2 rfl) ?_
    refine lv_iload_n hx hb dX7_fixed_23 rfl (lv_at hl 1 rfl) ?_
    have hPc := hP.sub (ws' := [(la, .inr (4, [.ref lw])), (lw, .inl (cI, 256, .inl fl)), (dr, .inr (2, [.ref dp, .ref dc, .int (nI n)])), (dp, .inl (cI, 8, .inl fp)), (dc, .inl (cI, 8, .inl fc))]) [4, 5, 1, 2, 3] rfl
    have hDc := hD.sub (ws' := [(la, .inr (4, [.ref lw])), (lw, .inl (cI, 256, .inl fl)), (dr, .inr (2, [.ref dp, .ref dc, .int (nI n)])), (dp, .inl (cI, 8, .inl fp)), (dc, .inl (cI, 8, .inl fc))]) [4, 5, 1, 2, 3] (by decide) rfl
    have hFc := va_free (wc := [(la, .inr (4, [.ref lw])), (lw, .inl (cI, 256, .inl fl)), (dr, .inr (2, [.ref dp, .ref dc, .int (nI n)])), (dp, .inl (cI, 8, .inl fp)), (dc, .inl (cI, 8, .inl fc))]) hD hS hA [4, 5, 1, 2, 3] rfl
    refine va_calli (va_runV (As := [.ref dr, .int (nI j), .int (nI i)]) (rest := []) ⟨hx, hb, hml, hown, hts⟩ (mz_v_reckon1 l dC dI cI cJ cZ la lw fl dr dp dc n fp fc j i s.heap.size (by first | assumption | omega) (by first | assumption | omega) (by first | assumption | omega) (by first | assumption | omega) (by first | assumption | omega) (by first | assumption | omega) (by show mz_t ((fp i) ||| (fc i)) j = true; rw [mz_t_or, ht_6, Bool.or_true])) (cwV 3 hts gX7_fixed_X4_reckon rfl rfl rfl (by decide +kernel) ⟨Nat.le_of_ble_eq_true rfl, Nat.le_of_ble_eq_true rfl⟩) ⟨fun a U g mk q => mz_blI q, va_recv hK hPc (ci := 4) (q0 := 0) rfl rfl, fun U hU hW => ⟨rfl, by rw [hU], by rw [hU]; exact hPc, va_K.moved hW.alike hK, hDc.weaken (fun _ _ _ _ => trivial), mz_nw hW hN⟩⟩ rfl rfl hl.1 rfl (lv_room (Nat.le_of_ble_eq_true rfl)) dX7_fixed_24 ⟨Nat.le_of_ble_eq_true rfl, Nat.le_of_ble_eq_true rfl⟩) hS (fun q _ h => hFc q h) hFc (fun r_24 u t H1 locs ht hvm hw_24 hB hz1 hk1 hS => ?_)
    obtain ⟨gl_24, hP1, hD1⟩ := hB
    rw [ht] at hP1
    obtain ⟨hP, hD⟩ := va_join (wr := [(mx, .inr (7, [.ref dr, .ref th, .ref bk, .ref wt, .ref tt, .ref lh, .ref la, .int sh, .long ab, .long be]))]) (w1 := [(la, .inr (4, [.ref lw])), (lw, .inl (cI, 256, .inl gl_24)), (dr, .inr (2, [.ref dp, .ref dc, .int (nI n)])), (dp, .inl (cI, 8, .inl fp)), (dc, .inl (cI, 8, .inl fc))]) hP hD [4, 5, 1, 2, 3] [0] rfl rfl (by decide) (by decide) hk1 hFc hP1 hD1
    generalize H1 = H at hP hS ⊢
    have hP : va_P (dC, dI) vwCl [(mx, .inr (7, [.ref dr, .ref th, .ref bk, .ref wt, .ref tt, .ref lh, .ref la, .int sh, .long ab, .long be])), (la, .inr (4, [.ref lw])), (lw, .inl (cI, 256, .inl gl_24)), (dr, .inr (2, [.ref dp, .ref dc, .int (nI n)])), (dp, .inl (cI, 8, .inl fp)), (dc, .inl (cI, 8, .inl fc))] H := hP
    have hD : va_D A [(mx, .inr (7, [.ref dr, .ref th, .ref bk, .ref wt, .ref tt, .ref lh, .ref la, .int sh, .long ab, .long be])), (la, .inr (4, [.ref lw])), (lw, .inl (cI, 256, .inl gl_24)), (dr, .inr (2, [.ref dp, .ref dc, .int (nI n)])), (dp, .inl (cI, 8, .inl fp)), (dc, .inl (cI, 8, .inl fc))] := hD
    obtain rfl : r_24 = (nI (mz_nuw n (mz_jo fp fc) (mz_V1 n fp fc j i) (nI (2 ^ n - 1)))) := hw_24
    refine lv_topi (fun v_27 ev_27 => ?_)
    refine lv_if_ne (tgt := 34) hx hb dX7_fixed_27 (by decide) (fun c_27 => ?_) (fun c_27 => ?_)
    · skip
      refine lv_iconst (v := 0) hx hb dX7_fixed_34 (by decide +kernel) ?_
      have hP9 := hP.sub (ws' := [(mx, .inr (7, [.ref dr, .ref th, .ref bk, .ref wt, .ref tt, .ref lh, .ref la, .int sh, .long ab, .long be])), (dr, .inr (2, [.ref dp, .ref dc, .int (nI n)])), (dp, .inl (cI, 8, .inl fp)), (dc, .inl (cI, 8, .inl fc)), (la, .inr (4, [.ref lw])), (lw, .inl (cI, 256, .inl gl_24))]) [0, 3, 4, 5, 1, 2] rfl
      have hD9 := hD.sub (ws' := [(mx, .inr (7, [.ref dr, .ref th, .ref bk, .ref wt, .ref tt, .ref lh, .ref la, .int sh, .long ab, .long be])), (dr, .inr (2, [.ref dp, .ref dc, .int (nI n)])), (dp, .inl (cI, 8, .inl fp)), (dc, .inl (cI, 8, .inl fc)), (la, .inr (4, [.ref lw])), (lw, .inl (cI, 256, .inl gl_24))]) [0, 3, 4, 5, 1, 2] (by decide) rfl
      refine W.widen (k := 0) (n := 0) (Nat.le_of_ble_eq_true rfl) (Nat.le_of_ble_eq_true rfl) ?_
      exact W.zret (v := 0) hx hb hr (mz_nz (by decide +kernel)) (fun t ht hW => ⟨⟨0, (), rfl, Or.inr ⟨rfl, fun h9 => c_27 (ev_27.trans ((hfq1 ht_6).mpr h9))⟩, gl_24, by rw [ht]; exact hP9, hD9⟩, hS.F ht⟩) hS.2.2 dX7_fixed_35
    · skip
      refine lv_iconst (v := 1) hx hb dX7_fixed_30 (by decide +kernel) ?_
      refine lv_goto (tgt := 35) hx hb dX7_fixed_31 (by decide) ?_
      have hP9 := hP.sub (ws' := [(mx, .inr (7, [.ref dr, .ref th, .ref bk, .ref wt, .ref tt, .ref lh, .ref la, .int sh, .long ab, .long be])), (dr, .inr (2, [.ref dp, .ref dc, .int (nI n)])), (dp, .inl (cI, 8, .inl fp)), (dc, .inl (cI, 8, .inl fc)), (la, .inr (4, [.ref lw])), (lw, .inl (cI, 256, .inl gl_24))]) [0, 3, 4, 5, 1, 2] rfl
      have hD9 := hD.sub (ws' := [(mx, .inr (7, [.ref dr, .ref th, .ref bk, .ref wt, .ref tt, .ref lh, .ref la, .int sh, .long ab, .long be])), (dr, .inr (2, [.ref dp, .ref dc, .int (nI n)])), (dp, .inl (cI, 8, .inl fp)), (dc, .inl (cI, 8, .inl fc)), (la, .inr (4, [.ref lw])), (lw, .inl (cI, 256, .inl gl_24))]) [0, 3, 4, 5, 1, 2] (by decide) rfl
      refine W.widen (k := 0) (n := 0) (Nat.le_of_ble_eq_true rfl) (Nat.le_of_ble_eq_true rfl) ?_
      exact W.zret (v := 1) hx hb hr (mz_nz (by decide +kernel)) (fun t ht hW => ⟨⟨1, (), rfl, Or.inl ⟨rfl, (hfq1 ht_6).mp (ev_27.symm.trans c_27)⟩, gl_24, by rw [ht]; exact hP9, hD9⟩, hS.F ht⟩) hS.2.2 dX7_fixed_35
  · skip
    refine lv_if_ne (tgt := 14) hx hb dX7_fixed_9 (by decide) (fun c_9 => absurd (by decide +kernel) c_9) (fun _ => ?_)
    refine lv_iconst (v := 0) hx hb dX7_fixed_12 (by decide +kernel) ?_
    have hP9 := hP.sub (ws' := [(mx, .inr (7, [.ref dr, .ref th, .ref bk, .ref wt, .ref tt, .ref lh, .ref la, .int sh, .long ab, .long be])), (dr, .inr (2, [.ref dp, .ref dc, .int (nI n)])), (dp, .inl (cI, 8, .inl fp)), (dc, .inl (cI, 8, .inl fc)), (la, .inr (4, [.ref lw])), (lw, .inl (cI, 256, .inl fl))]) [0, 1, 2, 3, 4, 5] rfl
    have hD9 := hD.sub (ws' := [(mx, .inr (7, [.ref dr, .ref th, .ref bk, .ref wt, .ref tt, .ref lh, .ref la, .int sh, .long ab, .long be])), (dr, .inr (2, [.ref dp, .ref dc, .int (nI n)])), (dp, .inl (cI, 8, .inl fp)), (dc, .inl (cI, 8, .inl fc)), (la, .inr (4, [.ref lw])), (lw, .inl (cI, 256, .inl fl))]) [0, 1, 2, 3, 4, 5] (by decide) rfl
    refine W.widen (k := 0) (n := 0) (Nat.le_of_ble_eq_true rfl) (Nat.le_of_ble_eq_true rfl) ?_
    exact W.zret (v := 0) hx hb hr (mz_nz (by decide +kernel)) (fun t ht hW => ⟨⟨0, (), rfl, Or.inr ⟨rfl, hfq0 ht_6⟩, fl, by rw [ht]; exact hP9, hD9⟩, hS.F ht⟩) hS.2.2 dX7_fixed_13
set_option maxHeartbeats 1000000 in
set_option maxRecDepth 100000 in
theorem mz_v_x_fixed_out (l : Launch) (dC : Nat → ClassId) (dI : Nat → Nat → Nat) (cI cJ cZ : ClassId) (mx : Nat) (dr : Nat) (th : Nat) (bk : Nat) (wt : Nat) (tt : Nat) (lh : Nat) (la : Nat) (sh : Int32) (ab : Int64) (be : Int64) (dp : Nat) (dc : Nat) (n : Nat) (p1 : Int32) (p2 : Int32) (Hq : Heap) (hn : n ≤ 8) (hout : ¬ ∃ i j : Nat, i < n ∧ j < n ∧ p1 = nI i ∧ p2 = nI j) : Met l yX7_fixed wsX7_fixed ({ frames := 2, cells := 0, slots := 0, locals := 43 }) (va_Pc [.ref mx, .int p1, .int p2] (fun U => U.heap = Hq ∧ va_P (dC, dI) vwCl [(mx, .inr (7, [.ref dr, .ref th, .ref bk, .ref wt, .ref tt, .ref lh, .ref la, .int sh, .long ab, .long be])), (dr, .inr (2, [.ref dp, .ref dc, .int (nI n)]))] Hq ∧ va_K (dC, dI) vwCl [(cI, FieldType.int), (cJ, FieldType.long), (cZ, FieldType.boolean)] U ∧ mz_N U)) (va_Qi (fun (r : Int32) (_ : Unit) => r = 0) (fun _ t => t.heap = Hq) (fun _ : Nat => False)) 0 0 (fun _ : Nat => False) := by
  refine Met.ofW (cc := cX7_fixed) (maxL := 3) (ret := (some .boolean)) (by decide) rfl ?_
  intro p e s m args below meth c s₁ B hml hv
  obtain ⟨rfl, hH, hP, hK, hN⟩ := hv
  subst hH
  have hx := B.exec
  have hb := B.bytes
  have hr := B.returns
  have hts := atoms_spec (ws := wsX7_fixed) B.pre
  have hown : s.vm.findClass RX7 = some m.cls := findClass_of_methodNamed B.named
  have hlocks := B.notSynchronized
  have hS : va_S (fun _ : Nat => False) s.heap s.heap [] := va_S.rf
  have hiX7 : ∀ w ∈ u_ws RX7 TX7 10, w ∈ wsX7_fixed := by decide +kernel
  have hl := lv_entry ([.ref mx, .int p1, .int p2]) (n := 3) (Nat.le_of_ble_eq_true rfl)
  rw [lg_entry_eq]
  generalize (lg_sl ([.ref mx, .int p1, .int p2]) ++ List.replicate (3 - (lg_sl ([.ref mx, .int p1, .int p2])).length) Slot.unset).toArray = ls at hl ⊢
  have hl : lv_has ls 3 [(0, .ref mx), (1, .int p1), (2, .int p2)] := hl
  refine lv_aload_n hx hb dX7_fixed_0 rfl (lv_at hl 0 rfl) ?_
  refine va_get (D := (dC, dI)) (ci := 7) (v := .ref dr) (C := RX7) (T := TX7) (N := 10) hx hb hts hiX7 hown hK hP 0 rfl rfl 0 (by decide) (hts (.fieldLink RX7 12 "MadeItSo" "drawing" "LMadeItSo$Drawing;") (by decide +kernel)) (fun _ h9 => h9) rfl dX7_fixed_1 ?_
  refine lv_iload_n hx hb dX7_fixed_4 rfl (lv_at hl 1 rfl) ?_
  refine lv_iload_n hx hb dX7_fixed_5 rfl (lv_at hl 2 rfl) ?_
  have hPc := hP.sub (ws' := [(dr, .inr (2, [.ref dp, .ref dc, .int (nI n)]))]) [1] rfl
  refine va_calli (va_runV (As := [.int p1, .int p2]) (rest := []) ⟨hx, hb, hml, hown, hts⟩ (mz_e_leads_out l dC dI cI cJ cZ dr dp dc n p1 p2 s.heap (by first | assumption | omega) hout) (cwV 2 hts gX7_fixed_X2_leads rfl rfl rfl (by decide +kernel) ⟨Nat.le_of_ble_eq_true rfl, Nat.le_of_ble_eq_true rfl⟩) ⟨fun a U g mk q => mz_blP q, va_recv hK hPc (ci := 2) (q0 := 0) rfl rfl, fun U hU hW => ⟨rfl, hU, hPc, va_K.moved hW.alike hK, mz_nw hW hN⟩⟩ rfl rfl hl.1 rfl (lv_room (Nat.le_of_ble_eq_true rfl)) dX7_fixed_6 ⟨Nat.le_of_ble_eq_true rfl, Nat.le_of_ble_eq_true rfl⟩) hS (fun q _ h => h.elim) (fun q h => h.elim) (fun r_6 u t H1 locs ht hvm hw_6 hB hz1 hk1 hS => ?_)
  have hE : s.heap = H1 := hB.symm.trans ht
  subst hE
  obtain rfl : r_6 = 0 := hw_6
  refine lv_if_ne (tgt := 14) hx hb dX7_fixed_9 (by decide) (fun c_9 => absurd (by decide +kernel) c_9) (fun _ => ?_)
  refine lv_iconst (v := 0) hx hb dX7_fixed_12 (by decide +kernel) ?_
  refine W.widen (k := 0) (n := 0) (Nat.le_of_ble_eq_true rfl) (Nat.le_of_ble_eq_true rfl) ?_
  exact W.zret (v := 0) hx hb hr (mz_nz (by decide +kernel)) (fun t ht hW => ⟨⟨0, (), rfl, rfl, ht⟩, hS.F ht⟩) hS.2.2 dX7_fixed_13
set_option maxHeartbeats 1000000 in
set_option maxRecDepth 100000 in
theorem mz_v_m_meetsLike (l : Launch) (dC : Nat → ClassId) (dI : Nat → Nat → Nat) (cI cJ cZ : ClassId) (mo : Nat) (m1 : Nat) (m2 : Nat) (m3 : Nat) (m6 : Nat) (m7 : Nat) (m8 : Nat) (m9 : Nat) (m10 : Nat) (m11 : Nat) (m12 : Nat) (m13 : Nat) (m14 : Nat) (m15 : Nat) (m16 : Nat) (n : Nat) (ka : Int64) (kb : Int64) (fp : Nat → Int32) (fj : Nat → Int32) (j : Nat) (p2 : Int32) (jo : Nat → Int32) (Hq : Heap) (hn : n ≤ 8) (hj : j < n) (hfj : ∀ k, k < n → fj k = jo k) : Met l yX8_meetsLike wsX8_meetsLike ({ frames := 0, cells := 0, slots := 0, locals := 0 }) (va_Pc [.ref mo, .int (nI j), .int p2] (fun U => U.heap = Hq ∧ va_P (dC, dI) vwCl [(mo, .inr (8, [.int (nI n), .ref m1, .ref m2, .ref m3, .long ka, .long kb, .ref m6, .ref m7, .ref m8, .ref m9, .ref m10, .ref m11, .ref m12, .ref m13, .ref m14, .ref m15, .ref m16])), (m2, .inl (cI, 8, .inl fp)), (m16, .inl (cI, 8, .inl fj))] Hq ∧ va_K (dC, dI) vwCl [(cI, FieldType.int), (cJ, FieldType.long), (cZ, FieldType.boolean)] U ∧ mz_N U)) (va_Qi (fun (r : Int32) (_ : Unit) => (r = 1 ∧ (mz_mlk n jo (fp j) p2)) ∨ (r = 0 ∧ ¬ (mz_mlk n jo (fp j) p2))) (fun _ t => t.heap = Hq) (fun _ : Nat => False)) 0 0 (fun _ : Nat => False) := by
  refine Met.ofW (cc := cX8_meetsLike) (maxL := 7) (ret := (some .boolean)) (by decide) rfl ?_
  intro p e s m args below meth c s₁ B hml hv
  obtain ⟨rfl, hH, hP, hK, hN⟩ := hv
  subst hH
  have hx := B.exec
  have hb := B.bytes
  have hr := B.returns
  have hts := atoms_spec (ws := wsX8_meetsLike) B.pre
  have hown : s.vm.findClass RX8 = some m.cls := findClass_of_methodNamed B.named
  have hlocks := B.notSynchronized
  have hS : va_S (fun _ : Nat => False) s.heap s.heap [] := va_S.rf
  have hiX8 : ∀ w ∈ u_ws RX8 TX8 17, w ∈ wsX8_meetsLike := by decide +kernel
  have hl := lv_entry ([.ref mo, .int (nI j), .int p2]) (n := 7) (Nat.le_of_ble_eq_true rfl)
  rw [lg_entry_eq]
  generalize (lg_sl ([.ref mo, .int (nI j), .int p2]) ++ List.replicate (7 - (lg_sl ([.ref mo, .int (nI j), .int p2])).length) Slot.unset).toArray = ls at hl ⊢
  have hl : lv_has ls 7 [(0, .ref mo), (1, .int (nI j)), (2, .int p2)] := hl
  refine lv_iconst (v := 0) hx hb dX8_meetsLike_0 (by decide +kernel) ?_
  refine lv_istore_n (lv' := [(3, .int 0), (0, .ref mo), (1, .int (nI j)), (2, .int p2)]) hx hb dX8_meetsLike_1 rfl hl (by decide) rfl (fun ls hl => ?_)
  refine mz_loopU (fun k H locs ls => ∃ (i_2 : Nat), i_2 ≤ n ∧ (∀ x y, x < i_2 → y < x → mz_t (jo x) y = false → (mz_t p2 x && mz_t p2 y) = (mz_t (fp j) x && mz_t (fp j) y)) ∧ H = s.heap ∧ va_S (fun _ : Nat => False) s.heap H locs ∧ lv_has ls 7 [(3, .int (nI i_2)), (0, .ref mo), (1, .int (nI j)), (2, .int p2)] ∧ k = n - i_2) ?_ _ _ _ _ ⟨0, by omega, (fun x y hx => absurd hx (Nat.not_lt_zero x)), rfl, hS, lv_sub hl [0, 1, 2, 3] rfl, rfl⟩
  intro k_2 H locs ls hI_2 ih_2
  obtain ⟨i_2, hi_2, hq_2, hH_2, hS, hl, hk_2⟩ := hI_2
  subst hH_2
  refine lv_iload_n hx hb dX8_meetsLike_2 rfl (lv_at hl 0 rfl) ?_
  refine lv_aload_n hx hb dX8_meetsLike_3 rfl (lv_at hl 1 rfl) ?_
  refine va_get (D := (dC, dI)) (ci := 8) (v := .int (nI n)) (C := RX8) (T := TX8) (N := 17) hx hb hts hiX8 hown hK hP 0 rfl rfl 0 (by decide) (hts (.fieldLink RX8 58 "MadeItSoModel" "many" "I") (by decide +kernel)) (fun _ h9 => h9) rfl dX8_meetsLike_4 ?_
  refine lv_icmp_ge (tgt := 120) hx hb dX8_meetsLike_7 (by decide) (fun c_7 => ?_) (fun c_7 => ?_)
  · skip
    have d_7 : n ≤ i_2 := (nI_leI (a := n) (b := i_2) (by omega) (by omega)).mp c_7
    refine lv_iconst (v := 1) hx hb dX8_meetsLike_120 (by decide +kernel) ?_
    refine W.widen (k := 0) (n := 0) (Nat.le_of_ble_eq_true rfl) (Nat.le_of_ble_eq_true rfl) ?_
    exact W.zret (v := 1) hx hb hr (mz_nz (by decide +kernel)) (fun t ht hW => ⟨⟨1, (), rfl, Or.inl ⟨rfl, fun x y hx => hq_2 x y (by omega)⟩, ht⟩, hS.F ht⟩) hS.2.2 dX8_meetsLike_121
  · skip
    have d_7 : ¬ n ≤ i_2 := fun h => c_7 ((nI_leI (a := n) (b := i_2) (by omega) (by omega)).mpr h)
    refine lv_iconst (v := 0) hx hb dX8_meetsLike_10 (by decide +kernel) ?_
    refine lv_istore (lv' := [(4, .int 0), (3, .int (nI i_2)), (0, .ref mo), (1, .int (nI j)), (2, .int p2)]) hx hb dX8_meetsLike_11 hl (by decide) rfl (fun ls hl => ?_)
    refine mz_loopU (fun k H locs ls => ∃ (i_13 : Nat), i_13 ≤ i_2 ∧ (∀ y, y < i_13 → mz_t (jo i_2) y = false → (mz_t p2 i_2 && mz_t p2 y) = (mz_t (fp j) i_2 && mz_t (fp j) y)) ∧ H = s.heap ∧ va_S (fun _ : Nat => False) s.heap H locs ∧ lv_has ls 7 [(4, .int (nI i_13)), (3, .int (nI i_2)), (0, .ref mo), (1, .int (nI j)), (2, .int p2)] ∧ k = i_2 - i_13) ?_ _ _ _ _ ⟨0, by omega, (fun y hy => absurd hy (Nat.not_lt_zero y)), rfl, hS, lv_sub hl [0, 1, 2, 3, 4] rfl, rfl⟩
    intro k_13 H locs ls hI_13 ih_13
    obtain ⟨i_13, hi_13, hr_13, hH_13, hS, hl, hk_13⟩ := hI_13
    subst hH_13
    refine lv_iload hx hb dX8_meetsLike_13 (lv_at hl 0 rfl) ?_
    refine lv_iload_n hx hb dX8_meetsLike_15 rfl (lv_at hl 1 rfl) ?_
    refine lv_icmp_ge (tgt := 114) hx hb dX8_meetsLike_16 (by decide) (fun c_16 => ?_) (fun c_16 => ?_)
    · skip
      have d_16 : i_2 ≤ i_13 := (nI_leI (a := i_2) (b := i_13) (by omega) (by omega)).mp c_16
      refine lv_iinc (v := (nI (i_2 + 1))) (lv' := [(3, .int (nI (i_2 + 1))), (4, .int (nI i_13)), (0, .ref mo), (1, .int (nI j)), (2, .int p2)]) hx hb dX8_meetsLike_114 hl (k := 1) rfl (nI_1 _) (by decide) rfl (fun ls hl => ?_)
      refine lv_goto (tgt := 2) hx hb dX8_meetsLike_117 (by decide) ?_
      exact ih_2 _ (by omega) _ _ _ ⟨(i_2 + 1), by omega, (fun x y hx hy hj9 => by (by_cases e9 : x = i_2; (subst e9; exact hr_13 y (by omega) hj9); exact hq_2 x y (by omega) hy hj9)), rfl, hS, lv_sub hl [0, 2, 3, 4] rfl, rfl⟩
    · skip
      have d_16 : ¬ i_2 ≤ i_13 := fun h => c_16 ((nI_leI (a := i_2) (b := i_13) (by omega) (by omega)).mpr h)
      refine lv_aload_n hx hb dX8_meetsLike_19 rfl (lv_at hl 2 rfl) ?_
      refine va_get (D := (dC, dI)) (ci := 8) (v := .ref m16) (C := RX8) (T := TX8) (N := 17) hx hb hts hiX8 hown hK hP 0 rfl rfl 16 (by decide) (hts (.fieldLink RX8 55 "MadeItSoModel" "joined" "[I") (by decide +kernel)) (fun _ h9 => h9) rfl dX8_meetsLike_20 ?_
      refine lv_iload_n hx hb dX8_meetsLike_23 rfl (lv_at hl 1 rfl) ?_
      refine va_iald hx hb hK hP 2 0 rfl rfl (vp_in_nI (by omega) (by omega)) dX8_meetsLike_24 ?_
      refine mz_ti (y := (fj i_2)) (by rw [mz_cl (by omega)]) ?_
      refine mz_ti (y := (jo i_2)) (hfj i_2 (by omega)) ?_
      refine lv_iload hx hb dX8_meetsLike_25 (lv_at hl 0 rfl) ?_
      refine lv_ishr hx hb dX8_meetsLike_27 ?_
      refine lv_iconst (v := 1) hx hb dX8_meetsLike_28 (by decide +kernel) ?_
      refine lv_iand hx hb dX8_meetsLike_29 ?_
      refine lv_iconst (v := 1) hx hb dX8_meetsLike_30 (by decide +kernel) ?_
      refine lv_icmp_ne (tgt := 37) hx hb dX8_meetsLike_31 (by decide) (fun c_31 => ?_) (fun c_31 => ?_)
      · skip
        refine lv_iload_n hx hb dX8_meetsLike_37 rfl (lv_at hl 4 rfl) ?_
        refine lv_iload_n hx hb dX8_meetsLike_38 rfl (lv_at hl 1 rfl) ?_
        refine lv_ishr hx hb dX8_meetsLike_39 ?_
        refine lv_iconst (v := 1) hx hb dX8_meetsLike_40 (by decide +kernel) ?_
        refine lv_iand hx hb dX8_meetsLike_41 ?_
        refine lv_iconst (v := 1) hx hb dX8_meetsLike_42 (by decide +kernel) ?_
        refine lv_icmp_ne (tgt := 60) hx hb dX8_meetsLike_43 (by decide) (fun c_43 => ?_) (fun c_43 => ?_)
        · skip
          refine lv_iconst (v := 0) hx hb dX8_meetsLike_60 (by decide +kernel) ?_
          refine lv_istore (lv' := [(5, .int 0), (4, .int (nI i_13)), (3, .int (nI i_2)), (0, .ref mo), (1, .int (nI j)), (2, .int p2)]) hx hb dX8_meetsLike_61 hl (by decide) rfl (fun ls hl => ?_)
          refine lv_aload_n hx hb dX8_meetsLike_63 rfl (lv_at hl 3 rfl) ?_
          refine va_get (D := (dC, dI)) (ci := 8) (v := .ref m2) (C := RX8) (T := TX8) (N := 17) hx hb hts hiX8 hown hK hP 0 rfl rfl 2 (by decide) (hts (.fieldLink RX8 13 "MadeItSoModel" "parents" "[I") (by decide +kernel)) (fun _ h9 => h9) rfl dX8_meetsLike_64 ?_
          refine lv_iload_n hx hb dX8_meetsLike_67 rfl (lv_at hl 4 rfl) ?_
          refine va_iald hx hb hK hP 1 0 rfl rfl (vp_in_nI (by omega) (by omega)) dX8_meetsLike_68 ?_
          refine mz_ti (y := (fp j)) (by rw [mz_cl (by omega)]) ?_
          refine lv_iload_n hx hb dX8_meetsLike_69 rfl (lv_at hl 2 rfl) ?_
          refine lv_ishr hx hb dX8_meetsLike_70 ?_
          refine lv_iconst (v := 1) hx hb dX8_meetsLike_71 (by decide +kernel) ?_
          refine lv_iand hx hb dX8_meetsLike_72 ?_
          refine lv_iconst (v := 1) hx hb dX8_meetsLike_73 (by decide +kernel) ?_
          refine lv_icmp_ne (tgt := 96) hx hb dX8_meetsLike_74 (by decide) (fun c_74 => ?_) (fun c_74 => ?_)
          · skip
            refine lv_iconst (v := 0) hx hb dX8_meetsLike_96 (by decide +kernel) ?_
            refine lv_istore (lv' := [(6, .int 0), (5, .int 0), (4, .int (nI i_13)), (3, .int (nI i_2)), (0, .ref mo), (1, .int (nI j)), (2, .int p2)]) hx hb dX8_meetsLike_97 hl (by decide) rfl (fun ls hl => ?_)
            refine lv_iload hx hb dX8_meetsLike_99 (lv_at hl 1 rfl) ?_
            refine lv_iload hx hb dX8_meetsLike_101 (lv_at hl 0 rfl) ?_
            refine lv_icmp_eq (tgt := 108) hx hb dX8_meetsLike_103 (by decide) (fun _ => ?_) (fun c_103 => absurd (by decide +kernel) c_103)
            refine lv_iinc (v := (nI (i_13 + 1))) (lv' := [(4, .int (nI (i_13 + 1))), (6, .int 0), (5, .int 0), (3, .int (nI i_2)), (0, .ref mo), (1, .int (nI j)), (2, .int p2)]) hx hb dX8_meetsLike_108 hl (k := 2) rfl (nI_1 _) (by decide) rfl (fun ls hl => ?_)
            refine lv_goto (tgt := 13) hx hb dX8_meetsLike_111 (by decide) ?_
            exact ih_13 _ (by omega) _ _ _ ⟨(i_13 + 1), by omega, (lt_s hr_13 (fun _ => (by have h0_ := mz_t_n (by omega) c_43; have h1_ := mz_t_n (by omega) c_74; simp [h0_, h1_]))), rfl, hS, lv_sub hl [0, 3, 4, 5, 6] rfl, rfl⟩
          · skip
            refine lv_aload_n hx hb dX8_meetsLike_77 rfl (lv_at hl 3 rfl) ?_
            refine va_get (D := (dC, dI)) (ci := 8) (v := .ref m2) (C := RX8) (T := TX8) (N := 17) hx hb hts hiX8 hown hK hP 0 rfl rfl 2 (by decide) (hts (.fieldLink RX8 13 "MadeItSoModel" "parents" "[I") (by decide +kernel)) (fun _ h9 => h9) rfl dX8_meetsLike_78 ?_
            refine lv_iload_n hx hb dX8_meetsLike_81 rfl (lv_at hl 4 rfl) ?_
            refine va_iald hx hb hK hP 1 0 rfl rfl (vp_in_nI (by omega) (by omega)) dX8_meetsLike_82 ?_
            refine mz_ti (y := (fp j)) (by rw [mz_cl (by omega)]) ?_
            refine lv_iload hx hb dX8_meetsLike_83 (lv_at hl 1 rfl) ?_
            refine lv_ishr hx hb dX8_meetsLike_85 ?_
            refine lv_iconst (v := 1) hx hb dX8_meetsLike_86 (by decide +kernel) ?_
            refine lv_iand hx hb dX8_meetsLike_87 ?_
            refine lv_iconst (v := 1) hx hb dX8_meetsLike_88 (by decide +kernel) ?_
            refine lv_icmp_ne (tgt := 96) hx hb dX8_meetsLike_89 (by decide) (fun c_89 => ?_) (fun c_89 => ?_)
            · skip
              refine lv_iconst (v := 0) hx hb dX8_meetsLike_96 (by decide +kernel) ?_
              refine lv_istore (lv' := [(6, .int 0), (5, .int 0), (4, .int (nI i_13)), (3, .int (nI i_2)), (0, .ref mo), (1, .int (nI j)), (2, .int p2)]) hx hb dX8_meetsLike_97 hl (by decide) rfl (fun ls hl => ?_)
              refine lv_iload hx hb dX8_meetsLike_99 (lv_at hl 1 rfl) ?_
              refine lv_iload hx hb dX8_meetsLike_101 (lv_at hl 0 rfl) ?_
              refine lv_icmp_eq (tgt := 108) hx hb dX8_meetsLike_103 (by decide) (fun _ => ?_) (fun c_103 => absurd (by decide +kernel) c_103)
              refine lv_iinc (v := (nI (i_13 + 1))) (lv' := [(4, .int (nI (i_13 + 1))), (6, .int 0), (5, .int 0), (3, .int (nI i_2)), (0, .ref mo), (1, .int (nI j)), (2, .int p2)]) hx hb dX8_meetsLike_108 hl (k := 2) rfl (nI_1 _) (by decide) rfl (fun ls hl => ?_)
              refine lv_goto (tgt := 13) hx hb dX8_meetsLike_111 (by decide) ?_
              exact ih_13 _ (by omega) _ _ _ ⟨(i_13 + 1), by omega, (lt_s hr_13 (fun _ => (by have h0_ := mz_t_n (by omega) c_43; have h1_ := mz_t_y (by omega) c_74; have h2_ := mz_t_n (by omega) c_89; simp [h0_, h1_, h2_]))), rfl, hS, lv_sub hl [0, 3, 4, 5, 6] rfl, rfl⟩
            · skip
              refine lv_iconst (v := 1) hx hb dX8_meetsLike_92 (by decide +kernel) ?_
              refine lv_goto (tgt := 97) hx hb dX8_meetsLike_93 (by decide) ?_
              refine lv_istore (lv' := [(6, .int 1), (5, .int 0), (4, .int (nI i_13)), (3, .int (nI i_2)), (0, .ref mo), (1, .int (nI j)), (2, .int p2)]) hx hb dX8_meetsLike_97 hl (by decide) rfl (fun ls hl => ?_)
              refine lv_iload hx hb dX8_meetsLike_99 (lv_at hl 1 rfl) ?_
              refine lv_iload hx hb dX8_meetsLike_101 (lv_at hl 0 rfl) ?_
              refine lv_icmp_eq (tgt := 108) hx hb dX8_meetsLike_103 (by decide) (fun c_103 => absurd c_103 (by decide +kernel)) (fun _ => ?_)
              refine lv_iconst (v := 0) hx hb dX8_meetsLike_106 (by decide +kernel) ?_
              refine W.widen (k := 0) (n := 0) (Nat.le_of_ble_eq_true rfl) (Nat.le_of_ble_eq_true rfl) ?_
              exact W.zret (v := 0) hx hb hr (mz_nz (by decide +kernel)) (fun t ht hW => ⟨⟨0, (), rfl, Or.inr ⟨rfl, fun h9 => absurd (h9 i_2 i_13 (by omega) (by omega) (mz_t_n (by omega) c_31)) (by have h0_ := mz_t_n (by omega) c_43; have h1_ := mz_t_y (by omega) c_74; have h2_ := mz_t_y (by omega) c_89; simp [h0_, h1_, h2_])⟩, ht⟩, hS.F ht⟩) hS.2.2 dX8_meetsLike_107
        · skip
          refine lv_iload_n hx hb dX8_meetsLike_46 rfl (lv_at hl 4 rfl) ?_
          refine lv_iload hx hb dX8_meetsLike_47 (lv_at hl 0 rfl) ?_
          refine lv_ishr hx hb dX8_meetsLike_49 ?_
          refine lv_iconst (v := 1) hx hb dX8_meetsLike_50 (by decide +kernel) ?_
          refine lv_iand hx hb dX8_meetsLike_51 ?_
          refine lv_iconst (v := 1) hx hb dX8_meetsLike_52 (by decide +kernel) ?_
          refine lv_icmp_ne (tgt := 60) hx hb dX8_meetsLike_53 (by decide) (fun c_53 => ?_) (fun c_53 => ?_)
          · skip
            refine lv_iconst (v := 0) hx hb dX8_meetsLike_60 (by decide +kernel) ?_
            refine lv_istore (lv' := [(5, .int 0), (4, .int (nI i_13)), (3, .int (nI i_2)), (0, .ref mo), (1, .int (nI j)), (2, .int p2)]) hx hb dX8_meetsLike_61 hl (by decide) rfl (fun ls hl => ?_)
            refine lv_aload_n hx hb dX8_meetsLike_63 rfl (lv_at hl 3 rfl) ?_
            refine va_get (D := (dC, dI)) (ci := 8) (v := .ref m2) (C := RX8) (T := TX8) (N := 17) hx hb hts hiX8 hown hK hP 0 rfl rfl 2 (by decide) (hts (.fieldLink RX8 13 "MadeItSoModel" "parents" "[I") (by decide +kernel)) (fun _ h9 => h9) rfl dX8_meetsLike_64 ?_
            refine lv_iload_n hx hb dX8_meetsLike_67 rfl (lv_at hl 4 rfl) ?_
            refine va_iald hx hb hK hP 1 0 rfl rfl (vp_in_nI (by omega) (by omega)) dX8_meetsLike_68 ?_
            refine mz_ti (y := (fp j)) (by rw [mz_cl (by omega)]) ?_
            refine lv_iload_n hx hb dX8_meetsLike_69 rfl (lv_at hl 2 rfl) ?_
            refine lv_ishr hx hb dX8_meetsLike_70 ?_
            refine lv_iconst (v := 1) hx hb dX8_meetsLike_71 (by decide +kernel) ?_
            refine lv_iand hx hb dX8_meetsLike_72 ?_
            refine lv_iconst (v := 1) hx hb dX8_meetsLike_73 (by decide +kernel) ?_
            refine lv_icmp_ne (tgt := 96) hx hb dX8_meetsLike_74 (by decide) (fun c_74 => ?_) (fun c_74 => ?_)
            · skip
              refine lv_iconst (v := 0) hx hb dX8_meetsLike_96 (by decide +kernel) ?_
              refine lv_istore (lv' := [(6, .int 0), (5, .int 0), (4, .int (nI i_13)), (3, .int (nI i_2)), (0, .ref mo), (1, .int (nI j)), (2, .int p2)]) hx hb dX8_meetsLike_97 hl (by decide) rfl (fun ls hl => ?_)
              refine lv_iload hx hb dX8_meetsLike_99 (lv_at hl 1 rfl) ?_
              refine lv_iload hx hb dX8_meetsLike_101 (lv_at hl 0 rfl) ?_
              refine lv_icmp_eq (tgt := 108) hx hb dX8_meetsLike_103 (by decide) (fun _ => ?_) (fun c_103 => absurd (by decide +kernel) c_103)
              refine lv_iinc (v := (nI (i_13 + 1))) (lv' := [(4, .int (nI (i_13 + 1))), (6, .int 0), (5, .int 0), (3, .int (nI i_2)), (0, .ref mo), (1, .int (nI j)), (2, .int p2)]) hx hb dX8_meetsLike_108 hl (k := 2) rfl (nI_1 _) (by decide) rfl (fun ls hl => ?_)
              refine lv_goto (tgt := 13) hx hb dX8_meetsLike_111 (by decide) ?_
              exact ih_13 _ (by omega) _ _ _ ⟨(i_13 + 1), by omega, (lt_s hr_13 (fun _ => (by have h0_ := mz_t_y (by omega) c_43; have h1_ := mz_t_n (by omega) c_53; have h2_ := mz_t_n (by omega) c_74; simp [h0_, h1_, h2_]))), rfl, hS, lv_sub hl [0, 3, 4, 5, 6] rfl, rfl⟩
            · skip
              refine lv_aload_n hx hb dX8_meetsLike_77 rfl (lv_at hl 3 rfl) ?_
              refine va_get (D := (dC, dI)) (ci := 8) (v := .ref m2) (C := RX8) (T := TX8) (N := 17) hx hb hts hiX8 hown hK hP 0 rfl rfl 2 (by decide) (hts (.fieldLink RX8 13 "MadeItSoModel" "parents" "[I") (by decide +kernel)) (fun _ h9 => h9) rfl dX8_meetsLike_78 ?_
              refine lv_iload_n hx hb dX8_meetsLike_81 rfl (lv_at hl 4 rfl) ?_
              refine va_iald hx hb hK hP 1 0 rfl rfl (vp_in_nI (by omega) (by omega)) dX8_meetsLike_82 ?_
              refine mz_ti (y := (fp j)) (by rw [mz_cl (by omega)]) ?_
              refine lv_iload hx hb dX8_meetsLike_83 (lv_at hl 1 rfl) ?_
              refine lv_ishr hx hb dX8_meetsLike_85 ?_
              refine lv_iconst (v := 1) hx hb dX8_meetsLike_86 (by decide +kernel) ?_
              refine lv_iand hx hb dX8_meetsLike_87 ?_
              refine lv_iconst (v := 1) hx hb dX8_meetsLike_88 (by decide +kernel) ?_
              refine lv_icmp_ne (tgt := 96) hx hb dX8_meetsLike_89 (by decide) (fun c_89 => ?_) (fun c_89 => ?_)
              · skip
                refine lv_iconst (v := 0) hx hb dX8_meetsLike_96 (by decide +kernel) ?_
                refine lv_istore (lv' := [(6, .int 0), (5, .int 0), (4, .int (nI i_13)), (3, .int (nI i_2)), (0, .ref mo), (1, .int (nI j)), (2, .int p2)]) hx hb dX8_meetsLike_97 hl (by decide) rfl (fun ls hl => ?_)
                refine lv_iload hx hb dX8_meetsLike_99 (lv_at hl 1 rfl) ?_
                refine lv_iload hx hb dX8_meetsLike_101 (lv_at hl 0 rfl) ?_
                refine lv_icmp_eq (tgt := 108) hx hb dX8_meetsLike_103 (by decide) (fun _ => ?_) (fun c_103 => absurd (by decide +kernel) c_103)
                refine lv_iinc (v := (nI (i_13 + 1))) (lv' := [(4, .int (nI (i_13 + 1))), (6, .int 0), (5, .int 0), (3, .int (nI i_2)), (0, .ref mo), (1, .int (nI j)), (2, .int p2)]) hx hb dX8_meetsLike_108 hl (k := 2) rfl (nI_1 _) (by decide) rfl (fun ls hl => ?_)
                refine lv_goto (tgt := 13) hx hb dX8_meetsLike_111 (by decide) ?_
                exact ih_13 _ (by omega) _ _ _ ⟨(i_13 + 1), by omega, (lt_s hr_13 (fun _ => (by have h0_ := mz_t_y (by omega) c_43; have h1_ := mz_t_n (by omega) c_53; have h2_ := mz_t_y (by omega) c_74; have h3_ := mz_t_n (by omega) c_89; simp [h0_, h1_, h2_, h3_]))), rfl, hS, lv_sub hl [0, 3, 4, 5, 6] rfl, rfl⟩
              · skip
                refine lv_iconst (v := 1) hx hb dX8_meetsLike_92 (by decide +kernel) ?_
                refine lv_goto (tgt := 97) hx hb dX8_meetsLike_93 (by decide) ?_
                refine lv_istore (lv' := [(6, .int 1), (5, .int 0), (4, .int (nI i_13)), (3, .int (nI i_2)), (0, .ref mo), (1, .int (nI j)), (2, .int p2)]) hx hb dX8_meetsLike_97 hl (by decide) rfl (fun ls hl => ?_)
                refine lv_iload hx hb dX8_meetsLike_99 (lv_at hl 1 rfl) ?_
                refine lv_iload hx hb dX8_meetsLike_101 (lv_at hl 0 rfl) ?_
                refine lv_icmp_eq (tgt := 108) hx hb dX8_meetsLike_103 (by decide) (fun c_103 => absurd c_103 (by decide +kernel)) (fun _ => ?_)
                refine lv_iconst (v := 0) hx hb dX8_meetsLike_106 (by decide +kernel) ?_
                refine W.widen (k := 0) (n := 0) (Nat.le_of_ble_eq_true rfl) (Nat.le_of_ble_eq_true rfl) ?_
                exact W.zret (v := 0) hx hb hr (mz_nz (by decide +kernel)) (fun t ht hW => ⟨⟨0, (), rfl, Or.inr ⟨rfl, fun h9 => absurd (h9 i_2 i_13 (by omega) (by omega) (mz_t_n (by omega) c_31)) (by have h0_ := mz_t_y (by omega) c_43; have h1_ := mz_t_n (by omega) c_53; have h2_ := mz_t_y (by omega) c_74; have h3_ := mz_t_y (by omega) c_89; simp [h0_, h1_, h2_, h3_])⟩, ht⟩, hS.F ht⟩) hS.2.2 dX8_meetsLike_107
          · skip
            refine lv_iconst (v := 1) hx hb dX8_meetsLike_56 (by decide +kernel) ?_
            refine lv_goto (tgt := 61) hx hb dX8_meetsLike_57 (by decide) ?_
            refine lv_istore (lv' := [(5, .int 1), (4, .int (nI i_13)), (3, .int (nI i_2)), (0, .ref mo), (1, .int (nI j)), (2, .int p2)]) hx hb dX8_meetsLike_61 hl (by decide) rfl (fun ls hl => ?_)
            refine lv_aload_n hx hb dX8_meetsLike_63 rfl (lv_at hl 3 rfl) ?_
            refine va_get (D := (dC, dI)) (ci := 8) (v := .ref m2) (C := RX8) (T := TX8) (N := 17) hx hb hts hiX8 hown hK hP 0 rfl rfl 2 (by decide) (hts (.fieldLink RX8 13 "MadeItSoModel" "parents" "[I") (by decide +kernel)) (fun _ h9 => h9) rfl dX8_meetsLike_64 ?_
            refine lv_iload_n hx hb dX8_meetsLike_67 rfl (lv_at hl 4 rfl) ?_
            refine va_iald hx hb hK hP 1 0 rfl rfl (vp_in_nI (by omega) (by omega)) dX8_meetsLike_68 ?_
            refine mz_ti (y := (fp j)) (by rw [mz_cl (by omega)]) ?_
            refine lv_iload_n hx hb dX8_meetsLike_69 rfl (lv_at hl 2 rfl) ?_
            refine lv_ishr hx hb dX8_meetsLike_70 ?_
            refine lv_iconst (v := 1) hx hb dX8_meetsLike_71 (by decide +kernel) ?_
            refine lv_iand hx hb dX8_meetsLike_72 ?_
            refine lv_iconst (v := 1) hx hb dX8_meetsLike_73 (by decide +kernel) ?_
            refine lv_icmp_ne (tgt := 96) hx hb dX8_meetsLike_74 (by decide) (fun c_74 => ?_) (fun c_74 => ?_)
            · skip
              refine lv_iconst (v := 0) hx hb dX8_meetsLike_96 (by decide +kernel) ?_
              refine lv_istore (lv' := [(6, .int 0), (5, .int 1), (4, .int (nI i_13)), (3, .int (nI i_2)), (0, .ref mo), (1, .int (nI j)), (2, .int p2)]) hx hb dX8_meetsLike_97 hl (by decide) rfl (fun ls hl => ?_)
              refine lv_iload hx hb dX8_meetsLike_99 (lv_at hl 1 rfl) ?_
              refine lv_iload hx hb dX8_meetsLike_101 (lv_at hl 0 rfl) ?_
              refine lv_icmp_eq (tgt := 108) hx hb dX8_meetsLike_103 (by decide) (fun c_103 => absurd c_103 (by decide +kernel)) (fun _ => ?_)
              refine lv_iconst (v := 0) hx hb dX8_meetsLike_106 (by decide +kernel) ?_
              refine W.widen (k := 0) (n := 0) (Nat.le_of_ble_eq_true rfl) (Nat.le_of_ble_eq_true rfl) ?_
              exact W.zret (v := 0) hx hb hr (mz_nz (by decide +kernel)) (fun t ht hW => ⟨⟨0, (), rfl, Or.inr ⟨rfl, fun h9 => absurd (h9 i_2 i_13 (by omega) (by omega) (mz_t_n (by omega) c_31)) (by have h0_ := mz_t_y (by omega) c_43; have h1_ := mz_t_y (by omega) c_53; have h2_ := mz_t_n (by omega) c_74; simp [h0_, h1_, h2_])⟩, ht⟩, hS.F ht⟩) hS.2.2 dX8_meetsLike_107
            · skip
              refine lv_aload_n hx hb dX8_meetsLike_77 rfl (lv_at hl 3 rfl) ?_
              refine va_get (D := (dC, dI)) (ci := 8) (v := .ref m2) (C := RX8) (T := TX8) (N := 17) hx hb hts hiX8 hown hK hP 0 rfl rfl 2 (by decide) (hts (.fieldLink RX8 13 "MadeItSoModel" "parents" "[I") (by decide +kernel)) (fun _ h9 => h9) rfl dX8_meetsLike_78 ?_
              refine lv_iload_n hx hb dX8_meetsLike_81 rfl (lv_at hl 4 rfl) ?_
              refine va_iald hx hb hK hP 1 0 rfl rfl (vp_in_nI (by omega) (by omega)) dX8_meetsLike_82 ?_
              refine mz_ti (y := (fp j)) (by rw [mz_cl (by omega)]) ?_
              refine lv_iload hx hb dX8_meetsLike_83 (lv_at hl 1 rfl) ?_
              refine lv_ishr hx hb dX8_meetsLike_85 ?_
              refine lv_iconst (v := 1) hx hb dX8_meetsLike_86 (by decide +kernel) ?_
              refine lv_iand hx hb dX8_meetsLike_87 ?_
              refine lv_iconst (v := 1) hx hb dX8_meetsLike_88 (by decide +kernel) ?_
              refine lv_icmp_ne (tgt := 96) hx hb dX8_meetsLike_89 (by decide) (fun c_89 => ?_) (fun c_89 => ?_)
              · skip
                refine lv_iconst (v := 0) hx hb dX8_meetsLike_96 (by decide +kernel) ?_
                refine lv_istore (lv' := [(6, .int 0), (5, .int 1), (4, .int (nI i_13)), (3, .int (nI i_2)), (0, .ref mo), (1, .int (nI j)), (2, .int p2)]) hx hb dX8_meetsLike_97 hl (by decide) rfl (fun ls hl => ?_)
                refine lv_iload hx hb dX8_meetsLike_99 (lv_at hl 1 rfl) ?_
                refine lv_iload hx hb dX8_meetsLike_101 (lv_at hl 0 rfl) ?_
                refine lv_icmp_eq (tgt := 108) hx hb dX8_meetsLike_103 (by decide) (fun c_103 => absurd c_103 (by decide +kernel)) (fun _ => ?_)
                refine lv_iconst (v := 0) hx hb dX8_meetsLike_106 (by decide +kernel) ?_
                refine W.widen (k := 0) (n := 0) (Nat.le_of_ble_eq_true rfl) (Nat.le_of_ble_eq_true rfl) ?_
                exact W.zret (v := 0) hx hb hr (mz_nz (by decide +kernel)) (fun t ht hW => ⟨⟨0, (), rfl, Or.inr ⟨rfl, fun h9 => absurd (h9 i_2 i_13 (by omega) (by omega) (mz_t_n (by omega) c_31)) (by have h0_ := mz_t_y (by omega) c_43; have h1_ := mz_t_y (by omega) c_53; have h2_ := mz_t_y (by omega) c_74; have h3_ := mz_t_n (by omega) c_89; simp [h0_, h1_, h2_, h3_])⟩, ht⟩, hS.F ht⟩) hS.2.2 dX8_meetsLike_107
              · skip
                refine lv_iconst (v := 1) hx hb dX8_meetsLike_92 (by decide +kernel) ?_
                refine lv_goto (tgt := 97) hx hb dX8_meetsLike_93 (by decide) ?_
                refine lv_istore (lv' := [(6, .int 1), (5, .int 1), (4, .int (nI i_13)), (3, .int (nI i_2)), (0, .ref mo), (1, .int (nI j)), (2, .int p2)]) hx hb dX8_meetsLike_97 hl (by decide) rfl (fun ls hl => ?_)
                refine lv_iload hx hb dX8_meetsLike_99 (lv_at hl 1 rfl) ?_
                refine lv_iload hx hb dX8_meetsLike_101 (lv_at hl 0 rfl) ?_
                refine lv_icmp_eq (tgt := 108) hx hb dX8_meetsLike_103 (by decide) (fun _ => ?_) (fun c_103 => absurd (by decide +kernel) c_103)
                refine lv_iinc (v := (nI (i_13 + 1))) (lv' := [(4, .int (nI (i_13 + 1))), (6, .int 1), (5, .int 1), (3, .int (nI i_2)), (0, .ref mo), (1, .int (nI j)), (2, .int p2)]) hx hb dX8_meetsLike_108 hl (k := 2) rfl (nI_1 _) (by decide) rfl (fun ls hl => ?_)
                refine lv_goto (tgt := 13) hx hb dX8_meetsLike_111 (by decide) ?_
                exact ih_13 _ (by omega) _ _ _ ⟨(i_13 + 1), by omega, (lt_s hr_13 (fun _ => (by have h0_ := mz_t_y (by omega) c_43; have h1_ := mz_t_y (by omega) c_53; have h2_ := mz_t_y (by omega) c_74; have h3_ := mz_t_y (by omega) c_89; simp [h0_, h1_, h2_, h3_]))), rfl, hS, lv_sub hl [0, 3, 4, 5, 6] rfl, rfl⟩
      · skip
        refine lv_goto (tgt := 108) hx hb dX8_meetsLike_34 (by decide) ?_
        refine lv_iinc (v := (nI (i_13 + 1))) (lv' := [(4, .int (nI (i_13 + 1))), (3, .int (nI i_2)), (0, .ref mo), (1, .int (nI j)), (2, .int p2)]) hx hb dX8_meetsLike_108 hl (k := 0) rfl (nI_1 _) (by decide) rfl (fun ls hl => ?_)
        refine lv_goto (tgt := 13) hx hb dX8_meetsLike_111 (by decide) ?_
        exact ih_13 _ (by omega) _ _ _ ⟨(i_13 + 1), by omega, (lt_s hr_13 (fun h9 => by rw [mz_t_y (by omega) c_31] at h9; cases h9)), rfl, hS, lv_sub hl [0, 1, 2, 3, 4] rfl, rfl⟩
set_option maxHeartbeats 1000000 in
set_option maxRecDepth 100000 in
theorem mz_v_m_isLeastOrder (l : Launch) (dC : Nat → ClassId) (dI : Nat → Nat → Nat) (cI cJ cZ : ClassId) (mo : Nat) (m1 : Nat) (m2 : Nat) (m3 : Nat) (m6 : Nat) (m7 : Nat) (m8 : Nat) (m9 : Nat) (m10 : Nat) (m11 : Nat) (m12 : Nat) (m13 : Nat) (m14 : Nat) (m15 : Nat) (m16 : Nat) (n : Nat) (ka : Int64) (kb : Int64) (fo : Nat → Int32) (fj : Nat → Int32) (j : Nat) (u : Nat) (jo : Nat → Int32) (O0 : Nat → Nat) (Hq : Heap) (hn : n ≤ 8) (hj : j < n) (hu : u ≤ 8) (hfj : ∀ k, k < n → fj k = jo k) (hO0 : ∀ d, d < u → fo d = nI (O0 d) ∧ O0 d < 8) : Met l yX8_isLeastOrder wsX8_isLeastOrder ({ frames := 0, cells := 0, slots := 0, locals := 0 }) (va_Pc [.ref mo, .int (nI j), .int (nI u)] (fun U => U.heap = Hq ∧ va_P (dC, dI) vwCl [(mo, .inr (8, [.int (nI n), .ref m1, .ref m2, .ref m3, .long ka, .long kb, .ref m6, .ref m7, .ref m8, .ref m9, .ref m10, .ref m11, .ref m12, .ref m13, .ref m14, .ref m15, .ref m16])), (m12, .inl (cI, 8, .inl fo)), (m16, .inl (cI, 8, .inl fj))] Hq ∧ va_K (dC, dI) vwCl [(cI, FieldType.int), (cJ, FieldType.long), (cZ, FieldType.boolean)] U ∧ mz_N U)) (va_Qi (fun (r : Int32) (_ : Unit) => (r = 1 ∧ (mz_lo jo j (mz_wd O0 u))) ∨ (r = 0 ∧ ¬ (mz_lo jo j (mz_wd O0 u)))) (fun _ t => t.heap = Hq) (fun _ : Nat => False)) 0 0 (fun _ : Nat => False) := by
  refine Met.ofW (cc := cX8_isLeastOrder) (maxL := 4) (ret := (some .boolean)) (by decide) rfl ?_
  intro p e s m args below meth c s₁ B hml hv
  obtain ⟨rfl, hH, hP, hK, hN⟩ := hv
  subst hH
  have hx := B.exec
  have hb := B.bytes
  have hr := B.returns
  have hts := atoms_spec (ws := wsX8_isLeastOrder) B.pre
  have hown : s.vm.findClass RX8 = some m.cls := findClass_of_methodNamed B.named
  have hlocks := B.notSynchronized
  have hS : va_S (fun _ : Nat => False) s.heap s.heap [] := va_S.rf
  have hiX8 : ∀ w ∈ u_ws RX8 TX8 17, w ∈ wsX8_isLeastOrder := by decide +kernel
  have hl := lv_entry ([.ref mo, .int (nI j), .int (nI u)]) (n := 4) (Nat.le_of_ble_eq_true rfl)
  rw [lg_entry_eq]
  generalize (lg_sl ([.ref mo, .int (nI j), .int (nI u)]) ++ List.replicate (4 - (lg_sl ([.ref mo, .int (nI j), .int (nI u)])).length) Slot.unset).toArray = ls at hl ⊢
  have hl : lv_has ls 4 [(0, .ref mo), (1, .int (nI j)), (2, .int (nI u))] := hl
  refine lv_iload_n hx hb dX8_isLeastOrder_0 rfl (lv_at hl 2 rfl) ?_
  refine lv_iconst (v := 1) hx hb dX8_isLeastOrder_1 (by decide +kernel) ?_
  refine lv_isub hx hb dX8_isLeastOrder_2 ?_
  refine lv_istore_n (lv' := [(3, .int ((nI u) - 1)), (0, .ref mo), (1, .int (nI j)), (2, .int (nI u))]) hx hb dX8_isLeastOrder_3 rfl hl (by decide) rfl (fun ls hl => ?_)
  refine mz_loopU (fun k H locs ls => ∃ (x3_4 : Int32), (mz_lwo jo O0 j u x3_4) ∧ H = s.heap ∧ va_S (fun _ : Nat => False) s.heap H locs ∧ lv_has ls 4 [(3, .int x3_4), (0, .ref mo), (1, .int (nI j)), (2, .int (nI u))] ∧ k = (x3_4.toInt + 1).toNat) ?_ _ _ _ _ ⟨((nI u) - 1), mz_lw_0, rfl, hS, lv_sub hl [0, 1, 2, 3] rfl, rfl⟩
  intro k_4 H locs ls hI_4 ih_4
  obtain ⟨x3_4, hx_4, hH_4, hS, hl, hk_4⟩ := hI_4
  subst hH_4
  refine lv_iload_n hx hb dX8_isLeastOrder_4 rfl (lv_at hl 0 rfl) ?_
  refine lv_if_lt (tgt := 44) hx hb dX8_isLeastOrder_5 (by decide) (fun c_5 => ?_) (fun c_5 => ?_)
  · skip
    refine lv_iconst (v := 1) hx hb dX8_isLeastOrder_44 (by decide +kernel) ?_
    refine W.widen (k := 0) (n := 0) (Nat.le_of_ble_eq_true rfl) (Nat.le_of_ble_eq_true rfl) ?_
    exact W.zret (v := 1) hx hb hr (mz_nz (by decide +kernel)) (fun t ht hW => ⟨⟨1, (), rfl, Or.inl ⟨rfl, mz_lw_end hu hx_4 c_5⟩, ht⟩, hS.F ht⟩) hS.2.2 dX8_isLeastOrder_45
  · skip
    rcases hx_4 with ⟨h_8, _⟩ | ⟨q_8, hq_8, h_8, hw_8⟩
    · exact absurd (show x3_4 < 0 by rw [h_8]; decide) c_5
    subst h_8
    have hO_ := hO0 q_8 hq_8
    have hO2_ := hO_.2
    refine lv_aload_n hx hb dX8_isLeastOrder_8 rfl (lv_at hl 1 rfl) ?_
    refine va_get (D := (dC, dI)) (ci := 8) (v := .ref m16) (C := RX8) (T := TX8) (N := 17) hx hb hts hiX8 hown hK hP 0 rfl rfl 16 (by decide) (hts (.fieldLink RX8 55 "MadeItSoModel" "joined" "[I") (by decide +kernel)) (fun _ h9 => h9) rfl dX8_isLeastOrder_9 ?_
    refine lv_iload_n hx hb dX8_isLeastOrder_12 rfl (lv_at hl 2 rfl) ?_
    refine va_iald hx hb hK hP 2 0 rfl rfl (vp_in_nI (by omega) (by omega)) dX8_isLeastOrder_13 ?_
    refine mz_ti (y := (fj j)) (by rw [mz_cl (by omega)]) ?_
    refine mz_ti (y := (jo j)) (hfj j hj) ?_
    refine lv_aload_n hx hb dX8_isLeastOrder_14 rfl (lv_at hl 1 rfl) ?_
    refine va_get (D := (dC, dI)) (ci := 8) (v := .ref m12) (C := RX8) (T := TX8) (N := 17) hx hb hts hiX8 hown hK hP 0 rfl rfl 12 (by decide) (hts (.fieldLink RX8 43 "MadeItSoModel" "order" "[I") (by decide +kernel)) (fun _ h9 => h9) rfl dX8_isLeastOrder_15 ?_
    refine lv_iload_n hx hb dX8_isLeastOrder_18 rfl (lv_at hl 0 rfl) ?_
    refine va_iald hx hb hK hP 1 0 rfl rfl (vp_in_nI (by omega) (by omega)) dX8_isLeastOrder_19 ?_
    refine mz_ti (y := (fo q_8)) (by rw [mz_cl (by omega)]) ?_
    refine mz_ti (y := (nI (O0 q_8))) hO_.1 ?_
    refine lv_ishr hx hb dX8_isLeastOrder_20 ?_
    refine lv_iconst (v := 1) hx hb dX8_isLeastOrder_21 (by decide +kernel) ?_
    refine lv_iand hx hb dX8_isLeastOrder_22 ?_
    refine lv_if_ne (tgt := 44) hx hb dX8_isLeastOrder_23 (by decide) (fun c_23 => ?_) (fun c_23 => ?_)
    · skip
      refine lv_iconst (v := 1) hx hb dX8_isLeastOrder_44 (by decide +kernel) ?_
      refine W.widen (k := 0) (n := 0) (Nat.le_of_ble_eq_true rfl) (Nat.le_of_ble_eq_true rfl) ?_
      exact W.zret (v := 1) hx hb hr (mz_nz (by decide +kernel)) (fun t ht hW => ⟨⟨1, (), rfl, Or.inl ⟨rfl, hw_8.mpr (Or.inl (mz_t_y0 (by omega) c_23))⟩, ht⟩, hS.F ht⟩) hS.2.2 dX8_isLeastOrder_45
    · skip
      refine lv_aload_n hx hb dX8_isLeastOrder_26 rfl (lv_at hl 1 rfl) ?_
      refine va_get (D := (dC, dI)) (ci := 8) (v := .ref m12) (C := RX8) (T := TX8) (N := 17) hx hb hts hiX8 hown hK hP 0 rfl rfl 12 (by decide) (hts (.fieldLink RX8 43 "MadeItSoModel" "order" "[I") (by decide +kernel)) (fun _ h9 => h9) rfl dX8_isLeastOrder_27 ?_
      refine lv_iload_n hx hb dX8_isLeastOrder_30 rfl (lv_at hl 0 rfl) ?_
      refine va_iald hx hb hK hP 1 0 rfl rfl (vp_in_nI (by omega) (by omega)) dX8_isLeastOrder_31 ?_
      refine mz_ti (y := (fo q_8)) (by rw [mz_cl (by omega)]) ?_
      refine mz_ti (y := (nI (O0 q_8))) hO_.1 ?_
      refine lv_iload_n hx hb dX8_isLeastOrder_32 rfl (lv_at hl 2 rfl) ?_
      refine lv_icmp_le (tgt := 38) hx hb dX8_isLeastOrder_33 (by decide) (fun c_33 => ?_) (fun c_33 => ?_)
      · skip
        have d_33 : O0 q_8 ≤ j := (nI_leI (a := O0 q_8) (b := j) (by omega) (by omega)).mp c_33
        obtain ⟨v_38, ev_38⟩ : ∃ y : Int32, y = (nI q_8) + Int32.ofInt (-1) := ⟨_, rfl⟩
        refine lv_iinc (v := v_38) (lv' := [(3, .int v_38), (0, .ref mo), (1, .int (nI j)), (2, .int (nI u))]) hx hb dX8_isLeastOrder_38 hl (k := 0) rfl ev_38.symm (by decide) rfl (fun ls hl => ?_)
        refine lv_goto (tgt := 4) hx hb dX8_isLeastOrder_41 (by decide) ?_
        exact ih_4 _ (by rw [hk_4]; exact mz_predsG (by omega) ev_38) _ _ _ ⟨v_38, (mz_lw_s hq_8 hw_8 (mz_t_n0 (by omega) c_23) d_33 ev_38), rfl, hS, lv_sub hl [0, 1, 2, 3] rfl, rfl⟩
      · skip
        have d_33 : ¬ O0 q_8 ≤ j := fun h => c_33 ((nI_leI (a := O0 q_8) (b := j) (by omega) (by omega)).mpr h)
        refine lv_iconst (v := 0) hx hb dX8_isLeastOrder_36 (by decide +kernel) ?_
        refine W.widen (k := 0) (n := 0) (Nat.le_of_ble_eq_true rfl) (Nat.le_of_ble_eq_true rfl) ?_
        exact W.zret (v := 0) hx hb hr (mz_nz (by decide +kernel)) (fun t ht hW => ⟨⟨0, (), rfl, Or.inr ⟨rfl, fun h9 => (hw_8.mp h9).elim (fun h8 => by rw [mz_t_n0 (by omega) c_23] at h8; cases h8) (fun h8 => d_33 h8.1)⟩, ht⟩, hS.F ht⟩) hS.2.2 dX8_isLeastOrder_37
set_option maxHeartbeats 1000000 in
set_option maxRecDepth 100000 in
theorem mz_v_m_drawings (l : Launch) (dC : Nat → ClassId) (dI : Nat → Nat → Nat) (cI cJ cZ : ClassId) (mo : Nat) (m1 : Nat) (m2 : Nat) (m3 : Nat) (m6 : Nat) (m7 : Nat) (m8 : Nat) (m9 : Nat) (m10 : Nat) (m11 : Nat) (m12 : Nat) (m13 : Nat) (m14 : Nat) (m15 : Nat) (m16 : Nat) (n : Nat) (ka : Int64) (kb : Int64) (fp : Nat → Int32) (fo : Nat → Int32) (fc : Nat → Int32) (fq : Nat → Int32) (fa : Nat → Int32) (fj : Nat → Int32) (jo : Nat → Int32) (sz : Nat) (hn : n ≤ 8) (hbl : mz_bl fa) (hjm : ∀ t9, t9 < n → ∀ k9, k9 < 32 → (mz_t (jo t9) k9 = true ↔ mz_t (fp t9) k9 = true ∨ (k9 < n ∧ mz_t (fp k9) t9 = true))) : Met l yX8_drawings wsX8_drawings ({ frames := 2, cells := 0, slots := 0, locals := 43 }) (va_Pc [.ref mo] (fun U => U.heap.size = sz ∧ va_P (dC, dI) vwCl [(mo, .inr (8, [.int (nI n), .ref m1, .ref m2, .ref m3, .long ka, .long kb, .ref m6, .ref m7, .ref m8, .ref m9, .ref m10, .ref m11, .ref m12, .ref m13, .ref m14, .ref m15, .ref m16])), (m2, .inl (cI, 8, .inl fp)), (m12, .inl (cI, 8, .inl fo)), (m13, .inl (cI, 9, .inl fc)), (m14, .inl (cI, 8, .inl fq)), (m15, .inl (cZ, 64, .inl fa)), (m16, .inl (cI, 8, .inl fj))] U.heap ∧ va_K (dC, dI) vwCl [(cI, FieldType.int), (cJ, FieldType.long), (cZ, FieldType.boolean)] U ∧ va_D (fun _ => True) [(mo, .inr (8, [.int (nI n), .ref m1, .ref m2, .ref m3, .long ka, .long kb, .ref m6, .ref m7, .ref m8, .ref m9, .ref m10, .ref m11, .ref m12, .ref m13, .ref m14, .ref m15, .ref m16])), (m2, .inl (cI, 8, .inl fp)), (m12, .inl (cI, 8, .inl fo)), (m13, .inl (cI, 9, .inl fc)), (m14, .inl (cI, 8, .inl fq)), (m15, .inl (cZ, 64, .inl fa)), (m16, .inl (cI, 8, .inl fj))] ∧ mz_N U)) (va_Qi (fun (r : Int32) (_ : Unit) => r = (nI (mz_cw n jo (mz_Vm n jo fp) n (fun _ => True)))) (fun _ t => ∃ (go : Nat → Int32), ∃ (gc : Nat → Int32), ∃ (gq : Nat → Int32), ∃ (ga : Nat → Int32), ∃ (gj : Nat → Int32), (mz_bl ga) ∧ (mz_tb n (mz_AA n jo (mz_Vm n jo fp) (fun _ => True)) ga) ∧ va_P (dC, dI) vwCl [(mo, .inr (8, [.int (nI n), .ref m1, .ref m2, .ref m3, .long ka, .long kb, .ref m6, .ref m7, .ref m8, .ref m9, .ref m10, .ref m11, .ref m12, .ref m13, .ref m14, .ref m15, .ref m16])), (m2, .inl (cI, 8, .inl fp)), (m12, .inl (cI, 8, .inl go)), (m13, .inl (cI, 9, .inl gc)), (m14, .inl (cI, 8, .inl gq)), (m15, .inl (cZ, 64, .inl ga)), (m16, .inl (cI, 8, .inl gj))] t.heap ∧ va_D (va_A [(mo, .inr (8, [.int (nI n), .ref m1, .ref m2, .ref m3, .long ka, .long kb, .ref m6, .ref m7, .ref m8, .ref m9, .ref m10, .ref m11, .ref m12, .ref m13, .ref m14, .ref m15, .ref m16])), (m2, .inl (cI, 8, .inl fp)), (m12, .inl (cI, 8, .inl fo)), (m13, .inl (cI, 9, .inl fc)), (m14, .inl (cI, 8, .inl fq)), (m15, .inl (cZ, 64, .inl fa)), (m16, .inl (cI, 8, .inl fj))] sz) [(mo, .inr (8, [.int (nI n), .ref m1, .ref m2, .ref m3, .long ka, .long kb, .ref m6, .ref m7, .ref m8, .ref m9, .ref m10, .ref m11, .ref m12, .ref m13, .ref m14, .ref m15, .ref m16])), (m2, .inl (cI, 8, .inl fp)), (m12, .inl (cI, 8, .inl go)), (m13, .inl (cI, 9, .inl gc)), (m14, .inl (cI, 8, .inl gq)), (m15, .inl (cZ, 64, .inl ga)), (m16, .inl (cI, 8, .inl gj))]) (va_A [(mo, .inr (8, [.int (nI n), .ref m1, .ref m2, .ref m3, .long ka, .long kb, .ref m6, .ref m7, .ref m8, .ref m9, .ref m10, .ref m11, .ref m12, .ref m13, .ref m14, .ref m15, .ref m16])), (m2, .inl (cI, 8, .inl fp)), (m12, .inl (cI, 8, .inl fo)), (m13, .inl (cI, 9, .inl fc)), (m14, .inl (cI, 8, .inl fq)), (m15, .inl (cZ, 64, .inl fa)), (m16, .inl (cI, 8, .inl fj))] sz)) 0 0 (va_A [(mo, .inr (8, [.int (nI n), .ref m1, .ref m2, .ref m3, .long ka, .long kb, .ref m6, .ref m7, .ref m8, .ref m9, .ref m10, .ref m11, .ref m12, .ref m13, .ref m14, .ref m15, .ref m16])), (m2, .inl (cI, 8, .inl fp)), (m12, .inl (cI, 8, .inl fo)), (m13, .inl (cI, 9, .inl fc)), (m14, .inl (cI, 8, .inl fq)), (m15, .inl (cZ, 64, .inl fa)), (m16, .inl (cI, 8, .inl fj))] sz) := by
  refine Met.ofW (cc := cX8_drawings) (maxL := 6) (ret := (some .int)) (by decide) rfl ?_
  intro p e s m args below meth c s₁ B hml hv
  obtain ⟨rfl, hsz, hP, hK, hD0, hN⟩ := hv
  subst hsz
  have hx := B.exec
  have hb := B.bytes
  have hr := B.returns
  have hts := atoms_spec (ws := wsX8_drawings) B.pre
  have hown : s.vm.findClass RX8 = some m.cls := findClass_of_methodNamed B.named
  have hlocks := B.notSynchronized
  have hD := hD0.self (sz := s.heap.size)
  generalize hAe : va_A [(mo, .inr (8, [.int (nI n), .ref m1, .ref m2, .ref m3, .long ka, .long kb, .ref m6, .ref m7, .ref m8, .ref m9, .ref m10, .ref m11, .ref m12, .ref m13, .ref m14, .ref m15, .ref m16])), (m2, .inl (cI, 8, .inl fp)), (m12, .inl (cI, 8, .inl fo)), (m13, .inl (cI, 9, .inl fc)), (m14, .inl (cI, 8, .inl fq)), (m15, .inl (cZ, 64, .inl fa)), (m16, .inl (cI, 8, .inl fj))] s.heap.size = A at hD ⊢
  have hA : ∀ q : Nat, s.heap.size ≤ q → A q := fun q h => by rw [← hAe]; exact Or.inr h
  have hS : va_S A s.heap s.heap [] := va_S.rf
  have hiX8 : ∀ w ∈ u_ws RX8 TX8 17, w ∈ wsX8_drawings := by decide +kernel
  have hl := lv_entry ([.ref mo]) (n := 6) (Nat.le_of_ble_eq_true rfl)
  rw [lg_entry_eq]
  generalize (lg_sl ([.ref mo]) ++ List.replicate (6 - (lg_sl ([.ref mo])).length) Slot.unset).toArray = ls at hl ⊢
  have hl : lv_has ls 6 [(0, .ref mo)] := hl
  refine lv_iconst (v := 0) hx hb dX8_drawings_0 (by decide +kernel) ?_
  refine lv_istore_n (lv' := [(1, .int 0), (0, .ref mo)]) hx hb dX8_drawings_1 rfl hl (by decide) rfl (fun ls hl => ?_)
  refine mz_loopU (fun k H locs ls => ∃ (i_2 : Nat), ∃ (fm16_2 : Nat → Int32), i_2 ≤ n ∧ (∀ k, k < i_2 → fm16_2 k = jo k) ∧ va_P (dC, dI) vwCl [(mo, .inr (8, [.int (nI n), .ref m1, .ref m2, .ref m3, .long ka, .long kb, .ref m6, .ref m7, .ref m8, .ref m9, .ref m10, .ref m11, .ref m12, .ref m13, .ref m14, .ref m15, .ref m16])), (m2, .inl (cI, 8, .inl fp)), (m12, .inl (cI, 8, .inl fo)), (m13, .inl (cI, 9, .inl fc)), (m14, .inl (cI, 8, .inl fq)), (m15, .inl (cZ, 64, .inl fa)), (m16, .inl (cI, 8, .inl fm16_2))] H ∧ va_D A [(mo, .inr (8, [.int (nI n), .ref m1, .ref m2, .ref m3, .long ka, .long kb, .ref m6, .ref m7, .ref m8, .ref m9, .ref m10, .ref m11, .ref m12, .ref m13, .ref m14, .ref m15, .ref m16])), (m2, .inl (cI, 8, .inl fp)), (m12, .inl (cI, 8, .inl fo)), (m13, .inl (cI, 9, .inl fc)), (m14, .inl (cI, 8, .inl fq)), (m15, .inl (cZ, 64, .inl fa)), (m16, .inl (cI, 8, .inl fm16_2))] ∧ va_S A s.heap H locs ∧ lv_has ls 6 [(1, .int (nI i_2)), (0, .ref mo)] ∧ k = n - i_2) ?_ _ _ _ _ ⟨0, fj, by omega, (fun k hk => absurd hk (Nat.not_lt_zero k)), hP, hD, hS, lv_sub hl [0, 1] rfl, rfl⟩
  intro k_2 H locs ls hI_2 ih_2
  obtain ⟨i_2, fm16_2, hi_2, hj2_2, hP, hD, hS, hl, hk_2⟩ := hI_2
  refine lv_iload_n hx hb dX8_drawings_2 rfl (lv_at hl 0 rfl) ?_
  refine lv_aload_n hx hb dX8_drawings_3 rfl (lv_at hl 1 rfl) ?_
  refine va_get (D := (dC, dI)) (ci := 8) (v := .int (nI n)) (C := RX8) (T := TX8) (N := 17) hx hb hts hiX8 hown hK hP 0 rfl rfl 0 (by decide) (hts (.fieldLink RX8 58 "MadeItSoModel" "many" "I") (by decide +kernel)) (fun _ h9 => h9) rfl dX8_drawings_4 ?_
  refine lv_icmp_ge (tgt := 69) hx hb dX8_drawings_7 (by decide) (fun c_7 => ?_) (fun c_7 => ?_)
  · skip
    have d_7 : n ≤ i_2 := (nI_leI (a := n) (b := i_2) (by omega) (by omega)).mp c_7
    refine lv_iconst (v := 0) hx hb dX8_drawings_69 (by decide +kernel) ?_
    refine lv_istore_n (lv' := [(1, .int 0), (0, .ref mo)]) hx hb dX8_drawings_70 rfl hl (by decide) rfl (fun ls hl => ?_)
    refine mz_loopU (fun k H locs ls => ∃ (i_71 : Nat), ∃ (fm15_71 : Nat → Int32), i_71 ≤ 64 ∧ (mz_bl fm15_71) ∧ (∀ q, q < i_71 → fm15_71 q = 1) ∧ va_P (dC, dI) vwCl [(mo, .inr (8, [.int (nI n), .ref m1, .ref m2, .ref m3, .long ka, .long kb, .ref m6, .ref m7, .ref m8, .ref m9, .ref m10, .ref m11, .ref m12, .ref m13, .ref m14, .ref m15, .ref m16])), (m2, .inl (cI, 8, .inl fp)), (m12, .inl (cI, 8, .inl fo)), (m13, .inl (cI, 9, .inl fc)), (m14, .inl (cI, 8, .inl fq)), (m15, .inl (cZ, 64, .inl fm15_71)), (m16, .inl (cI, 8, .inl fm16_2))] H ∧ va_D A [(mo, .inr (8, [.int (nI n), .ref m1, .ref m2, .ref m3, .long ka, .long kb, .ref m6, .ref m7, .ref m8, .ref m9, .ref m10, .ref m11, .ref m12, .ref m13, .ref m14, .ref m15, .ref m16])), (m2, .inl (cI, 8, .inl fp)), (m12, .inl (cI, 8, .inl fo)), (m13, .inl (cI, 9, .inl fc)), (m14, .inl (cI, 8, .inl fq)), (m15, .inl (cZ, 64, .inl fm15_71)), (m16, .inl (cI, 8, .inl fm16_2))] ∧ va_S A s.heap H locs ∧ lv_has ls 6 [(1, .int (nI i_71)), (0, .ref mo)] ∧ k = 64 - i_71) ?_ _ _ _ _ ⟨0, fa, by omega, (by first | assumption | omega), (fun q hq => absurd hq (Nat.not_lt_zero q)), hP, hD, hS, lv_sub hl [0, 1] rfl, rfl⟩
    intro k_71 H locs ls hI_71 ih_71
    obtain ⟨i_71, fm15_71, hi_71, hb_71, ho_71, hP, hD, hS, hl, hk_71⟩ := hI_71
    refine lv_iload_n hx hb dX8_drawings_71 rfl (lv_at hl 0 rfl) ?_
    refine lv_bipush (v := 64) hx hb dX8_drawings_72 (by decide +kernel) ?_
    refine lv_icmp_ge (tgt := 90) hx hb dX8_drawings_74 (by decide) (fun c_74 => ?_) (fun c_74 => ?_)
    · skip
      have d_74 : 64 ≤ i_71 := (nI_leI (a := 64) (b := i_71) (by omega) (by omega)).mp c_74
      refine lv_iconst (v := 0) hx hb dX8_drawings_90 (by decide +kernel) ?_
      refine lv_istore_n (lv' := [(1, .int 0), (0, .ref mo)]) hx hb dX8_drawings_91 rfl hl (by decide) rfl (fun ls hl => ?_)
      refine lv_iconst (v := 0) hx hb dX8_drawings_92 (by decide +kernel) ?_
      refine lv_istore_n (lv' := [(2, .int 0), (1, .int 0), (0, .ref mo)]) hx hb dX8_drawings_93 rfl hl (by decide) rfl (fun ls hl => ?_)
      refine lv_iconst (v := 0) hx hb dX8_drawings_94 (by decide +kernel) ?_
      refine lv_istore_n (lv' := [(3, .int 0), (2, .int 0), (1, .int 0), (0, .ref mo)]) hx hb dX8_drawings_95 rfl hl (by decide) rfl (fun ls hl => ?_)
      refine lv_aload_n hx hb dX8_drawings_96 rfl (lv_at hl 3 rfl) ?_
      refine va_get (D := (dC, dI)) (ci := 8) (v := .ref m13) (C := RX8) (T := TX8) (N := 17) hx hb hts hiX8 hown hK hP 0 rfl rfl 13 (by decide) (hts (.fieldLink RX8 46 "MadeItSoModel" "choice" "[I") (by decide +kernel)) (fun _ h9 => h9) rfl dX8_drawings_97 ?_
      refine lv_iconst (v := 0) hx hb dX8_drawings_100 (by decide +kernel) ?_
      refine lv_iconst (v := 0) hx hb dX8_drawings_101 (by decide +kernel) ?_
      refine va_iast hx hb hK hP hD hS 3 0 rfl rfl (mz_in (by decide +kernel)) dX8_drawings_102 (fun H locs hP hD hS => ?_)
      rw [show (0 : Int32).toNatClampNeg = 0 by decide] at hP hD
      have hP : va_P (dC, dI) vwCl [(mo, .inr (8, [.int (nI n), .ref m1, .ref m2, .ref m3, .long ka, .long kb, .ref m6, .ref m7, .ref m8, .ref m9, .ref m10, .ref m11, .ref m12, .ref m13, .ref m14, .ref m15, .ref m16])), (m2, .inl (cI, 8, .inl fp)), (m12, .inl (cI, 8, .inl fo)), (m13, .inl (cI, 9, .inl (upd fc 0 0))), (m14, .inl (cI, 8, .inl fq)), (m15, .inl (cZ, 64, .inl fm15_71)), (m16, .inl (cI, 8, .inl fm16_2))] H := hP
      have hD : va_D A [(mo, .inr (8, [.int (nI n), .ref m1, .ref m2, .ref m3, .long ka, .long kb, .ref m6, .ref m7, .ref m8, .ref m9, .ref m10, .ref m11, .ref m12, .ref m13, .ref m14, .ref m15, .ref m16])), (m2, .inl (cI, 8, .inl fp)), (m12, .inl (cI, 8, .inl fo)), (m13, .inl (cI, 9, .inl (upd fc 0 0))), (m14, .inl (cI, 8, .inl fq)), (m15, .inl (cZ, 64, .inl fm15_71)), (m16, .inl (cI, 8, .inl fm16_2))] := hD
      refine mz_loopU (fun k H locs ls => ∃ (x3_103 : Int32), ∃ (x2_103 : Int32), ∃ (x1_103 : Int32), ∃ (fm12_103 : Nat → Int32), ∃ (fm13_103 : Nat → Int32), ∃ (fm14_103 : Nat → Int32), ∃ (fm15_103 : Nat → Int32), (mz_bl fm15_103) ∧ va_P (dC, dI) vwCl [(mo, .inr (8, [.int (nI n), .ref m1, .ref m2, .ref m3, .long ka, .long kb, .ref m6, .ref m7, .ref m8, .ref m9, .ref m10, .ref m11, .ref m12, .ref m13, .ref m14, .ref m15, .ref m16])), (m2, .inl (cI, 8, .inl fp)), (m12, .inl (cI, 8, .inl fm12_103)), (m13, .inl (cI, 9, .inl fm13_103)), (m14, .inl (cI, 8, .inl fm14_103)), (m15, .inl (cZ, 64, .inl fm15_103)), (m16, .inl (cI, 8, .inl fm16_2))] H ∧ va_D A [(mo, .inr (8, [.int (nI n), .ref m1, .ref m2, .ref m3, .long ka, .long kb, .ref m6, .ref m7, .ref m8, .ref m9, .ref m10, .ref m11, .ref m12, .ref m13, .ref m14, .ref m15, .ref m16])), (m2, .inl (cI, 8, .inl fp)), (m12, .inl (cI, 8, .inl fm12_103)), (m13, .inl (cI, 9, .inl fm13_103)), (m14, .inl (cI, 8, .inl fm14_103)), (m15, .inl (cZ, 64, .inl fm15_103)), (m16, .inl (cI, 8, .inl fm16_2))] ∧ va_S A s.heap H locs ∧ lv_has ls 6 [(3, .int x3_103), (2, .int x2_103), (1, .int x1_103), (0, .ref mo)] ∧ (mz_kk n jo (mz_Vm n jo fp) k x1_103 x2_103 x3_103 fm12_103 fm13_103 fm14_103 fm15_103)) ?_ (mz_ms (fun _ => 0) n 1) _ _ _ ⟨0, 0, 0, fo, (upd fc 0 0), fq, fm15_71, (by first | assumption | omega), hP, hD, hS, lv_sub hl [0, 1, 2, 3] rfl, Or.inr ⟨0, fun _ => 0, fun _ => 0, rfl, Nat.zero_le _, mz_ch_0, mz_dd_0, mz_kn_0 (fun q hq => ho_71 q (by omega)) hn, rfl⟩⟩
      intro k_103 H locs ls hI_103 ih_103
      obtain ⟨x3_103, x2_103, x1_103, fm12_103, fm13_103, fm14_103, fm15_103, hb_103, hP, hD, hS, hl, hk_103⟩ := hI_103
      rcases hk_103 with ⟨h_103, hK0_⟩ | ⟨N_, O_, T_, eN_, hN2_, hT_, hDD_, hKN_, hk_⟩
      · subst h_103
        refine lv_iload_n hx hb dX8_drawings_103 rfl (lv_at hl 1 rfl) ?_
        refine lv_if_lt (tgt := 351) hx hb dX8_drawings_104 (by decide) (fun _ => ?_) (fun c_104 => absurd (by decide +kernel) c_104)
        refine lv_iload_n hx hb dX8_drawings_351 rfl (lv_at hl 2 rfl) ?_
        have hP9 := hP.sub (ws' := [(mo, .inr (8, [.int (nI n), .ref m1, .ref m2, .ref m3, .long ka, .long kb, .ref m6, .ref m7, .ref m8, .ref m9, .ref m10, .ref m11, .ref m12, .ref m13, .ref m14, .ref m15, .ref m16])), (m2, .inl (cI, 8, .inl fp)), (m12, .inl (cI, 8, .inl fm12_103)), (m13, .inl (cI, 9, .inl fm13_103)), (m14, .inl (cI, 8, .inl fm14_103)), (m15, .inl (cZ, 64, .inl fm15_103)), (m16, .inl (cI, 8, .inl fm16_2))]) [0, 1, 2, 3, 4, 5, 6] rfl
        have hD9 := hD.sub (ws' := [(mo, .inr (8, [.int (nI n), .ref m1, .ref m2, .ref m3, .long ka, .long kb, .ref m6, .ref m7, .ref m8, .ref m9, .ref m10, .ref m11, .ref m12, .ref m13, .ref m14, .ref m15, .ref m16])), (m2, .inl (cI, 8, .inl fp)), (m12, .inl (cI, 8, .inl fm12_103)), (m13, .inl (cI, 9, .inl fm13_103)), (m14, .inl (cI, 8, .inl fm14_103)), (m15, .inl (cZ, 64, .inl fm15_103)), (m16, .inl (cI, 8, .inl fm16_2))]) [0, 1, 2, 3, 4, 5, 6] (by decide) rfl
        refine W.widen (k := 0) (n := 0) (Nat.le_of_ble_eq_true rfl) (Nat.le_of_ble_eq_true rfl) ?_
        exact W.iret (v := x1_103) hx hb hr (fun t ht hW => ⟨⟨x1_103, (), rfl, hK0_.1, fm12_103, fm13_103, fm14_103, fm15_103, fm16_2, hb_103, hK0_.2, by rw [ht]; exact hP9, hD9⟩, hS.F ht⟩) hS.2.2 dX8_drawings_352
      subst eN_
      have hTN_ := hT_ N_ (Nat.le_refl _)
      have hTN2_ := hTN_.2
      refine lv_iload_n hx hb dX8_drawings_103 rfl (lv_at hl 1 rfl) ?_
      refine lv_if_lt (tgt := 351) hx hb dX8_drawings_104 (by decide) (fun c_104 => absurd c_104 (nI_pos (by omega))) (fun _ => ?_)
      refine lv_iload_n hx hb dX8_drawings_107 rfl (lv_at hl 1 rfl) ?_
      refine lv_aload_n hx hb dX8_drawings_108 rfl (lv_at hl 3 rfl) ?_
      refine va_get (D := (dC, dI)) (ci := 8) (v := .int (nI n)) (C := RX8) (T := TX8) (N := 17) hx hb hts hiX8 hown hK hP 0 rfl rfl 0 (by decide) (hts (.fieldLink RX8 58 "MadeItSoModel" "many" "I") (by decide +kernel)) (fun _ h9 => h9) rfl dX8_drawings_109 ?_
      refine lv_icmp_ne (tgt := 204) hx hb dX8_drawings_112 (by decide) (fun c_112 => ?_) (fun c_112 => ?_)
      · skip
        have d_112 : ¬ N_ = n := fun h => c_112 ((nI_eq (a := N_) (b := n) (by omega) (by omega)).mpr h)
        refine lv_iload_n hx hb dX8_drawings_204 rfl (lv_at hl 1 rfl) ?_
        refine lv_aload_n hx hb dX8_drawings_205 rfl (lv_at hl 3 rfl) ?_
        refine va_get (D := (dC, dI)) (ci := 8) (v := .int (nI n)) (C := RX8) (T := TX8) (N := 17) hx hb hts hiX8 hown hK hP 0 rfl rfl 0 (by decide) (hts (.fieldLink RX8 58 "MadeItSoModel" "many" "I") (by decide +kernel)) (fun _ h9 => h9) rfl dX8_drawings_206 ?_
        refine lv_icmp_ne (tgt := 219) hx hb dX8_drawings_209 (by decide) (fun _ => ?_) (fun c_209 => absurd c_209 c_112)
        refine lv_aload_n hx hb dX8_drawings_219 rfl (lv_at hl 3 rfl) ?_
        refine va_get (D := (dC, dI)) (ci := 8) (v := .ref m13) (C := RX8) (T := TX8) (N := 17) hx hb hts hiX8 hown hK hP 0 rfl rfl 13 (by decide) (hts (.fieldLink RX8 46 "MadeItSoModel" "choice" "[I") (by decide +kernel)) (fun _ h9 => h9) rfl dX8_drawings_220 ?_
        refine lv_iload_n hx hb dX8_drawings_223 rfl (lv_at hl 1 rfl) ?_
        refine va_iald hx hb hK hP 3 0 rfl rfl (vp_in_nI (by omega) (by omega)) dX8_drawings_224 ?_
        refine mz_ti (y := (fm13_103 N_)) (by rw [mz_cl (by omega)]) ?_
        refine mz_ti (y := (nI (T_ N_))) hTN_.1 ?_
        refine lv_istore (lv' := [(4, .int (nI (T_ N_))), (3, .int x3_103), (2, .int (nI N_)), (1, .int x1_103), (0, .ref mo)]) hx hb dX8_drawings_225 hl (by decide) rfl (fun ls hl => ?_)
        refine lv_iload hx hb dX8_drawings_227 (lv_at hl 0 rfl) ?_
        refine lv_aload_n hx hb dX8_drawings_229 rfl (lv_at hl 4 rfl) ?_
        refine va_get (D := (dC, dI)) (ci := 8) (v := .int (nI n)) (C := RX8) (T := TX8) (N := 17) hx hb hts hiX8 hown hK hP 0 rfl rfl 0 (by decide) (hts (.fieldLink RX8 58 "MadeItSoModel" "many" "I") (by decide +kernel)) (fun _ h9 => h9) rfl dX8_drawings_230 ?_
        refine lv_icmp_ne (tgt := 259) hx hb dX8_drawings_233 (by decide) (fun c_233 => ?_) (fun c_233 => ?_)
        · skip
          have d_233 : ¬ T_ N_ = n := fun h => c_233 ((nI_eq (a := T_ N_) (b := n) (by omega) (by omega)).mpr h)
          refine lv_aload_n hx hb dX8_drawings_259 rfl (lv_at hl 4 rfl) ?_
          refine va_get (D := (dC, dI)) (ci := 8) (v := .ref m13) (C := RX8) (T := TX8) (N := 17) hx hb hts hiX8 hown hK hP 0 rfl rfl 13 (by decide) (hts (.fieldLink RX8 46 "MadeItSoModel" "choice" "[I") (by decide +kernel)) (fun _ h9 => h9) rfl dX8_drawings_260 ?_
          refine lv_iload_n hx hb dX8_drawings_263 rfl (lv_at hl 2 rfl) ?_
          refine lv_dup2_11 hx hb dX8_drawings_264 rfl rfl ?_
          refine va_iald hx hb hK hP 3 0 rfl rfl (vp_in_nI (by omega) (by omega)) dX8_drawings_265 ?_
          refine mz_ti (y := (fm13_103 N_)) (by rw [mz_cl (by omega)]) ?_
          refine lv_iconst (v := 1) hx hb dX8_drawings_266 (by decide +kernel) ?_
          refine lv_iadd hx hb dX8_drawings_267 ?_
          refine va_iast hx hb hK hP hD hS 3 0 rfl rfl (vp_in_nI (by omega) (by omega)) dX8_drawings_268 (fun H locs hP hD hS => ?_)
          rw [mz_cl (n := N_) (by omega)] at hP hD
          have hP : va_P (dC, dI) vwCl [(mo, .inr (8, [.int (nI n), .ref m1, .ref m2, .ref m3, .long ka, .long kb, .ref m6, .ref m7, .ref m8, .ref m9, .ref m10, .ref m11, .ref m12, .ref m13, .ref m14, .ref m15, .ref m16])), (m2, .inl (cI, 8, .inl fp)), (m12, .inl (cI, 8, .inl fm12_103)), (m13, .inl (cI, 9, .inl (upd fm13_103 N_ ((fm13_103 N_) + 1)))), (m14, .inl (cI, 8, .inl fm14_103)), (m15, .inl (cZ, 64, .inl fm15_103)), (m16, .inl (cI, 8, .inl fm16_2))] H := hP
          have hD : va_D A [(mo, .inr (8, [.int (nI n), .ref m1, .ref m2, .ref m3, .long ka, .long kb, .ref m6, .ref m7, .ref m8, .ref m9, .ref m10, .ref m11, .ref m12, .ref m13, .ref m14, .ref m15, .ref m16])), (m2, .inl (cI, 8, .inl fp)), (m12, .inl (cI, 8, .inl fm12_103)), (m13, .inl (cI, 9, .inl (upd fm13_103 N_ ((fm13_103 N_) + 1)))), (m14, .inl (cI, 8, .inl fm14_103)), (m15, .inl (cZ, 64, .inl fm15_103)), (m16, .inl (cI, 8, .inl fm16_2))] := hD
          refine lv_aload_n hx hb dX8_drawings_269 rfl (lv_at hl 4 rfl) ?_
          refine va_get (D := (dC, dI)) (ci := 8) (v := .ref m16) (C := RX8) (T := TX8) (N := 17) hx hb hts hiX8 hown hK hP 0 rfl rfl 16 (by decide) (hts (.fieldLink RX8 55 "MadeItSoModel" "joined" "[I") (by decide +kernel)) (fun _ h9 => h9) rfl dX8_drawings_270 ?_
          refine lv_iload hx hb dX8_drawings_273 (lv_at hl 0 rfl) ?_
          refine va_iald hx hb hK hP 6 0 rfl rfl (vp_in_nI (by omega) (by omega)) dX8_drawings_275 ?_
          refine mz_ti (y := (fm16_2 (T_ N_))) (by rw [mz_cl (by omega)]) ?_
          refine mz_ti (y := (jo (T_ N_))) (hj2_2 (T_ N_) (by omega)) ?_
          refine lv_iload_n hx hb dX8_drawings_276 rfl (lv_at hl 1 rfl) ?_
          refine lv_iand hx hb dX8_drawings_277 ?_
          refine lv_istore (lv' := [(5, .int ((jo (T_ N_)) &&& x3_103)), (4, .int (nI (T_ N_))), (3, .int x3_103), (2, .int (nI N_)), (1, .int x1_103), (0, .ref mo)]) hx hb dX8_drawings_278 hl (by decide) rfl (fun ls hl => ?_)
          refine lv_iload_n hx hb dX8_drawings_280 rfl (lv_at hl 2 rfl) ?_
          refine lv_iload hx hb dX8_drawings_281 (lv_at hl 1 rfl) ?_
          refine lv_ishr hx hb dX8_drawings_283 ?_
          refine lv_iconst (v := 1) hx hb dX8_drawings_284 (by decide +kernel) ?_
          refine lv_iand hx hb dX8_drawings_285 ?_
          refine lv_iconst (v := 1) hx hb dX8_drawings_286 (by decide +kernel) ?_
          refine lv_icmp_eq (tgt := 103) hx hb dX8_drawings_287 (by decide) (fun c_287 => ?_) (fun c_287 => ?_)
          · skip
            exact ih_103 (mz_ms (mz_up T_ N_ (T_ N_ + 1)) n (N_ + 1)) (by rw [hk_]; exact mz_ms_stay (hT_ N_ (Nat.le_refl _)).2) _ _ _ ⟨x3_103, (nI N_), x1_103, fm12_103, (upd fm13_103 N_ ((fm13_103 N_) + 1)), fm14_103, fm15_103, (by first | assumption | omega), hP, hD, hS, lv_sub hl [2, 3, 4, 5] rfl, Or.inr ⟨N_, O_, mz_up T_ N_ (T_ N_ + 1), rfl, hN2_, mz_ch_inc hT_ (by omega), mz_dd_up hDD_, mz_kn_cg (fun v9 hv9 => not_congr (mz_pd_no hv9 (by omega) (fun h9 => by have h8 := h9.1; rw [← hDD_.2.2, mz_t_y (by omega) c_287] at h8; cases h8))) hKN_, rfl⟩⟩
          · skip
            refine lv_aload_n hx hb dX8_drawings_290 rfl (lv_at hl 5 rfl) ?_
            refine lv_iload hx hb dX8_drawings_291 (lv_at hl 1 rfl) ?_
            refine lv_iload hx hb dX8_drawings_293 (lv_at hl 0 rfl) ?_
            have hPc := hP.sub (ws' := [(mo, .inr (8, [.int (nI n), .ref m1, .ref m2, .ref m3, .long ka, .long kb, .ref m6, .ref m7, .ref m8, .ref m9, .ref m10, .ref m11, .ref m12, .ref m13, .ref m14, .ref m15, .ref m16])), (m2, .inl (cI, 8, .inl fp)), (m16, .inl (cI, 8, .inl fm16_2))]) [0, 1, 6] rfl
            refine va_calli (va_runV (As := [.int (nI (T_ N_)), .int ((jo (T_ N_)) &&& x3_103)]) (rest := []) ⟨hx, hb, hml, hown, hts⟩ (mz_v_m_meetsLike l dC dI cI cJ cZ mo m1 m2 m3 m6 m7 m8 m9 m10 m11 m12 m13 m14 m15 m16 n ka kb fp fm16_2 (T_ N_) ((jo (T_ N_)) &&& x3_103) jo H (by first | assumption | omega) (by first | assumption | omega) (fun k9 hk9 => hj2_2 k9 (by omega))) (cwV 2 hts gX8_drawings_X8_meetsLike rfl rfl rfl (by decide +kernel) ⟨Nat.le_of_ble_eq_true rfl, Nat.le_of_ble_eq_true rfl⟩) ⟨fun a U g mk q => mz_blP q, va_recv hK hPc (ci := 8) (q0 := 0) rfl rfl, fun U hU hW => ⟨rfl, hU, hPc, va_K.moved hW.alike hK, mz_nw hW hN⟩⟩ rfl rfl hl.1 rfl (lv_room (Nat.le_of_ble_eq_true rfl)) dX8_drawings_295 ⟨Nat.le_of_ble_eq_true rfl, Nat.le_of_ble_eq_true rfl⟩) hS (fun q _ h => h.elim) (fun q h => h.elim) (fun r_295 u t H1 locs ht hvm hw_295 hB hz1 hk1 hS => ?_)
            have hE : H = H1 := hB.symm.trans ht
            subst hE
            rcases (show (r_295 = 1 ∧ (mz_mlk n jo (fp (T_ N_)) ((jo (T_ N_)) &&& x3_103))) ∨ (r_295 = 0 ∧ ¬ (mz_mlk n jo (fp (T_ N_)) ((jo (T_ N_)) &&& x3_103))) from hw_295) with ⟨rfl, hc_295⟩ | ⟨rfl, hc_295⟩
            · skip
              refine lv_if_eq (tgt := 103) hx hb dX8_drawings_298 (by decide) (fun c_298 => absurd c_298 (by decide +kernel)) (fun _ => ?_)
              refine lv_aload_n hx hb dX8_drawings_301 rfl (lv_at hl 5 rfl) ?_
              refine lv_iload hx hb dX8_drawings_302 (lv_at hl 1 rfl) ?_
              refine lv_iload_n hx hb dX8_drawings_304 rfl (lv_at hl 3 rfl) ?_
              have hPc := hP.sub (ws' := [(mo, .inr (8, [.int (nI n), .ref m1, .ref m2, .ref m3, .long ka, .long kb, .ref m6, .ref m7, .ref m8, .ref m9, .ref m10, .ref m11, .ref m12, .ref m13, .ref m14, .ref m15, .ref m16])), (m12, .inl (cI, 8, .inl fm12_103)), (m16, .inl (cI, 8, .inl fm16_2))]) [0, 2, 6] rfl
              refine va_calli (va_runV (As := [.int (nI (T_ N_)), .int (nI N_)]) (rest := []) ⟨hx, hb, hml, hown, hts⟩ (mz_v_m_isLeastOrder l dC dI cI cJ cZ mo m1 m2 m3 m6 m7 m8 m9 m10 m11 m12 m13 m14 m15 m16 n ka kb fm12_103 fm16_2 (T_ N_) N_ jo O_ H (by first | assumption | omega) (by first | assumption | omega) (by first | assumption | omega) (fun k9 hk9 => hj2_2 k9 (by omega)) (fun d9 hd9 => ⟨(hDD_.2.1 d9 hd9).1, by have h9 := (hDD_.2.1 d9 hd9).2.1; omega⟩)) (cwV 2 hts gX8_drawings_X8_isLeastOrder rfl rfl rfl (by decide +kernel) ⟨Nat.le_of_ble_eq_true rfl, Nat.le_of_ble_eq_true rfl⟩) ⟨fun a U g mk q => mz_blP q, va_recv hK hPc (ci := 8) (q0 := 0) rfl rfl, fun U hU hW => ⟨rfl, hU, hPc, va_K.moved hW.alike hK, mz_nw hW hN⟩⟩ rfl rfl hl.1 rfl (lv_room (Nat.le_of_ble_eq_true rfl)) dX8_drawings_305 ⟨Nat.le_of_ble_eq_true rfl, Nat.le_of_ble_eq_true rfl⟩) hS (fun q _ h => h.elim) (fun q h => h.elim) (fun r_305 u t H1 locs ht hvm hw_305 hB hz1 hk1 hS => ?_)
              have hE : H = H1 := hB.symm.trans ht
              subst hE
              rcases (show (r_305 = 1 ∧ (mz_lo jo (T_ N_) (mz_wd O_ N_))) ∨ (r_305 = 0 ∧ ¬ (mz_lo jo (T_ N_) (mz_wd O_ N_))) from hw_305) with ⟨rfl, hc_305⟩ | ⟨rfl, hc_305⟩
              · skip
                refine lv_if_ne (tgt := 314) hx hb dX8_drawings_308 (by decide) (fun _ => ?_) (fun c_308 => absurd c_308 (by decide +kernel))
                refine lv_aload_n hx hb dX8_drawings_314 rfl (lv_at hl 5 rfl) ?_
                refine va_get (D := (dC, dI)) (ci := 8) (v := .ref m12) (C := RX8) (T := TX8) (N := 17) hx hb hts hiX8 hown hK hP 0 rfl rfl 12 (by decide) (hts (.fieldLink RX8 43 "MadeItSoModel" "order" "[I") (by decide +kernel)) (fun _ h9 => h9) rfl dX8_drawings_315 ?_
                refine lv_iload_n hx hb dX8_drawings_318 rfl (lv_at hl 3 rfl) ?_
                refine lv_iload hx hb dX8_drawings_319 (lv_at hl 1 rfl) ?_
                refine va_iast hx hb hK hP hD hS 2 0 rfl rfl (vp_in_nI (by omega) (by omega)) dX8_drawings_321 (fun H locs hP hD hS => ?_)
                rw [mz_cl (n := N_) (by omega)] at hP hD
                have hP : va_P (dC, dI) vwCl [(mo, .inr (8, [.int (nI n), .ref m1, .ref m2, .ref m3, .long ka, .long kb, .ref m6, .ref m7, .ref m8, .ref m9, .ref m10, .ref m11, .ref m12, .ref m13, .ref m14, .ref m15, .ref m16])), (m2, .inl (cI, 8, .inl fp)), (m12, .inl (cI, 8, .inl (upd fm12_103 N_ (nI (T_ N_))))), (m13, .inl (cI, 9, .inl (upd fm13_103 N_ ((fm13_103 N_) + 1)))), (m14, .inl (cI, 8, .inl fm14_103)), (m15, .inl (cZ, 64, .inl fm15_103)), (m16, .inl (cI, 8, .inl fm16_2))] H := hP
                have hD : va_D A [(mo, .inr (8, [.int (nI n), .ref m1, .ref m2, .ref m3, .long ka, .long kb, .ref m6, .ref m7, .ref m8, .ref m9, .ref m10, .ref m11, .ref m12, .ref m13, .ref m14, .ref m15, .ref m16])), (m2, .inl (cI, 8, .inl fp)), (m12, .inl (cI, 8, .inl (upd fm12_103 N_ (nI (T_ N_))))), (m13, .inl (cI, 9, .inl (upd fm13_103 N_ ((fm13_103 N_) + 1)))), (m14, .inl (cI, 8, .inl fm14_103)), (m15, .inl (cZ, 64, .inl fm15_103)), (m16, .inl (cI, 8, .inl fm16_2))] := hD
                refine lv_aload_n hx hb dX8_drawings_322 rfl (lv_at hl 5 rfl) ?_
                refine va_get (D := (dC, dI)) (ci := 8) (v := .ref m14) (C := RX8) (T := TX8) (N := 17) hx hb hts hiX8 hown hK hP 0 rfl rfl 14 (by decide) (hts (.fieldLink RX8 49 "MadeItSoModel" "parentsThere" "[I") (by decide +kernel)) (fun _ h9 => h9) rfl dX8_drawings_323 ?_
                refine lv_iload hx hb dX8_drawings_326 (lv_at hl 1 rfl) ?_
                refine lv_iload hx hb dX8_drawings_328 (lv_at hl 0 rfl) ?_
                refine va_iast hx hb hK hP hD hS 4 0 rfl rfl (vp_in_nI (by omega) (by omega)) dX8_drawings_330 (fun H locs hP hD hS => ?_)
                rw [mz_cl (n := T_ N_) (by omega)] at hP hD
                have hP : va_P (dC, dI) vwCl [(mo, .inr (8, [.int (nI n), .ref m1, .ref m2, .ref m3, .long ka, .long kb, .ref m6, .ref m7, .ref m8, .ref m9, .ref m10, .ref m11, .ref m12, .ref m13, .ref m14, .ref m15, .ref m16])), (m2, .inl (cI, 8, .inl fp)), (m12, .inl (cI, 8, .inl (upd fm12_103 N_ (nI (T_ N_))))), (m13, .inl (cI, 9, .inl (upd fm13_103 N_ ((fm13_103 N_) + 1)))), (m14, .inl (cI, 8, .inl (upd fm14_103 (T_ N_) ((jo (T_ N_)) &&& x3_103)))), (m15, .inl (cZ, 64, .inl fm15_103)), (m16, .inl (cI, 8, .inl fm16_2))] H := hP
                have hD : va_D A [(mo, .inr (8, [.int (nI n), .ref m1, .ref m2, .ref m3, .long ka, .long kb, .ref m6, .ref m7, .ref m8, .ref m9, .ref m10, .ref m11, .ref m12, .ref m13, .ref m14, .ref m15, .ref m16])), (m2, .inl (cI, 8, .inl fp)), (m12, .inl (cI, 8, .inl (upd fm12_103 N_ (nI (T_ N_))))), (m13, .inl (cI, 9, .inl (upd fm13_103 N_ ((fm13_103 N_) + 1)))), (m14, .inl (cI, 8, .inl (upd fm14_103 (T_ N_) ((jo (T_ N_)) &&& x3_103)))), (m15, .inl (cZ, 64, .inl fm15_103)), (m16, .inl (cI, 8, .inl fm16_2))] := hD
                refine lv_iload_n hx hb dX8_drawings_331 rfl (lv_at hl 2 rfl) ?_
                refine lv_iconst (v := 1) hx hb dX8_drawings_332 (by decide +kernel) ?_
                refine lv_iload hx hb dX8_drawings_333 (lv_at hl 1 rfl) ?_
                refine lv_ishl hx hb dX8_drawings_335 ?_
                refine lv_ior hx hb dX8_drawings_336 ?_
                refine lv_istore_n (lv' := [(3, .int (x3_103 ||| (1 <<< ((nI (T_ N_)) &&& 31)))), (5, .int ((jo (T_ N_)) &&& x3_103)), (4, .int (nI (T_ N_))), (2, .int (nI N_)), (1, .int x1_103), (0, .ref mo)]) hx hb dX8_drawings_337 rfl hl (by decide) rfl (fun ls hl => ?_)
                refine lv_iinc (v := (nI (N_ + 1))) (lv' := [(2, .int (nI (N_ + 1))), (3, .int (x3_103 ||| (1 <<< ((nI (T_ N_)) &&& 31)))), (5, .int ((jo (T_ N_)) &&& x3_103)), (4, .int (nI (T_ N_))), (1, .int x1_103), (0, .ref mo)]) hx hb dX8_drawings_338 hl (k := 3) rfl (nI_1 _) (by decide) rfl (fun ls hl => ?_)
                refine lv_aload_n hx hb dX8_drawings_341 rfl (lv_at hl 5 rfl) ?_
                refine va_get (D := (dC, dI)) (ci := 8) (v := .ref m13) (C := RX8) (T := TX8) (N := 17) hx hb hts hiX8 hown hK hP 0 rfl rfl 13 (by decide) (hts (.fieldLink RX8 46 "MadeItSoModel" "choice" "[I") (by decide +kernel)) (fun _ h9 => h9) rfl dX8_drawings_342 ?_
                refine lv_iload_n hx hb dX8_drawings_345 rfl (lv_at hl 0 rfl) ?_
                refine lv_iconst (v := 0) hx hb dX8_drawings_346 (by decide +kernel) ?_
                refine va_iast hx hb hK hP hD hS 3 0 rfl rfl (vp_in_nI (by omega) (by omega)) dX8_drawings_347 (fun H locs hP hD hS => ?_)
                rw [mz_cl (n := N_ + 1) (by omega)] at hP hD
                have hP : va_P (dC, dI) vwCl [(mo, .inr (8, [.int (nI n), .ref m1, .ref m2, .ref m3, .long ka, .long kb, .ref m6, .ref m7, .ref m8, .ref m9, .ref m10, .ref m11, .ref m12, .ref m13, .ref m14, .ref m15, .ref m16])), (m2, .inl (cI, 8, .inl fp)), (m12, .inl (cI, 8, .inl (upd fm12_103 N_ (nI (T_ N_))))), (m13, .inl (cI, 9, .inl (upd (upd fm13_103 N_ ((fm13_103 N_) + 1)) (N_ + 1) 0))), (m14, .inl (cI, 8, .inl (upd fm14_103 (T_ N_) ((jo (T_ N_)) &&& x3_103)))), (m15, .inl (cZ, 64, .inl fm15_103)), (m16, .inl (cI, 8, .inl fm16_2))] H := hP
                have hD : va_D A [(mo, .inr (8, [.int (nI n), .ref m1, .ref m2, .ref m3, .long ka, .long kb, .ref m6, .ref m7, .ref m8, .ref m9, .ref m10, .ref m11, .ref m12, .ref m13, .ref m14, .ref m15, .ref m16])), (m2, .inl (cI, 8, .inl fp)), (m12, .inl (cI, 8, .inl (upd fm12_103 N_ (nI (T_ N_))))), (m13, .inl (cI, 9, .inl (upd (upd fm13_103 N_ ((fm13_103 N_) + 1)) (N_ + 1) 0))), (m14, .inl (cI, 8, .inl (upd fm14_103 (T_ N_) ((jo (T_ N_)) &&& x3_103)))), (m15, .inl (cZ, 64, .inl fm15_103)), (m16, .inl (cI, 8, .inl fm16_2))] := hD
                refine lv_goto (tgt := 103) hx hb dX8_drawings_348 (by decide) ?_
                exact ih_103 (mz_ms (mz_up (mz_up T_ N_ (T_ N_ + 1)) (N_ + 1) 0) n (N_ + 2)) (by rw [hk_]; exact mz_ms_push (hT_ N_ (Nat.le_refl _)).2 hn (by omega)) _ _ _ ⟨(x3_103 ||| (1 <<< ((nI (T_ N_)) &&& 31))), (nI (N_ + 1)), x1_103, (upd fm12_103 N_ (nI (T_ N_))), (upd (upd fm13_103 N_ ((fm13_103 N_) + 1)) (N_ + 1) 0), (upd fm14_103 (T_ N_) ((jo (T_ N_)) &&& x3_103)), fm15_103, (by first | assumption | omega), hP, hD, hS, lv_sub hl [1, 0, 4, 5] rfl, Or.inr ⟨N_ + 1, mz_up O_ N_ (T_ N_), mz_up (mz_up T_ N_ (T_ N_ + 1)) (N_ + 1) 0, rfl, by omega, mz_ch_push (mz_ch_inc hT_ (by omega)), mz_dd_push hn hDD_ (by omega) ⟨by rw [← hDD_.2.2]; exact mz_t_n (by omega) c_287, by rw [← hDD_.2.2]; exact hc_295, hc_305⟩, mz_kn_cg (fun v9 hv9 => not_congr (mz_pd_push hv9 (by omega))) hKN_, rfl⟩⟩
              · skip
                refine lv_if_ne (tgt := 314) hx hb dX8_drawings_308 (by decide) (fun c_308 => absurd (by decide +kernel) c_308) (fun _ => ?_)
                refine lv_goto (tgt := 103) hx hb dX8_drawings_311 (by decide) ?_
                exact ih_103 (mz_ms (mz_up T_ N_ (T_ N_ + 1)) n (N_ + 1)) (by rw [hk_]; exact mz_ms_stay (hT_ N_ (Nat.le_refl _)).2) _ _ _ ⟨x3_103, (nI N_), x1_103, fm12_103, (upd fm13_103 N_ ((fm13_103 N_) + 1)), fm14_103, fm15_103, (by first | assumption | omega), hP, hD, hS, lv_sub hl [2, 3, 4, 5] rfl, Or.inr ⟨N_, O_, mz_up T_ N_ (T_ N_ + 1), rfl, hN2_, mz_ch_inc hT_ (by omega), mz_dd_up hDD_, mz_kn_cg (fun v9 hv9 => not_congr (mz_pd_no hv9 (by omega) (fun h9 => hc_305 h9.2.2))) hKN_, rfl⟩⟩
            · skip
              refine lv_if_eq (tgt := 103) hx hb dX8_drawings_298 (by decide) (fun _ => ?_) (fun c_298 => absurd (by decide +kernel) c_298)
              exact ih_103 (mz_ms (mz_up T_ N_ (T_ N_ + 1)) n (N_ + 1)) (by rw [hk_]; exact mz_ms_stay (hT_ N_ (Nat.le_refl _)).2) _ _ _ ⟨x3_103, (nI N_), x1_103, fm12_103, (upd fm13_103 N_ ((fm13_103 N_) + 1)), fm14_103, fm15_103, (by first | assumption | omega), hP, hD, hS, lv_sub hl [2, 3, 4, 5] rfl, Or.inr ⟨N_, O_, mz_up T_ N_ (T_ N_ + 1), rfl, hN2_, mz_ch_inc hT_ (by omega), mz_dd_up hDD_, mz_kn_cg (fun v9 hv9 => not_congr (mz_pd_no hv9 (by omega) (fun h9 => hc_295 (by have h8 := h9.2.1; rw [← hDD_.2.2] at h8; exact h8)))) hKN_, rfl⟩⟩
        · skip
          have d_233 : T_ N_ = n := (nI_eq (a := T_ N_) (b := n) (by omega) (by omega)).mp c_233
          rcases mz_zs N_ with hz_ | ⟨E_, hz_⟩
          · subst hz_
            refine lv_iinc (v := (-1)) (lv' := [(2, .int (-1)), (4, .int (nI (T_ 0))), (3, .int x3_103), (1, .int x1_103), (0, .ref mo)]) hx hb dX8_drawings_236 hl (k := 2) rfl (by decide +kernel) (by decide) rfl (fun ls hl => ?_)
            refine lv_iload_n hx hb dX8_drawings_239 rfl (lv_at hl 0 rfl) ?_
            refine lv_if_lt (tgt := 103) hx hb dX8_drawings_240 (by decide) (fun _ => ?_) (fun c_240 => absurd (by decide +kernel) c_240)
            exact ih_103 0 (by rw [hk_]; exact Nat.lt_of_le_of_lt (Nat.zero_le _) (mz_ms_pop (hT_ _ (Nat.le_refl _)).2)) _ _ _ ⟨x3_103, (-1), x1_103, fm12_103, fm13_103, fm14_103, fm15_103, (by first | assumption | omega), hP, hD, hS, lv_sub hl [2, 0, 3, 4] rfl, Or.inl ⟨rfl, (mz_kn_cg (fun v9 hv9 => ⟨fun _ => trivial, fun _ => mz_pd_end hv9 (by omega) (by omega)⟩) hKN_)⟩⟩
          subst hz_
          refine lv_iinc (v := (nI E_)) (lv' := [(2, .int (nI E_)), (4, .int (nI (T_ (E_ + 1)))), (3, .int x3_103), (1, .int x1_103), (0, .ref mo)]) hx hb dX8_drawings_236 hl (k := 2) rfl (pk_m1 _) (by decide) rfl (fun ls hl => ?_)
          refine lv_iload_n hx hb dX8_drawings_239 rfl (lv_at hl 0 rfl) ?_
          refine lv_if_lt (tgt := 103) hx hb dX8_drawings_240 (by decide) (fun c_240 => absurd c_240 (nI_pos (by omega))) (fun _ => ?_)
          refine lv_iload_n hx hb dX8_drawings_243 rfl (lv_at hl 2 rfl) ?_
          refine lv_iconst (v := 1) hx hb dX8_drawings_244 (by decide +kernel) ?_
          refine lv_aload_n hx hb dX8_drawings_245 rfl (lv_at hl 4 rfl) ?_
          refine va_get (D := (dC, dI)) (ci := 8) (v := .ref m12) (C := RX8) (T := TX8) (N := 17) hx hb hts hiX8 hown hK hP 0 rfl rfl 12 (by decide) (hts (.fieldLink RX8 43 "MadeItSoModel" "order" "[I") (by decide +kernel)) (fun _ h9 => h9) rfl dX8_drawings_246 ?_
          refine lv_iload_n hx hb dX8_drawings_249 rfl (lv_at hl 0 rfl) ?_
          refine va_iald hx hb hK hP 2 0 rfl rfl (vp_in_nI (by omega) (by omega)) dX8_drawings_250 ?_
          refine mz_ti (y := (fm12_103 E_)) (by rw [mz_cl (by omega)]) ?_
          refine lv_ishl hx hb dX8_drawings_251 ?_
          refine lv_iconst (v := (-1)) hx hb dX8_drawings_252 (by decide +kernel) ?_
          refine lv_ixor hx hb dX8_drawings_253 ?_
          refine lv_iand hx hb dX8_drawings_254 ?_
          refine lv_istore_n (lv' := [(3, .int (x3_103 &&& ((1 <<< ((fm12_103 E_) &&& 31)) ^^^ (-1)))), (2, .int (nI E_)), (4, .int (nI (T_ (E_ + 1)))), (1, .int x1_103), (0, .ref mo)]) hx hb dX8_drawings_255 rfl hl (by decide) rfl (fun ls hl => ?_)
          refine lv_goto (tgt := 103) hx hb dX8_drawings_256 (by decide) ?_
          exact ih_103 (mz_ms T_ n (E_ + 1)) (by rw [hk_]; exact mz_ms_pop (hT_ (E_ + 1) (Nat.le_refl _)).2) _ _ _ ⟨(x3_103 &&& ((1 <<< ((fm12_103 E_) &&& 31)) ^^^ (-1))), (nI E_), x1_103, fm12_103, fm13_103, fm14_103, fm15_103, (by first | assumption | omega), hP, hD, hS, lv_sub hl [0, 1, 3, 4] rfl, Or.inr ⟨E_, O_, T_, rfl, by omega, fun i hi => hT_ i (by omega), mz_dd_pop hn hDD_, (mz_kn_cg (fun v9 hv9 => not_congr (mz_pd_pop hv9 (by omega) (by omega))) hKN_), rfl⟩⟩
      · skip
        have d_112 : N_ = n := (nI_eq (a := N_) (b := n) (by omega) (by omega)).mp c_112
        obtain ⟨v_115, ev_115⟩ : ∃ y : Int32, y = x1_103 + Int32.ofInt 1 := ⟨_, rfl⟩
        refine lv_iinc (v := v_115) (lv' := [(1, .int v_115), (3, .int x3_103), (2, .int (nI N_)), (0, .ref mo)]) hx hb dX8_drawings_115 hl (k := 2) rfl ev_115.symm (by decide) rfl (fun ls hl => ?_)
        refine lv_iconst (v := 0) hx hb dX8_drawings_118 (by decide +kernel) ?_
        refine lv_istore (lv' := [(4, .int 0), (1, .int v_115), (3, .int x3_103), (2, .int (nI N_)), (0, .ref mo)]) hx hb dX8_drawings_119 hl (by decide) rfl (fun ls hl => ?_)
        refine mz_loopU (fun k H locs ls => ∃ (i_121 : Nat), ∃ (fm15_121 : Nat → Int32), i_121 ≤ n ∧ (mz_bl fm15_121) ∧ (mz_tb n (mz_A2 (mz_AA n jo (mz_Vm n jo fp) (fun v9 => ¬ mz_pd n O_ T_ N_ v9)) fm14_103 i_121 0) fm15_121) ∧ va_P (dC, dI) vwCl [(mo, .inr (8, [.int (nI n), .ref m1, .ref m2, .ref m3, .long ka, .long kb, .ref m6, .ref m7, .ref m8, .ref m9, .ref m10, .ref m11, .ref m12, .ref m13, .ref m14, .ref m15, .ref m16])), (m2, .inl (cI, 8, .inl fp)), (m12, .inl (cI, 8, .inl fm12_103)), (m13, .inl (cI, 9, .inl fm13_103)), (m14, .inl (cI, 8, .inl fm14_103)), (m15, .inl (cZ, 64, .inl fm15_121)), (m16, .inl (cI, 8, .inl fm16_2))] H ∧ va_D A [(mo, .inr (8, [.int (nI n), .ref m1, .ref m2, .ref m3, .long ka, .long kb, .ref m6, .ref m7, .ref m8, .ref m9, .ref m10, .ref m11, .ref m12, .ref m13, .ref m14, .ref m15, .ref m16])), (m2, .inl (cI, 8, .inl fp)), (m12, .inl (cI, 8, .inl fm12_103)), (m13, .inl (cI, 9, .inl fm13_103)), (m14, .inl (cI, 8, .inl fm14_103)), (m15, .inl (cZ, 64, .inl fm15_121)), (m16, .inl (cI, 8, .inl fm16_2))] ∧ va_S A s.heap H locs ∧ lv_has ls 6 [(4, .int (nI i_121)), (1, .int v_115), (3, .int x3_103), (2, .int (nI N_)), (0, .ref mo)] ∧ k = n - i_121) ?_ _ _ _ _ ⟨0, fm15_103, by omega, (by first | assumption | omega), (mz_tb_0 hKN_.2), hP, hD, hS, lv_sub hl [0, 1, 2, 3, 4] rfl, rfl⟩
        intro k_121 H locs ls hI_121 ih_121
        obtain ⟨i_121, fm15_121, hi_121, hb_121, hg_121, hP, hD, hS, hl, hk_121⟩ := hI_121
        refine lv_iload hx hb dX8_drawings_121 (lv_at hl 0 rfl) ?_
        refine lv_aload_n hx hb dX8_drawings_123 rfl (lv_at hl 4 rfl) ?_
        refine va_get (D := (dC, dI)) (ci := 8) (v := .int (nI n)) (C := RX8) (T := TX8) (N := 17) hx hb hts hiX8 hown hK hP 0 rfl rfl 0 (by decide) (hts (.fieldLink RX8 58 "MadeItSoModel" "many" "I") (by decide +kernel)) (fun _ h9 => h9) rfl dX8_drawings_124 ?_
        refine lv_icmp_ge (tgt := 204) hx hb dX8_drawings_127 (by decide) (fun c_127 => ?_) (fun c_127 => ?_)
        · skip
          have d_127 : n ≤ i_121 := (nI_leI (a := n) (b := i_121) (by omega) (by omega)).mp c_127
          refine lv_iload_n hx hb dX8_drawings_204 rfl (lv_at hl 3 rfl) ?_
          refine lv_aload_n hx hb dX8_drawings_205 rfl (lv_at hl 4 rfl) ?_
          refine va_get (D := (dC, dI)) (ci := 8) (v := .int (nI n)) (C := RX8) (T := TX8) (N := 17) hx hb hts hiX8 hown hK hP 0 rfl rfl 0 (by decide) (hts (.fieldLink RX8 58 "MadeItSoModel" "many" "I") (by decide +kernel)) (fun _ h9 => h9) rfl dX8_drawings_206 ?_
          refine lv_icmp_ne (tgt := 219) hx hb dX8_drawings_209 (by decide) (fun c_209 => absurd c_112 c_209) (fun _ => ?_)
          refine lv_aload_n hx hb dX8_drawings_212 rfl (lv_at hl 4 rfl) ?_
          refine va_get (D := (dC, dI)) (ci := 8) (v := .int (nI n)) (C := RX8) (T := TX8) (N := 17) hx hb hts hiX8 hown hK hP 0 rfl rfl 0 (by decide) (hts (.fieldLink RX8 58 "MadeItSoModel" "many" "I") (by decide +kernel)) (fun _ h9 => h9) rfl dX8_drawings_213 ?_
          refine lv_goto (tgt := 225) hx hb dX8_drawings_216 (by decide) ?_
          refine lv_istore (lv' := [(4, .int (nI n)), (1, .int v_115), (3, .int x3_103), (2, .int (nI N_)), (0, .ref mo)]) hx hb dX8_drawings_225 hl (by decide) rfl (fun ls hl => ?_)
          refine lv_iload hx hb dX8_drawings_227 (lv_at hl 0 rfl) ?_
          refine lv_aload_n hx hb dX8_drawings_229 rfl (lv_at hl 4 rfl) ?_
          refine va_get (D := (dC, dI)) (ci := 8) (v := .int (nI n)) (C := RX8) (T := TX8) (N := 17) hx hb hts hiX8 hown hK hP 0 rfl rfl 0 (by decide) (hts (.fieldLink RX8 58 "MadeItSoModel" "many" "I") (by decide +kernel)) (fun _ h9 => h9) rfl dX8_drawings_230 ?_
          refine lv_icmp_ne (tgt := 259) hx hb dX8_drawings_233 (by decide) (fun c_233 => absurd rfl c_233) (fun _ => ?_)
          rcases mz_zs N_ with hz_ | ⟨E_, hz_⟩
          · subst hz_
            refine lv_iinc (v := (-1)) (lv' := [(2, .int (-1)), (4, .int (nI n)), (1, .int v_115), (3, .int x3_103), (0, .ref mo)]) hx hb dX8_drawings_236 hl (k := 3) rfl (by decide +kernel) (by decide) rfl (fun ls hl => ?_)
            refine lv_iload_n hx hb dX8_drawings_239 rfl (lv_at hl 0 rfl) ?_
            refine lv_if_lt (tgt := 103) hx hb dX8_drawings_240 (by decide) (fun _ => ?_) (fun c_240 => absurd (by decide +kernel) c_240)
            exact ih_103 0 (by rw [hk_]; exact Nat.lt_of_le_of_lt (Nat.zero_le _) (mz_ms_pop (hT_ _ (Nat.le_refl _)).2)) _ _ _ ⟨x3_103, (-1), v_115, fm12_103, fm13_103, fm14_103, fm15_121, (by first | assumption | omega), hP, hD, hS, lv_sub hl [3, 0, 2, 4] rfl, Or.inl ⟨rfl, (mz_kk_l0 (O := O_) (T := T_) d_112.symm (by have h9 := hDD_; have h8 := hKN_; have h6 := mz_tb_e (by omega) hg_121; rw [ev_115]; subst d_112; exact mz_kn_leaf hn h9 h8.1 (fun h7 => h7 (Or.inl ⟨rfl, rfl⟩)) h6))⟩⟩
          subst hz_
          refine lv_iinc (v := (nI E_)) (lv' := [(2, .int (nI E_)), (4, .int (nI n)), (1, .int v_115), (3, .int x3_103), (0, .ref mo)]) hx hb dX8_drawings_236 hl (k := 3) rfl (pk_m1 _) (by decide) rfl (fun ls hl => ?_)
          refine lv_iload_n hx hb dX8_drawings_239 rfl (lv_at hl 0 rfl) ?_
          refine lv_if_lt (tgt := 103) hx hb dX8_drawings_240 (by decide) (fun c_240 => absurd c_240 (nI_pos (by omega))) (fun _ => ?_)
          refine lv_iload_n hx hb dX8_drawings_243 rfl (lv_at hl 3 rfl) ?_
          refine lv_iconst (v := 1) hx hb dX8_drawings_244 (by decide +kernel) ?_
          refine lv_aload_n hx hb dX8_drawings_245 rfl (lv_at hl 4 rfl) ?_
          refine va_get (D := (dC, dI)) (ci := 8) (v := .ref m12) (C := RX8) (T := TX8) (N := 17) hx hb hts hiX8 hown hK hP 0 rfl rfl 12 (by decide) (hts (.fieldLink RX8 43 "MadeItSoModel" "order" "[I") (by decide +kernel)) (fun _ h9 => h9) rfl dX8_drawings_246 ?_
          refine lv_iload_n hx hb dX8_drawings_249 rfl (lv_at hl 0 rfl) ?_
          refine va_iald hx hb hK hP 2 0 rfl rfl (vp_in_nI (by omega) (by omega)) dX8_drawings_250 ?_
          refine mz_ti (y := (fm12_103 E_)) (by rw [mz_cl (by omega)]) ?_
          refine lv_ishl hx hb dX8_drawings_251 ?_
          refine lv_iconst (v := (-1)) hx hb dX8_drawings_252 (by decide +kernel) ?_
          refine lv_ixor hx hb dX8_drawings_253 ?_
          refine lv_iand hx hb dX8_drawings_254 ?_
          refine lv_istore_n (lv' := [(3, .int (x3_103 &&& ((1 <<< ((fm12_103 E_) &&& 31)) ^^^ (-1)))), (2, .int (nI E_)), (4, .int (nI n)), (1, .int v_115), (0, .ref mo)]) hx hb dX8_drawings_255 rfl hl (by decide) rfl (fun ls hl => ?_)
          refine lv_goto (tgt := 103) hx hb dX8_drawings_256 (by decide) ?_
          exact ih_103 (mz_ms T_ n (E_ + 1)) (by rw [hk_]; exact mz_ms_pop (hT_ (E_ + 1) (Nat.le_refl _)).2) _ _ _ ⟨(x3_103 &&& ((1 <<< ((fm12_103 E_) &&& 31)) ^^^ (-1))), (nI E_), v_115, fm12_103, fm13_103, fm14_103, fm15_121, (by first | assumption | omega), hP, hD, hS, lv_sub hl [0, 1, 3, 4] rfl, Or.inr ⟨E_, O_, T_, rfl, by omega, fun i hi => hT_ i (by omega), mz_dd_pop hn hDD_, (mz_kk_l d_112.symm (fun d9 hd9 => (hDD_.2.1 d9 (by omega)).2.2.1) (by have h9 := hDD_; have h8 := hKN_; have h6 := mz_tb_e (by omega) hg_121; rw [ev_115]; subst d_112; exact mz_kn_leaf hn h9 h8.1 (fun h7 => h7 (Or.inl ⟨rfl, rfl⟩)) h6)), rfl⟩⟩
        · skip
          have d_127 : ¬ n ≤ i_121 := fun h => c_127 ((nI_leI (a := n) (b := i_121) (by omega) (by omega)).mpr h)
          refine lv_iconst (v := 0) hx hb dX8_drawings_130 (by decide +kernel) ?_
          refine lv_istore (lv' := [(5, .int 0), (4, .int (nI i_121)), (1, .int v_115), (3, .int x3_103), (2, .int (nI N_)), (0, .ref mo)]) hx hb dX8_drawings_131 hl (by decide) rfl (fun ls hl => ?_)
          refine mz_loopU (fun k H locs ls => ∃ (i_133 : Nat), ∃ (fm15_133 : Nat → Int32), i_133 ≤ n ∧ (mz_bl fm15_133) ∧ (mz_tb n (mz_A2 (mz_AA n jo (mz_Vm n jo fp) (fun v9 => ¬ mz_pd n O_ T_ N_ v9)) fm14_103 i_121 i_133) fm15_133) ∧ va_P (dC, dI) vwCl [(mo, .inr (8, [.int (nI n), .ref m1, .ref m2, .ref m3, .long ka, .long kb, .ref m6, .ref m7, .ref m8, .ref m9, .ref m10, .ref m11, .ref m12, .ref m13, .ref m14, .ref m15, .ref m16])), (m2, .inl (cI, 8, .inl fp)), (m12, .inl (cI, 8, .inl fm12_103)), (m13, .inl (cI, 9, .inl fm13_103)), (m14, .inl (cI, 8, .inl fm14_103)), (m15, .inl (cZ, 64, .inl fm15_133)), (m16, .inl (cI, 8, .inl fm16_2))] H ∧ va_D A [(mo, .inr (8, [.int (nI n), .ref m1, .ref m2, .ref m3, .long ka, .long kb, .ref m6, .ref m7, .ref m8, .ref m9, .ref m10, .ref m11, .ref m12, .ref m13, .ref m14, .ref m15, .ref m16])), (m2, .inl (cI, 8, .inl fp)), (m12, .inl (cI, 8, .inl fm12_103)), (m13, .inl (cI, 9, .inl fm13_103)), (m14, .inl (cI, 8, .inl fm14_103)), (m15, .inl (cZ, 64, .inl fm15_133)), (m16, .inl (cI, 8, .inl fm16_2))] ∧ va_S A s.heap H locs ∧ lv_has ls 6 [(5, .int (nI i_133)), (4, .int (nI i_121)), (1, .int v_115), (3, .int x3_103), (2, .int (nI N_)), (0, .ref mo)] ∧ k = n - i_133) ?_ _ _ _ _ ⟨0, fm15_121, by omega, (by first | assumption | omega), hg_121, hP, hD, hS, lv_sub hl [0, 1, 2, 3, 4, 5] rfl, rfl⟩
          intro k_133 H locs ls hI_133 ih_133
          obtain ⟨i_133, fm15_133, hi_133, hb_133, hg_133, hP, hD, hS, hl, hk_133⟩ := hI_133
          refine lv_iload hx hb dX8_drawings_133 (lv_at hl 0 rfl) ?_
          refine lv_aload_n hx hb dX8_drawings_135 rfl (lv_at hl 5 rfl) ?_
          refine va_get (D := (dC, dI)) (ci := 8) (v := .int (nI n)) (C := RX8) (T := TX8) (N := 17) hx hb hts hiX8 hown hK hP 0 rfl rfl 0 (by decide) (hts (.fieldLink RX8 58 "MadeItSoModel" "many" "I") (by decide +kernel)) (fun _ h9 => h9) rfl dX8_drawings_136 ?_
          refine lv_icmp_ge (tgt := 198) hx hb dX8_drawings_139 (by decide) (fun c_139 => ?_) (fun c_139 => ?_)
          · skip
            have d_139 : n ≤ i_133 := (nI_leI (a := n) (b := i_133) (by omega) (by omega)).mp c_139
            refine lv_iinc (v := (nI (i_121 + 1))) (lv' := [(4, .int (nI (i_121 + 1))), (5, .int (nI i_133)), (1, .int v_115), (3, .int x3_103), (2, .int (nI N_)), (0, .ref mo)]) hx hb dX8_drawings_198 hl (k := 1) rfl (nI_1 _) (by decide) rfl (fun ls hl => ?_)
            refine lv_goto (tgt := 121) hx hb dX8_drawings_201 (by decide) ?_
            exact ih_121 _ (by omega) _ _ _ ⟨(i_121 + 1), fm15_133, by omega, (by first | assumption | omega), (mz_tb_r (by omega) hg_133), hP, hD, hS, lv_sub hl [0, 2, 3, 4, 5] rfl, rfl⟩
          · skip
            have d_139 : ¬ n ≤ i_133 := fun h => c_139 ((nI_leI (a := n) (b := i_133) (by omega) (by omega)).mpr h)
            refine lv_aload_n hx hb dX8_drawings_142 rfl (lv_at hl 5 rfl) ?_
            refine va_get (D := (dC, dI)) (ci := 8) (v := .ref m15) (C := RX8) (T := TX8) (N := 17) hx hb hts hiX8 hown hK hP 0 rfl rfl 15 (by decide) (hts (.fieldLink RX8 52 "MadeItSoModel" "isAlways" "[Z") (by decide +kernel)) (fun _ h9 => h9) rfl dX8_drawings_143 ?_
            refine lv_bipush (v := 8) hx hb dX8_drawings_146 (by decide +kernel) ?_
            refine lv_iload hx hb dX8_drawings_148 (lv_at hl 1 rfl) ?_
            refine lv_imul hx hb dX8_drawings_150 ?_
            refine mz_ti (y := (nI (8 * i_121))) (pk_mul _ _) ?_
            refine lv_iload hx hb dX8_drawings_151 (lv_at hl 0 rfl) ?_
            refine lv_iadd hx hb dX8_drawings_153 ?_
            refine mz_ti (y := (nI (8 * i_121 + i_133))) (nI_add _ _) ?_
            refine lv_aload_n hx hb dX8_drawings_154 rfl (lv_at hl 5 rfl) ?_
            refine va_get (D := (dC, dI)) (ci := 8) (v := .ref m15) (C := RX8) (T := TX8) (N := 17) hx hb hts hiX8 hown hK hP 0 rfl rfl 15 (by decide) (hts (.fieldLink RX8 52 "MadeItSoModel" "isAlways" "[Z") (by decide +kernel)) (fun _ h9 => h9) rfl dX8_drawings_155 ?_
            refine lv_bipush (v := 8) hx hb dX8_drawings_158 (by decide +kernel) ?_
            refine lv_iload hx hb dX8_drawings_160 (lv_at hl 1 rfl) ?_
            refine lv_imul hx hb dX8_drawings_162 ?_
            refine mz_ti (y := (nI (8 * i_121))) (pk_mul _ _) ?_
            refine lv_iload hx hb dX8_drawings_163 (lv_at hl 0 rfl) ?_
            refine lv_iadd hx hb dX8_drawings_165 ?_
            refine mz_ti (y := (nI (8 * i_121 + i_133))) (nI_add _ _) ?_
            refine va_zald hx hb hK hP 5 2 rfl rfl (vp_in_nI (by omega) (by omega)) dX8_drawings_166 ?_
            refine mz_ti (y := (fm15_133 (8 * i_121 + i_133))) (by rw [mz_cl (by omega)]) ?_
            refine lv_if_eq (tgt := 190) hx hb dX8_drawings_167 (by decide) (fun c_167 => ?_) (fun c_167 => ?_)
            · skip
              refine lv_iconst (v := 0) hx hb dX8_drawings_190 (by decide +kernel) ?_
              refine va_zast hx hb hK hP hD hS 5 2 rfl rfl (vp_in_nI (by omega) (by omega)) dX8_drawings_191 (fun H locs hP hD hS => ?_)
              rw [mz_cl (n := 8 * i_121 + i_133) (by omega)] at hP hD
              have hP : va_P (dC, dI) vwCl [(mo, .inr (8, [.int (nI n), .ref m1, .ref m2, .ref m3, .long ka, .long kb, .ref m6, .ref m7, .ref m8, .ref m9, .ref m10, .ref m11, .ref m12, .ref m13, .ref m14, .ref m15, .ref m16])), (m2, .inl (cI, 8, .inl fp)), (m12, .inl (cI, 8, .inl fm12_103)), (m13, .inl (cI, 9, .inl fm13_103)), (m14, .inl (cI, 8, .inl fm14_103)), (m15, .inl (cZ, 64, .inl (upd fm15_133 (8 * i_121 + i_133) (vp_nar .boolean 0)))), (m16, .inl (cI, 8, .inl fm16_2))] H := hP
              have hD : va_D A [(mo, .inr (8, [.int (nI n), .ref m1, .ref m2, .ref m3, .long ka, .long kb, .ref m6, .ref m7, .ref m8, .ref m9, .ref m10, .ref m11, .ref m12, .ref m13, .ref m14, .ref m15, .ref m16])), (m2, .inl (cI, 8, .inl fp)), (m12, .inl (cI, 8, .inl fm12_103)), (m13, .inl (cI, 9, .inl fm13_103)), (m14, .inl (cI, 8, .inl fm14_103)), (m15, .inl (cZ, 64, .inl (upd fm15_133 (8 * i_121 + i_133) (vp_nar .boolean 0)))), (m16, .inl (cI, 8, .inl fm16_2))] := hD
              refine lv_iinc (v := (nI (i_133 + 1))) (lv' := [(5, .int (nI (i_133 + 1))), (4, .int (nI i_121)), (1, .int v_115), (3, .int x3_103), (2, .int (nI N_)), (0, .ref mo)]) hx hb dX8_drawings_192 hl (k := 0) rfl (nI_1 _) (by decide) rfl (fun ls hl => ?_)
              refine lv_goto (tgt := 133) hx hb dX8_drawings_195 (by decide) ?_
              exact ih_133 _ (by omega) _ _ _ ⟨(i_133 + 1), (upd fm15_133 (8 * i_121 + i_133) (vp_nar .boolean 0)), by omega, (mz_bl_up hb_133 (Or.inl rfl)), (mz_tb_s hn (by omega) (by omega) hg_133 (Or.inr ⟨rfl, Or.inl c_167⟩)), hP, hD, hS, lv_sub hl [0, 1, 2, 3, 4, 5] rfl, rfl⟩
            · skip
              refine lv_aload_n hx hb dX8_drawings_170 rfl (lv_at hl 5 rfl) ?_
              refine va_get (D := (dC, dI)) (ci := 8) (v := .ref m14) (C := RX8) (T := TX8) (N := 17) hx hb hts hiX8 hown hK hP 0 rfl rfl 14 (by decide) (hts (.fieldLink RX8 49 "MadeItSoModel" "parentsThere" "[I") (by decide +kernel)) (fun _ h9 => h9) rfl dX8_drawings_171 ?_
              refine lv_iload hx hb dX8_drawings_174 (lv_at hl 0 rfl) ?_
              refine va_iald hx hb hK hP 4 0 rfl rfl (vp_in_nI (by omega) (by omega)) dX8_drawings_176 ?_
              refine mz_ti (y := (fm14_103 i_133)) (by rw [mz_cl (by omega)]) ?_
              refine lv_iload hx hb dX8_drawings_177 (lv_at hl 1 rfl) ?_
              refine lv_ishr hx hb dX8_drawings_179 ?_
              refine lv_iconst (v := 1) hx hb dX8_drawings_180 (by decide +kernel) ?_
              refine lv_iand hx hb dX8_drawings_181 ?_
              refine lv_iconst (v := 1) hx hb dX8_drawings_182 (by decide +kernel) ?_
              refine lv_icmp_ne (tgt := 190) hx hb dX8_drawings_183 (by decide) (fun c_183 => ?_) (fun c_183 => ?_)
              · skip
                refine lv_iconst (v := 0) hx hb dX8_drawings_190 (by decide +kernel) ?_
                refine va_zast hx hb hK hP hD hS 5 2 rfl rfl (vp_in_nI (by omega) (by omega)) dX8_drawings_191 (fun H locs hP hD hS => ?_)
                rw [mz_cl (n := 8 * i_121 + i_133) (by omega)] at hP hD
                have hP : va_P (dC, dI) vwCl [(mo, .inr (8, [.int (nI n), .ref m1, .ref m2, .ref m3, .long ka, .long kb, .ref m6, .ref m7, .ref m8, .ref m9, .ref m10, .ref m11, .ref m12, .ref m13, .ref m14, .ref m15, .ref m16])), (m2, .inl (cI, 8, .inl fp)), (m12, .inl (cI, 8, .inl fm12_103)), (m13, .inl (cI, 9, .inl fm13_103)), (m14, .inl (cI, 8, .inl fm14_103)), (m15, .inl (cZ, 64, .inl (upd fm15_133 (8 * i_121 + i_133) (vp_nar .boolean 0)))), (m16, .inl (cI, 8, .inl fm16_2))] H := hP
                have hD : va_D A [(mo, .inr (8, [.int (nI n), .ref m1, .ref m2, .ref m3, .long ka, .long kb, .ref m6, .ref m7, .ref m8, .ref m9, .ref m10, .ref m11, .ref m12, .ref m13, .ref m14, .ref m15, .ref m16])), (m2, .inl (cI, 8, .inl fp)), (m12, .inl (cI, 8, .inl fm12_103)), (m13, .inl (cI, 9, .inl fm13_103)), (m14, .inl (cI, 8, .inl fm14_103)), (m15, .inl (cZ, 64, .inl (upd fm15_133 (8 * i_121 + i_133) (vp_nar .boolean 0)))), (m16, .inl (cI, 8, .inl fm16_2))] := hD
                refine lv_iinc (v := (nI (i_133 + 1))) (lv' := [(5, .int (nI (i_133 + 1))), (4, .int (nI i_121)), (1, .int v_115), (3, .int x3_103), (2, .int (nI N_)), (0, .ref mo)]) hx hb dX8_drawings_192 hl (k := 0) rfl (nI_1 _) (by decide) rfl (fun ls hl => ?_)
                refine lv_goto (tgt := 133) hx hb dX8_drawings_195 (by decide) ?_
                exact ih_133 _ (by omega) _ _ _ ⟨(i_133 + 1), (upd fm15_133 (8 * i_121 + i_133) (vp_nar .boolean 0)), by omega, (mz_bl_up hb_133 (Or.inl rfl)), (mz_tb_s hn (by omega) (by omega) hg_133 (Or.inr ⟨rfl, Or.inr (mz_t_n (by omega) c_183)⟩)), hP, hD, hS, lv_sub hl [0, 1, 2, 3, 4, 5] rfl, rfl⟩
              · skip
                refine lv_iconst (v := 1) hx hb dX8_drawings_186 (by decide +kernel) ?_
                refine lv_goto (tgt := 191) hx hb dX8_drawings_187 (by decide) ?_
                refine va_zast hx hb hK hP hD hS 5 2 rfl rfl (vp_in_nI (by omega) (by omega)) dX8_drawings_191 (fun H locs hP hD hS => ?_)
                rw [mz_cl (n := 8 * i_121 + i_133) (by omega)] at hP hD
                have hP : va_P (dC, dI) vwCl [(mo, .inr (8, [.int (nI n), .ref m1, .ref m2, .ref m3, .long ka, .long kb, .ref m6, .ref m7, .ref m8, .ref m9, .ref m10, .ref m11, .ref m12, .ref m13, .ref m14, .ref m15, .ref m16])), (m2, .inl (cI, 8, .inl fp)), (m12, .inl (cI, 8, .inl fm12_103)), (m13, .inl (cI, 9, .inl fm13_103)), (m14, .inl (cI, 8, .inl fm14_103)), (m15, .inl (cZ, 64, .inl (upd fm15_133 (8 * i_121 + i_133) (vp_nar .boolean 1)))), (m16, .inl (cI, 8, .inl fm16_2))] H := hP
                have hD : va_D A [(mo, .inr (8, [.int (nI n), .ref m1, .ref m2, .ref m3, .long ka, .long kb, .ref m6, .ref m7, .ref m8, .ref m9, .ref m10, .ref m11, .ref m12, .ref m13, .ref m14, .ref m15, .ref m16])), (m2, .inl (cI, 8, .inl fp)), (m12, .inl (cI, 8, .inl fm12_103)), (m13, .inl (cI, 9, .inl fm13_103)), (m14, .inl (cI, 8, .inl fm14_103)), (m15, .inl (cZ, 64, .inl (upd fm15_133 (8 * i_121 + i_133) (vp_nar .boolean 1)))), (m16, .inl (cI, 8, .inl fm16_2))] := hD
                refine lv_iinc (v := (nI (i_133 + 1))) (lv' := [(5, .int (nI (i_133 + 1))), (4, .int (nI i_121)), (1, .int v_115), (3, .int x3_103), (2, .int (nI N_)), (0, .ref mo)]) hx hb dX8_drawings_192 hl (k := 0) rfl (nI_1 _) (by decide) rfl (fun ls hl => ?_)
                refine lv_goto (tgt := 133) hx hb dX8_drawings_195 (by decide) ?_
                exact ih_133 _ (by omega) _ _ _ ⟨(i_133 + 1), (upd fm15_133 (8 * i_121 + i_133) (vp_nar .boolean 1)), by omega, (mz_bl_up hb_133 (Or.inr rfl)), (mz_tb_s hn (by omega) (by omega) hg_133 (Or.inl ⟨rfl, c_167, mz_t_y (by omega) c_183⟩)), hP, hD, hS, lv_sub hl [0, 1, 2, 3, 4, 5] rfl, rfl⟩
    · skip
      have d_74 : ¬ 64 ≤ i_71 := fun h => c_74 ((nI_leI (a := 64) (b := i_71) (by omega) (by omega)).mpr h)
      refine lv_aload_n hx hb dX8_drawings_77 rfl (lv_at hl 1 rfl) ?_
      refine va_get (D := (dC, dI)) (ci := 8) (v := .ref m15) (C := RX8) (T := TX8) (N := 17) hx hb hts hiX8 hown hK hP 0 rfl rfl 15 (by decide) (hts (.fieldLink RX8 52 "MadeItSoModel" "isAlways" "[Z") (by decide +kernel)) (fun _ h9 => h9) rfl dX8_drawings_78 ?_
      refine lv_iload_n hx hb dX8_drawings_81 rfl (lv_at hl 0 rfl) ?_
      refine lv_iconst (v := 1) hx hb dX8_drawings_82 (by decide +kernel) ?_
      refine va_zast hx hb hK hP hD hS 5 2 rfl rfl (vp_in_nI (by omega) (by omega)) dX8_drawings_83 (fun H locs hP hD hS => ?_)
      rw [mz_cl (n := i_71) (by omega)] at hP hD
      have hP : va_P (dC, dI) vwCl [(mo, .inr (8, [.int (nI n), .ref m1, .ref m2, .ref m3, .long ka, .long kb, .ref m6, .ref m7, .ref m8, .ref m9, .ref m10, .ref m11, .ref m12, .ref m13, .ref m14, .ref m15, .ref m16])), (m2, .inl (cI, 8, .inl fp)), (m12, .inl (cI, 8, .inl fo)), (m13, .inl (cI, 9, .inl fc)), (m14, .inl (cI, 8, .inl fq)), (m15, .inl (cZ, 64, .inl (upd fm15_71 i_71 (vp_nar .boolean 1)))), (m16, .inl (cI, 8, .inl fm16_2))] H := hP
      have hD : va_D A [(mo, .inr (8, [.int (nI n), .ref m1, .ref m2, .ref m3, .long ka, .long kb, .ref m6, .ref m7, .ref m8, .ref m9, .ref m10, .ref m11, .ref m12, .ref m13, .ref m14, .ref m15, .ref m16])), (m2, .inl (cI, 8, .inl fp)), (m12, .inl (cI, 8, .inl fo)), (m13, .inl (cI, 9, .inl fc)), (m14, .inl (cI, 8, .inl fq)), (m15, .inl (cZ, 64, .inl (upd fm15_71 i_71 (vp_nar .boolean 1)))), (m16, .inl (cI, 8, .inl fm16_2))] := hD
      refine lv_iinc (v := (nI (i_71 + 1))) (lv' := [(1, .int (nI (i_71 + 1))), (0, .ref mo)]) hx hb dX8_drawings_84 hl (k := 0) rfl (nI_1 _) (by decide) rfl (fun ls hl => ?_)
      refine lv_goto (tgt := 71) hx hb dX8_drawings_87 (by decide) ?_
      exact ih_71 _ (by omega) _ _ _ ⟨(i_71 + 1), (upd fm15_71 i_71 (vp_nar .boolean 1)), by omega, (mz_bl_up hb_71 (Or.inr rfl)), (mz_one_s ho_71), hP, hD, hS, lv_sub hl [0, 1] rfl, rfl⟩
  · skip
    have d_7 : ¬ n ≤ i_2 := fun h => c_7 ((nI_leI (a := n) (b := i_2) (by omega) (by omega)).mpr h)
    refine lv_aload_n hx hb dX8_drawings_10 rfl (lv_at hl 1 rfl) ?_
    refine va_get (D := (dC, dI)) (ci := 8) (v := .ref m16) (C := RX8) (T := TX8) (N := 17) hx hb hts hiX8 hown hK hP 0 rfl rfl 16 (by decide) (hts (.fieldLink RX8 55 "MadeItSoModel" "joined" "[I") (by decide +kernel)) (fun _ h9 => h9) rfl dX8_drawings_11 ?_
    refine lv_iload_n hx hb dX8_drawings_14 rfl (lv_at hl 0 rfl) ?_
    refine lv_aload_n hx hb dX8_drawings_15 rfl (lv_at hl 1 rfl) ?_
    refine va_get (D := (dC, dI)) (ci := 8) (v := .ref m2) (C := RX8) (T := TX8) (N := 17) hx hb hts hiX8 hown hK hP 0 rfl rfl 2 (by decide) (hts (.fieldLink RX8 13 "MadeItSoModel" "parents" "[I") (by decide +kernel)) (fun _ h9 => h9) rfl dX8_drawings_16 ?_
    refine lv_iload_n hx hb dX8_drawings_19 rfl (lv_at hl 0 rfl) ?_
    refine va_iald hx hb hK hP 1 0 rfl rfl (vp_in_nI (by omega) (by omega)) dX8_drawings_20 ?_
    refine mz_ti (y := (fp i_2)) (by rw [mz_cl (by omega)]) ?_
    refine va_iast hx hb hK hP hD hS 6 0 rfl rfl (vp_in_nI (by omega) (by omega)) dX8_drawings_21 (fun H locs hP hD hS => ?_)
    rw [mz_cl (n := i_2) (by omega)] at hP hD
    have hP : va_P (dC, dI) vwCl [(mo, .inr (8, [.int (nI n), .ref m1, .ref m2, .ref m3, .long ka, .long kb, .ref m6, .ref m7, .ref m8, .ref m9, .ref m10, .ref m11, .ref m12, .ref m13, .ref m14, .ref m15, .ref m16])), (m2, .inl (cI, 8, .inl fp)), (m12, .inl (cI, 8, .inl fo)), (m13, .inl (cI, 9, .inl fc)), (m14, .inl (cI, 8, .inl fq)), (m15, .inl (cZ, 64, .inl fa)), (m16, .inl (cI, 8, .inl (upd fm16_2 i_2 (fp i_2))))] H := hP
    have hD : va_D A [(mo, .inr (8, [.int (nI n), .ref m1, .ref m2, .ref m3, .long ka, .long kb, .ref m6, .ref m7, .ref m8, .ref m9, .ref m10, .ref m11, .ref m12, .ref m13, .ref m14, .ref m15, .ref m16])), (m2, .inl (cI, 8, .inl fp)), (m12, .inl (cI, 8, .inl fo)), (m13, .inl (cI, 9, .inl fc)), (m14, .inl (cI, 8, .inl fq)), (m15, .inl (cZ, 64, .inl fa)), (m16, .inl (cI, 8, .inl (upd fm16_2 i_2 (fp i_2))))] := hD
    refine lv_iconst (v := 0) hx hb dX8_drawings_22 (by decide +kernel) ?_
    refine lv_istore_n (lv' := [(2, .int 0), (1, .int (nI i_2)), (0, .ref mo)]) hx hb dX8_drawings_23 rfl hl (by decide) rfl (fun ls hl => ?_)
    refine mz_loopU (fun k H locs ls => ∃ (i_24 : Nat), ∃ (fm16_24 : Nat → Int32), i_24 ≤ n ∧ (mz_jr jo fp i_2 i_24 fm16_24) ∧ va_P (dC, dI) vwCl [(mo, .inr (8, [.int (nI n), .ref m1, .ref m2, .ref m3, .long ka, .long kb, .ref m6, .ref m7, .ref m8, .ref m9, .ref m10, .ref m11, .ref m12, .ref m13, .ref m14, .ref m15, .ref m16])), (m2, .inl (cI, 8, .inl fp)), (m12, .inl (cI, 8, .inl fo)), (m13, .inl (cI, 9, .inl fc)), (m14, .inl (cI, 8, .inl fq)), (m15, .inl (cZ, 64, .inl fa)), (m16, .inl (cI, 8, .inl fm16_24))] H ∧ va_D A [(mo, .inr (8, [.int (nI n), .ref m1, .ref m2, .ref m3, .long ka, .long kb, .ref m6, .ref m7, .ref m8, .ref m9, .ref m10, .ref m11, .ref m12, .ref m13, .ref m14, .ref m15, .ref m16])), (m2, .inl (cI, 8, .inl fp)), (m12, .inl (cI, 8, .inl fo)), (m13, .inl (cI, 9, .inl fc)), (m14, .inl (cI, 8, .inl fq)), (m15, .inl (cZ, 64, .inl fa)), (m16, .inl (cI, 8, .inl fm16_24))] ∧ va_S A s.heap H locs ∧ lv_has ls 6 [(2, .int (nI i_24)), (1, .int (nI i_2)), (0, .ref mo)] ∧ k = n - i_24) ?_ _ _ _ _ ⟨0, (upd fm16_2 i_2 (fp i_2)), by omega, (mz_jr_0 hj2_2), hP, hD, hS, lv_sub hl [0, 1, 2] rfl, rfl⟩
    intro k_24 H locs ls hI_24 ih_24
    obtain ⟨i_24, fm16_24, hi_24, hj3_24, hP, hD, hS, hl, hk_24⟩ := hI_24
    refine lv_iload_n hx hb dX8_drawings_24 rfl (lv_at hl 0 rfl) ?_
    refine lv_aload_n hx hb dX8_drawings_25 rfl (lv_at hl 2 rfl) ?_
    refine va_get (D := (dC, dI)) (ci := 8) (v := .int (nI n)) (C := RX8) (T := TX8) (N := 17) hx hb hts hiX8 hown hK hP 0 rfl rfl 0 (by decide) (hts (.fieldLink RX8 58 "MadeItSoModel" "many" "I") (by decide +kernel)) (fun _ h9 => h9) rfl dX8_drawings_26 ?_
    refine lv_icmp_ge (tgt := 63) hx hb dX8_drawings_29 (by decide) (fun c_29 => ?_) (fun c_29 => ?_)
    · skip
      have d_29 : n ≤ i_24 := (nI_leI (a := n) (b := i_24) (by omega) (by omega)).mp c_29
      refine lv_iinc (v := (nI (i_2 + 1))) (lv' := [(1, .int (nI (i_2 + 1))), (2, .int (nI i_24)), (0, .ref mo)]) hx hb dX8_drawings_63 hl (k := 1) rfl (nI_1 _) (by decide) rfl (fun ls hl => ?_)
      refine lv_goto (tgt := 2) hx hb dX8_drawings_66 (by decide) ?_
      exact ih_2 _ (by omega) _ _ _ ⟨(i_2 + 1), fm16_24, by omega, (mz_jr_e hjm (by omega) (by omega) hj3_24), hP, hD, hS, lv_sub hl [0, 2] rfl, rfl⟩
    · skip
      have d_29 : ¬ n ≤ i_24 := fun h => c_29 ((nI_leI (a := n) (b := i_24) (by omega) (by omega)).mpr h)
      refine lv_aload_n hx hb dX8_drawings_32 rfl (lv_at hl 2 rfl) ?_
      refine va_get (D := (dC, dI)) (ci := 8) (v := .ref m16) (C := RX8) (T := TX8) (N := 17) hx hb hts hiX8 hown hK hP 0 rfl rfl 16 (by decide) (hts (.fieldLink RX8 55 "MadeItSoModel" "joined" "[I") (by decide +kernel)) (fun _ h9 => h9) rfl dX8_drawings_33 ?_
      refine lv_iload_n hx hb dX8_drawings_36 rfl (lv_at hl 1 rfl) ?_
      refine lv_dup2_11 hx hb dX8_drawings_37 rfl rfl ?_
      refine va_iald hx hb hK hP 6 0 rfl rfl (vp_in_nI (by omega) (by omega)) dX8_drawings_38 ?_
      refine mz_ti (y := (fm16_24 i_2)) (by rw [mz_cl (by omega)]) ?_
      refine lv_aload_n hx hb dX8_drawings_39 rfl (lv_at hl 2 rfl) ?_
      refine lv_iload_n hx hb dX8_drawings_40 rfl (lv_at hl 1 rfl) ?_
      refine lv_iload_n hx hb dX8_drawings_41 rfl (lv_at hl 0 rfl) ?_
      have hPc := hP.sub (ws' := [(mo, .inr (8, [.int (nI n), .ref m1, .ref m2, .ref m3, .long ka, .long kb, .ref m6, .ref m7, .ref m8, .ref m9, .ref m10, .ref m11, .ref m12, .ref m13, .ref m14, .ref m15, .ref m16])), (m2, .inl (cI, 8, .inl fp))]) [0, 1] rfl
      refine va_calli (va_runV (As := [.int (nI i_2), .int (nI i_24)]) (rest := [.int (fm16_24 i_2), .int (nI i_2), .ref m16]) ⟨hx, hb, hml, hown, hts⟩ (mz_e_m_has l dC dI cI cJ cZ mo m1 m2 m3 m6 m7 m8 m9 m10 m11 m12 m13 m14 m15 m16 n ka kb fp i_2 i_24 H (by first | assumption | omega) (by first | assumption | omega) (by first | assumption | omega)) (cwV 2 hts gX8_drawings_X8_has rfl rfl rfl (by decide +kernel) ⟨Nat.le_of_ble_eq_true rfl, Nat.le_of_ble_eq_true rfl⟩) ⟨fun a U g mk q => mz_blP q, va_recv hK hPc (ci := 8) (q0 := 0) rfl rfl, fun U hU hW => ⟨rfl, hU, hPc, va_K.moved hW.alike hK, mz_nw hW hN⟩⟩ rfl rfl hl.1 rfl (lv_room (Nat.le_of_ble_eq_true rfl)) dX8_drawings_42 ⟨Nat.le_of_ble_eq_true rfl, Nat.le_of_ble_eq_true rfl⟩) hS (fun q _ h => h.elim) (fun q h => h.elim) (fun r_42 u t H1 locs ht hvm hw_42 hB hz1 hk1 hS => ?_)
      have hE : H = H1 := hB.symm.trans ht
      subst hE
      rcases (show (r_42 = 1 ∧ mz_t (fp i_24) i_2 = true) ∨ (r_42 = 0 ∧ mz_t (fp i_24) i_2 = false) from hw_42) with ⟨rfl, ht_42⟩ | ⟨rfl, ht_42⟩
      · skip
        refine lv_if_eq (tgt := 54) hx hb dX8_drawings_45 (by decide) (fun c_45 => absurd c_45 (by decide +kernel)) (fun _ => ?_)
        refine lv_iconst (v := 1) hx hb dX8_drawings_48 (by decide +kernel) ?_
        refine lv_iload_n hx hb dX8_drawings_49 rfl (lv_at hl 0 rfl) ?_
        refine lv_ishl hx hb dX8_drawings_50 ?_
        refine lv_goto (tgt := 55) hx hb dX8_drawings_51 (by decide) ?_
        refine lv_ior hx hb dX8_drawings_55 ?_
        refine va_iast hx hb hK hP hD hS 6 0 rfl rfl (vp_in_nI (by omega) (by omega)) dX8_drawings_56 (fun H locs hP hD hS => ?_)
        rw [mz_cl (n := i_2) (by omega)] at hP hD
        have hP : va_P (dC, dI) vwCl [(mo, .inr (8, [.int (nI n), .ref m1, .ref m2, .ref m3, .long ka, .long kb, .ref m6, .ref m7, .ref m8, .ref m9, .ref m10, .ref m11, .ref m12, .ref m13, .ref m14, .ref m15, .ref m16])), (m2, .inl (cI, 8, .inl fp)), (m12, .inl (cI, 8, .inl fo)), (m13, .inl (cI, 9, .inl fc)), (m14, .inl (cI, 8, .inl fq)), (m15, .inl (cZ, 64, .inl fa)), (m16, .inl (cI, 8, .inl (upd fm16_24 i_2 ((fm16_24 i_2) ||| (1 <<< ((nI i_24) &&& 31))))))] H := hP
        have hD : va_D A [(mo, .inr (8, [.int (nI n), .ref m1, .ref m2, .ref m3, .long ka, .long kb, .ref m6, .ref m7, .ref m8, .ref m9, .ref m10, .ref m11, .ref m12, .ref m13, .ref m14, .ref m15, .ref m16])), (m2, .inl (cI, 8, .inl fp)), (m12, .inl (cI, 8, .inl fo)), (m13, .inl (cI, 9, .inl fc)), (m14, .inl (cI, 8, .inl fq)), (m15, .inl (cZ, 64, .inl fa)), (m16, .inl (cI, 8, .inl (upd fm16_24 i_2 ((fm16_24 i_2) ||| (1 <<< ((nI i_24) &&& 31))))))] := hD
        refine lv_iinc (v := (nI (i_24 + 1))) (lv' := [(2, .int (nI (i_24 + 1))), (1, .int (nI i_2)), (0, .ref mo)]) hx hb dX8_drawings_57 hl (k := 0) rfl (nI_1 _) (by decide) rfl (fun ls hl => ?_)
        refine lv_goto (tgt := 24) hx hb dX8_drawings_60 (by decide) ?_
        exact ih_24 _ (by omega) _ _ _ ⟨(i_24 + 1), (upd fm16_24 i_2 ((fm16_24 i_2) ||| (1 <<< ((nI i_24) &&& 31)))), by omega, (mz_jr_y (by omega) hj3_24 ht_42), hP, hD, hS, lv_sub hl [0, 1, 2] rfl, rfl⟩
      · skip
        refine lv_if_eq (tgt := 54) hx hb dX8_drawings_45 (by decide) (fun _ => ?_) (fun c_45 => absurd (by decide +kernel) c_45)
        refine lv_iconst (v := 0) hx hb dX8_drawings_54 (by decide +kernel) ?_
        refine lv_ior hx hb dX8_drawings_55 ?_
        refine va_iast hx hb hK hP hD hS 6 0 rfl rfl (vp_in_nI (by omega) (by omega)) dX8_drawings_56 (fun H locs hP hD hS => ?_)
        rw [mz_cl (n := i_2) (by omega)] at hP hD
        have hP : va_P (dC, dI) vwCl [(mo, .inr (8, [.int (nI n), .ref m1, .ref m2, .ref m3, .long ka, .long kb, .ref m6, .ref m7, .ref m8, .ref m9, .ref m10, .ref m11, .ref m12, .ref m13, .ref m14, .ref m15, .ref m16])), (m2, .inl (cI, 8, .inl fp)), (m12, .inl (cI, 8, .inl fo)), (m13, .inl (cI, 9, .inl fc)), (m14, .inl (cI, 8, .inl fq)), (m15, .inl (cZ, 64, .inl fa)), (m16, .inl (cI, 8, .inl (upd fm16_24 i_2 ((fm16_24 i_2) ||| 0))))] H := hP
        have hD : va_D A [(mo, .inr (8, [.int (nI n), .ref m1, .ref m2, .ref m3, .long ka, .long kb, .ref m6, .ref m7, .ref m8, .ref m9, .ref m10, .ref m11, .ref m12, .ref m13, .ref m14, .ref m15, .ref m16])), (m2, .inl (cI, 8, .inl fp)), (m12, .inl (cI, 8, .inl fo)), (m13, .inl (cI, 9, .inl fc)), (m14, .inl (cI, 8, .inl fq)), (m15, .inl (cZ, 64, .inl fa)), (m16, .inl (cI, 8, .inl (upd fm16_24 i_2 ((fm16_24 i_2) ||| 0))))] := hD
        refine lv_iinc (v := (nI (i_24 + 1))) (lv' := [(2, .int (nI (i_24 + 1))), (1, .int (nI i_2)), (0, .ref mo)]) hx hb dX8_drawings_57 hl (k := 0) rfl (nI_1 _) (by decide) rfl (fun ls hl => ?_)
        refine lv_goto (tgt := 24) hx hb dX8_drawings_60 (by decide) ?_
        exact ih_24 _ (by omega) _ _ _ ⟨(i_24 + 1), (upd fm16_24 i_2 ((fm16_24 i_2) ||| 0)), by omega, (mz_jr_n hj3_24 ht_42), hP, hD, hS, lv_sub hl [0, 1, 2] rfl, rfl⟩
set_option maxHeartbeats 1000000 in
set_option maxRecDepth 100000 in
theorem mz_v_m_alike (l : Launch) (dC : Nat → ClassId) (dI : Nat → Nat → Nat) (cI cJ cZ : ClassId) (mo : Nat) (m1 : Nat) (m2 : Nat) (m3 : Nat) (m6 : Nat) (m7 : Nat) (m8 : Nat) (m9 : Nat) (m10 : Nat) (m11 : Nat) (m12 : Nat) (m13 : Nat) (m14 : Nat) (m15 : Nat) (m16 : Nat) (n : Nat) (ka : Int64) (kb : Int64) (fp : Nat → Int32) (fo : Nat → Int32) (fc : Nat → Int32) (fq : Nat → Int32) (fa : Nat → Int32) (fj : Nat → Int32) (jo : Nat → Int32) (sz : Nat) (hn : n ≤ 8) (hbl : mz_bl fa) (hjm : ∀ t9, t9 < n → ∀ k9, k9 < 32 → (mz_t (jo t9) k9 = true ↔ mz_t (fp t9) k9 = true ∨ (k9 < n ∧ mz_t (fp k9) t9 = true))) : Met l yX8_alike wsX8_alike ({ frames := 3, cells := 0, slots := 0, locals := 68 }) (va_Pc [.ref mo] (fun U => U.heap.size = sz ∧ va_P (dC, dI) vwCl [(mo, .inr (8, [.int (nI n), .ref m1, .ref m2, .ref m3, .long ka, .long kb, .ref m6, .ref m7, .ref m8, .ref m9, .ref m10, .ref m11, .ref m12, .ref m13, .ref m14, .ref m15, .ref m16])), (m2, .inl (cI, 8, .inl fp)), (m12, .inl (cI, 8, .inl fo)), (m13, .inl (cI, 9, .inl fc)), (m14, .inl (cI, 8, .inl fq)), (m15, .inl (cZ, 64, .inl fa)), (m16, .inl (cI, 8, .inl fj))] U.heap ∧ va_K (dC, dI) vwCl [(cI, FieldType.int), (cJ, FieldType.long), (cZ, FieldType.boolean)] U ∧ va_D (fun _ => True) [(mo, .inr (8, [.int (nI n), .ref m1, .ref m2, .ref m3, .long ka, .long kb, .ref m6, .ref m7, .ref m8, .ref m9, .ref m10, .ref m11, .ref m12, .ref m13, .ref m14, .ref m15, .ref m16])), (m2, .inl (cI, 8, .inl fp)), (m12, .inl (cI, 8, .inl fo)), (m13, .inl (cI, 9, .inl fc)), (m14, .inl (cI, 8, .inl fq)), (m15, .inl (cZ, 64, .inl fa)), (m16, .inl (cI, 8, .inl fj))] ∧ mz_N U)) (va_Qi (fun (r : Int32) (_ : Unit) => r = (nI (mz_cw n jo (mz_Vm n jo fp) n (fun _ => True)))) (fun _ t => ∃ (go : Nat → Int32), ∃ (gc : Nat → Int32), ∃ (gq : Nat → Int32), ∃ (ga : Nat → Int32), ∃ (gj : Nat → Int32), (mz_bl ga) ∧ va_P (dC, dI) vwCl [(mo, .inr (8, [.int (nI n), .ref m1, .ref m2, .ref m3, .long ka, .long kb, .ref m6, .ref m7, .ref m8, .ref m9, .ref m10, .ref m11, .ref m12, .ref m13, .ref m14, .ref m15, .ref m16])), (m2, .inl (cI, 8, .inl fp)), (m12, .inl (cI, 8, .inl go)), (m13, .inl (cI, 9, .inl gc)), (m14, .inl (cI, 8, .inl gq)), (m15, .inl (cZ, 64, .inl ga)), (m16, .inl (cI, 8, .inl gj))] t.heap ∧ va_D (va_A [(mo, .inr (8, [.int (nI n), .ref m1, .ref m2, .ref m3, .long ka, .long kb, .ref m6, .ref m7, .ref m8, .ref m9, .ref m10, .ref m11, .ref m12, .ref m13, .ref m14, .ref m15, .ref m16])), (m2, .inl (cI, 8, .inl fp)), (m12, .inl (cI, 8, .inl fo)), (m13, .inl (cI, 9, .inl fc)), (m14, .inl (cI, 8, .inl fq)), (m15, .inl (cZ, 64, .inl fa)), (m16, .inl (cI, 8, .inl fj))] sz) [(mo, .inr (8, [.int (nI n), .ref m1, .ref m2, .ref m3, .long ka, .long kb, .ref m6, .ref m7, .ref m8, .ref m9, .ref m10, .ref m11, .ref m12, .ref m13, .ref m14, .ref m15, .ref m16])), (m2, .inl (cI, 8, .inl fp)), (m12, .inl (cI, 8, .inl go)), (m13, .inl (cI, 9, .inl gc)), (m14, .inl (cI, 8, .inl gq)), (m15, .inl (cZ, 64, .inl ga)), (m16, .inl (cI, 8, .inl gj))]) (va_A [(mo, .inr (8, [.int (nI n), .ref m1, .ref m2, .ref m3, .long ka, .long kb, .ref m6, .ref m7, .ref m8, .ref m9, .ref m10, .ref m11, .ref m12, .ref m13, .ref m14, .ref m15, .ref m16])), (m2, .inl (cI, 8, .inl fp)), (m12, .inl (cI, 8, .inl fo)), (m13, .inl (cI, 9, .inl fc)), (m14, .inl (cI, 8, .inl fq)), (m15, .inl (cZ, 64, .inl fa)), (m16, .inl (cI, 8, .inl fj))] sz)) 0 0 (va_A [(mo, .inr (8, [.int (nI n), .ref m1, .ref m2, .ref m3, .long ka, .long kb, .ref m6, .ref m7, .ref m8, .ref m9, .ref m10, .ref m11, .ref m12, .ref m13, .ref m14, .ref m15, .ref m16])), (m2, .inl (cI, 8, .inl fp)), (m12, .inl (cI, 8, .inl fo)), (m13, .inl (cI, 9, .inl fc)), (m14, .inl (cI, 8, .inl fq)), (m15, .inl (cZ, 64, .inl fa)), (m16, .inl (cI, 8, .inl fj))] sz) := by
  refine Met.ofW (cc := cX8_alike) (maxL := 1) (ret := (some .int)) (by decide) rfl ?_
  intro p e s m args below meth c s₁ B hml hv
  obtain ⟨rfl, hsz, hP, hK, hD0, hN⟩ := hv
  subst hsz
  have hx := B.exec
  have hb := B.bytes
  have hr := B.returns
  have hts := atoms_spec (ws := wsX8_alike) B.pre
  have hown : s.vm.findClass RX8 = some m.cls := findClass_of_methodNamed B.named
  have hlocks := B.notSynchronized
  have hD := hD0.self (sz := s.heap.size)
  generalize hAe : va_A [(mo, .inr (8, [.int (nI n), .ref m1, .ref m2, .ref m3, .long ka, .long kb, .ref m6, .ref m7, .ref m8, .ref m9, .ref m10, .ref m11, .ref m12, .ref m13, .ref m14, .ref m15, .ref m16])), (m2, .inl (cI, 8, .inl fp)), (m12, .inl (cI, 8, .inl fo)), (m13, .inl (cI, 9, .inl fc)), (m14, .inl (cI, 8, .inl fq)), (m15, .inl (cZ, 64, .inl fa)), (m16, .inl (cI, 8, .inl fj))] s.heap.size = A at hD ⊢
  have hA : ∀ q : Nat, s.heap.size ≤ q → A q := fun q h => by rw [← hAe]; exact Or.inr h
  have hS : va_S A s.heap s.heap [] := va_S.rf
  have hl := lv_entry ([.ref mo]) (n := 1) (Nat.le_of_ble_eq_true rfl)
  rw [lg_entry_eq]
  generalize (lg_sl ([.ref mo]) ++ List.replicate (1 - (lg_sl ([.ref mo])).length) Slot.unset).toArray = ls at hl ⊢
  have hl : lv_has ls 1 [(0, .ref mo)] := hl
  refine lv_aload_n hx hb dX8_alike_0 rfl (lv_at hl 0 rfl) ?_
  have hPc := hP.sub (ws' := [(mo, .inr (8, [.int (nI n), .ref m1, .ref m2, .ref m3, .long ka, .long kb, .ref m6, .ref m7, .ref m8, .ref m9, .ref m10, .ref m11, .ref m12, .ref m13, .ref m14, .ref m15, .ref m16])), (m2, .inl (cI, 8, .inl fp)), (m12, .inl (cI, 8, .inl fo)), (m13, .inl (cI, 9, .inl fc)), (m14, .inl (cI, 8, .inl fq)), (m15, .inl (cZ, 64, .inl fa)), (m16, .inl (cI, 8, .inl fj))]) [0, 1, 2, 3, 4, 5, 6] rfl
  have hDc := hD.sub (ws' := [(mo, .inr (8, [.int (nI n), .ref m1, .ref m2, .ref m3, .long ka, .long kb, .ref m6, .ref m7, .ref m8, .ref m9, .ref m10, .ref m11, .ref m12, .ref m13, .ref m14, .ref m15, .ref m16])), (m2, .inl (cI, 8, .inl fp)), (m12, .inl (cI, 8, .inl fo)), (m13, .inl (cI, 9, .inl fc)), (m14, .inl (cI, 8, .inl fq)), (m15, .inl (cZ, 64, .inl fa)), (m16, .inl (cI, 8, .inl fj))]) [0, 1, 2, 3, 4, 5, 6] (by decide) rfl
  have hFc := va_free (wc := [(mo, .inr (8, [.int (nI n), .ref m1, .ref m2, .ref m3, .long ka, .long kb, .ref m6, .ref m7, .ref m8, .ref m9, .ref m10, .ref m11, .ref m12, .ref m13, .ref m14, .ref m15, .ref m16])), (m2, .inl (cI, 8, .inl fp)), (m12, .inl (cI, 8, .inl fo)), (m13, .inl (cI, 9, .inl fc)), (m14, .inl (cI, 8, .inl fq)), (m15, .inl (cZ, 64, .inl fa)), (m16, .inl (cI, 8, .inl fj))]) hD hS hA [0, 1, 2, 3, 4, 5, 6] rfl
  refine va_calli (va_runV (As := []) (rest := []) ⟨hx, hb, hml, hown, hts⟩ (mz_v_m_drawings l dC dI cI cJ cZ mo m1 m2 m3 m6 m7 m8 m9 m10 m11 m12 m13 m14 m15 m16 n ka kb fp fo fc fq fa fj jo s.heap.size (by first | assumption | omega) (by first | assumption | omega) (by first | assumption | omega)) (cwV 0 hts gX8_alike_X8_drawings rfl rfl rfl (by decide +kernel) ⟨Nat.le_of_ble_eq_true rfl, Nat.le_of_ble_eq_true rfl⟩) ⟨fun a U g mk q => mz_blI q, va_recv hK hPc (ci := 8) (q0 := 0) rfl rfl, fun U hU hW => ⟨rfl, by rw [hU], by rw [hU]; exact hPc, va_K.moved hW.alike hK, hDc.weaken (fun _ _ _ _ => trivial), mz_nw hW hN⟩⟩ rfl rfl hl.1 rfl (lv_room (Nat.le_of_ble_eq_true rfl)) dX8_alike_1 ⟨Nat.le_of_ble_eq_true rfl, Nat.le_of_ble_eq_true rfl⟩) hS (fun q _ h => hFc q h) hFc (fun r_1 u t H1 locs ht hvm hw_1 hB hz1 hk1 hS => ?_)
  obtain ⟨go_1, gc_1, gq_1, ga_1, gj_1, hx0_1, hx1_1, hP1, hD1⟩ := hB
  rw [ht] at hP1
  obtain ⟨hP, hD⟩ := va_join (wr := []) (w1 := [(mo, .inr (8, [.int (nI n), .ref m1, .ref m2, .ref m3, .long ka, .long kb, .ref m6, .ref m7, .ref m8, .ref m9, .ref m10, .ref m11, .ref m12, .ref m13, .ref m14, .ref m15, .ref m16])), (m2, .inl (cI, 8, .inl fp)), (m12, .inl (cI, 8, .inl go_1)), (m13, .inl (cI, 9, .inl gc_1)), (m14, .inl (cI, 8, .inl gq_1)), (m15, .inl (cZ, 64, .inl ga_1)), (m16, .inl (cI, 8, .inl gj_1))]) hP hD [0, 1, 2, 3, 4, 5, 6] [] rfl rfl (by decide) (by decide) hk1 hFc hP1 hD1
  generalize H1 = H at hP hS ⊢
  have hP : va_P (dC, dI) vwCl [(mo, .inr (8, [.int (nI n), .ref m1, .ref m2, .ref m3, .long ka, .long kb, .ref m6, .ref m7, .ref m8, .ref m9, .ref m10, .ref m11, .ref m12, .ref m13, .ref m14, .ref m15, .ref m16])), (m2, .inl (cI, 8, .inl fp)), (m12, .inl (cI, 8, .inl go_1)), (m13, .inl (cI, 9, .inl gc_1)), (m14, .inl (cI, 8, .inl gq_1)), (m15, .inl (cZ, 64, .inl ga_1)), (m16, .inl (cI, 8, .inl gj_1))] H := hP
  have hD : va_D A [(mo, .inr (8, [.int (nI n), .ref m1, .ref m2, .ref m3, .long ka, .long kb, .ref m6, .ref m7, .ref m8, .ref m9, .ref m10, .ref m11, .ref m12, .ref m13, .ref m14, .ref m15, .ref m16])), (m2, .inl (cI, 8, .inl fp)), (m12, .inl (cI, 8, .inl go_1)), (m13, .inl (cI, 9, .inl gc_1)), (m14, .inl (cI, 8, .inl gq_1)), (m15, .inl (cZ, 64, .inl ga_1)), (m16, .inl (cI, 8, .inl gj_1))] := hD
  obtain rfl : r_1 = (nI (mz_cw n jo (mz_Vm n jo fp) n (fun _ => True))) := hw_1
  have hP9 := hP.sub (ws' := [(mo, .inr (8, [.int (nI n), .ref m1, .ref m2, .ref m3, .long ka, .long kb, .ref m6, .ref m7, .ref m8, .ref m9, .ref m10, .ref m11, .ref m12, .ref m13, .ref m14, .ref m15, .ref m16])), (m2, .inl (cI, 8, .inl fp)), (m12, .inl (cI, 8, .inl go_1)), (m13, .inl (cI, 9, .inl gc_1)), (m14, .inl (cI, 8, .inl gq_1)), (m15, .inl (cZ, 64, .inl ga_1)), (m16, .inl (cI, 8, .inl gj_1))]) [0, 1, 2, 3, 4, 5, 6] rfl
  have hD9 := hD.sub (ws' := [(mo, .inr (8, [.int (nI n), .ref m1, .ref m2, .ref m3, .long ka, .long kb, .ref m6, .ref m7, .ref m8, .ref m9, .ref m10, .ref m11, .ref m12, .ref m13, .ref m14, .ref m15, .ref m16])), (m2, .inl (cI, 8, .inl fp)), (m12, .inl (cI, 8, .inl go_1)), (m13, .inl (cI, 9, .inl gc_1)), (m14, .inl (cI, 8, .inl gq_1)), (m15, .inl (cZ, 64, .inl ga_1)), (m16, .inl (cI, 8, .inl gj_1))]) [0, 1, 2, 3, 4, 5, 6] (by decide) rfl
  refine W.widen (k := 0) (n := 0) (Nat.le_of_ble_eq_true rfl) (Nat.le_of_ble_eq_true rfl) ?_
  exact W.iret (v := (nI (mz_cw n jo (mz_Vm n jo fp) n (fun _ => True)))) hx hb hr (fun t ht hW => ⟨⟨(nI (mz_cw n jo (mz_Vm n jo fp) n (fun _ => True))), (), rfl, rfl, go_1, gc_1, gq_1, ga_1, gj_1, (by first | assumption | omega), by rw [ht]; exact hP9, hD9⟩, hS.F ht⟩) hS.2.2 dX8_alike_4
set_option maxHeartbeats 1000000 in
set_option maxRecDepth 100000 in
theorem mz_v_m_fixed (l : Launch) (dC : Nat → ClassId) (dI : Nat → Nat → Nat) (cI cJ cZ : ClassId) (mo : Nat) (m1 : Nat) (m2 : Nat) (m3 : Nat) (m6 : Nat) (m7 : Nat) (m8 : Nat) (m9 : Nat) (m10 : Nat) (m11 : Nat) (m12 : Nat) (m13 : Nat) (m14 : Nat) (m15 : Nat) (m16 : Nat) (n : Nat) (ka : Int64) (kb : Int64) (fp : Nat → Int32) (fo : Nat → Int32) (fc : Nat → Int32) (fq : Nat → Int32) (fa : Nat → Int32) (fj : Nat → Int32) (i : Nat) (j : Nat) (jo : Nat → Int32) (sz : Nat) (hn : n ≤ 8) (hbl : mz_bl fa) (hjm : ∀ t9, t9 < n → ∀ k9, k9 < 32 → (mz_t (jo t9) k9 = true ↔ mz_t (fp t9) k9 = true ∨ (k9 < n ∧ mz_t (fp k9) t9 = true))) (hi : i < n) (hj : j < n) : Met l yX8_fixed wsX8_fixed ({ frames := 3, cells := 0, slots := 0, locals := 68 }) (va_Pc [.ref mo, .int (nI i), .int (nI j)] (fun U => U.heap.size = sz ∧ va_P (dC, dI) vwCl [(mo, .inr (8, [.int (nI n), .ref m1, .ref m2, .ref m3, .long ka, .long kb, .ref m6, .ref m7, .ref m8, .ref m9, .ref m10, .ref m11, .ref m12, .ref m13, .ref m14, .ref m15, .ref m16])), (m2, .inl (cI, 8, .inl fp)), (m12, .inl (cI, 8, .inl fo)), (m13, .inl (cI, 9, .inl fc)), (m14, .inl (cI, 8, .inl fq)), (m15, .inl (cZ, 64, .inl fa)), (m16, .inl (cI, 8, .inl fj))] U.heap ∧ va_K (dC, dI) vwCl [(cI, FieldType.int), (cJ, FieldType.long), (cZ, FieldType.boolean)] U ∧ va_D (fun _ => True) [(mo, .inr (8, [.int (nI n), .ref m1, .ref m2, .ref m3, .long ka, .long kb, .ref m6, .ref m7, .ref m8, .ref m9, .ref m10, .ref m11, .ref m12, .ref m13, .ref m14, .ref m15, .ref m16])), (m2, .inl (cI, 8, .inl fp)), (m12, .inl (cI, 8, .inl fo)), (m13, .inl (cI, 9, .inl fc)), (m14, .inl (cI, 8, .inl fq)), (m15, .inl (cZ, 64, .inl fa)), (m16, .inl (cI, 8, .inl fj))] ∧ mz_N U)) (va_Qi (fun (r : Int32) (_ : Unit) => (r = 1 ∧ (mz_t (fp j) i = true ∧ mz_AA n jo (mz_Vm n jo fp) (fun _ => True) i j)) ∨ (r = 0 ∧ ¬ (mz_t (fp j) i = true ∧ mz_AA n jo (mz_Vm n jo fp) (fun _ => True) i j))) (fun _ t => ∃ (go : Nat → Int32), ∃ (gc : Nat → Int32), ∃ (gq : Nat → Int32), ∃ (ga : Nat → Int32), ∃ (gj : Nat → Int32), (mz_bl ga) ∧ va_P (dC, dI) vwCl [(mo, .inr (8, [.int (nI n), .ref m1, .ref m2, .ref m3, .long ka, .long kb, .ref m6, .ref m7, .ref m8, .ref m9, .ref m10, .ref m11, .ref m12, .ref m13, .ref m14, .ref m15, .ref m16])), (m2, .inl (cI, 8, .inl fp)), (m12, .inl (cI, 8, .inl go)), (m13, .inl (cI, 9, .inl gc)), (m14, .inl (cI, 8, .inl gq)), (m15, .inl (cZ, 64, .inl ga)), (m16, .inl (cI, 8, .inl gj))] t.heap ∧ va_D (va_A [(mo, .inr (8, [.int (nI n), .ref m1, .ref m2, .ref m3, .long ka, .long kb, .ref m6, .ref m7, .ref m8, .ref m9, .ref m10, .ref m11, .ref m12, .ref m13, .ref m14, .ref m15, .ref m16])), (m2, .inl (cI, 8, .inl fp)), (m12, .inl (cI, 8, .inl fo)), (m13, .inl (cI, 9, .inl fc)), (m14, .inl (cI, 8, .inl fq)), (m15, .inl (cZ, 64, .inl fa)), (m16, .inl (cI, 8, .inl fj))] sz) [(mo, .inr (8, [.int (nI n), .ref m1, .ref m2, .ref m3, .long ka, .long kb, .ref m6, .ref m7, .ref m8, .ref m9, .ref m10, .ref m11, .ref m12, .ref m13, .ref m14, .ref m15, .ref m16])), (m2, .inl (cI, 8, .inl fp)), (m12, .inl (cI, 8, .inl go)), (m13, .inl (cI, 9, .inl gc)), (m14, .inl (cI, 8, .inl gq)), (m15, .inl (cZ, 64, .inl ga)), (m16, .inl (cI, 8, .inl gj))]) (va_A [(mo, .inr (8, [.int (nI n), .ref m1, .ref m2, .ref m3, .long ka, .long kb, .ref m6, .ref m7, .ref m8, .ref m9, .ref m10, .ref m11, .ref m12, .ref m13, .ref m14, .ref m15, .ref m16])), (m2, .inl (cI, 8, .inl fp)), (m12, .inl (cI, 8, .inl fo)), (m13, .inl (cI, 9, .inl fc)), (m14, .inl (cI, 8, .inl fq)), (m15, .inl (cZ, 64, .inl fa)), (m16, .inl (cI, 8, .inl fj))] sz)) 0 0 (va_A [(mo, .inr (8, [.int (nI n), .ref m1, .ref m2, .ref m3, .long ka, .long kb, .ref m6, .ref m7, .ref m8, .ref m9, .ref m10, .ref m11, .ref m12, .ref m13, .ref m14, .ref m15, .ref m16])), (m2, .inl (cI, 8, .inl fp)), (m12, .inl (cI, 8, .inl fo)), (m13, .inl (cI, 9, .inl fc)), (m14, .inl (cI, 8, .inl fq)), (m15, .inl (cZ, 64, .inl fa)), (m16, .inl (cI, 8, .inl fj))] sz) := by
  refine Met.ofW (cc := cX8_fixed) (maxL := 3) (ret := (some .boolean)) (by decide) rfl ?_
  intro p e s m args below meth c s₁ B hml hv
  obtain ⟨rfl, hsz, hP, hK, hD0, hN⟩ := hv
  subst hsz
  have hx := B.exec
  have hb := B.bytes
  have hr := B.returns
  have hts := atoms_spec (ws := wsX8_fixed) B.pre
  have hown : s.vm.findClass RX8 = some m.cls := findClass_of_methodNamed B.named
  have hlocks := B.notSynchronized
  have hD := hD0.self (sz := s.heap.size)
  generalize hAe : va_A [(mo, .inr (8, [.int (nI n), .ref m1, .ref m2, .ref m3, .long ka, .long kb, .ref m6, .ref m7, .ref m8, .ref m9, .ref m10, .ref m11, .ref m12, .ref m13, .ref m14, .ref m15, .ref m16])), (m2, .inl (cI, 8, .inl fp)), (m12, .inl (cI, 8, .inl fo)), (m13, .inl (cI, 9, .inl fc)), (m14, .inl (cI, 8, .inl fq)), (m15, .inl (cZ, 64, .inl fa)), (m16, .inl (cI, 8, .inl fj))] s.heap.size = A at hD ⊢
  have hA : ∀ q : Nat, s.heap.size ≤ q → A q := fun q h => by rw [← hAe]; exact Or.inr h
  have hS : va_S A s.heap s.heap [] := va_S.rf
  have hiX8 : ∀ w ∈ u_ws RX8 TX8 17, w ∈ wsX8_fixed := by decide +kernel
  have hl := lv_entry ([.ref mo, .int (nI i), .int (nI j)]) (n := 3) (Nat.le_of_ble_eq_true rfl)
  rw [lg_entry_eq]
  generalize (lg_sl ([.ref mo, .int (nI i), .int (nI j)]) ++ List.replicate (3 - (lg_sl ([.ref mo, .int (nI i), .int (nI j)])).length) Slot.unset).toArray = ls at hl ⊢
  have hl : lv_has ls 3 [(0, .ref mo), (1, .int (nI i)), (2, .int (nI j))] := hl
  refine lv_aload_n hx hb dX8_fixed_0 rfl (lv_at hl 0 rfl) ?_
  refine lv_iload_n hx hb dX8_fixed_1 rfl (lv_at hl 1 rfl) ?_
  refine lv_iload_n hx hb dX8_fixed_2 rfl (lv_at hl 2 rfl) ?_
  have hPc := hP.sub (ws' := [(mo, .inr (8, [.int (nI n), .ref m1, .ref m2, .ref m3, .long ka, .long kb, .ref m6, .ref m7, .ref m8, .ref m9, .ref m10, .ref m11, .ref m12, .ref m13, .ref m14, .ref m15, .ref m16])), (m2, .inl (cI, 8, .inl fp))]) [0, 1] rfl
  refine va_calli (va_runV (As := [.int (nI i), .int (nI j)]) (rest := []) ⟨hx, hb, hml, hown, hts⟩ (mz_e_m_has l dC dI cI cJ cZ mo m1 m2 m3 m6 m7 m8 m9 m10 m11 m12 m13 m14 m15 m16 n ka kb fp i j s.heap (by first | assumption | omega) (by first | assumption | omega) (by first | assumption | omega)) (cwV 2 hts gX8_fixed_X8_has rfl rfl rfl (by decide +kernel) ⟨Nat.le_of_ble_eq_true rfl, Nat.le_of_ble_eq_true rfl⟩) ⟨fun a U g mk q => mz_blP q, va_recv hK hPc (ci := 8) (q0 := 0) rfl rfl, fun U hU hW => ⟨rfl, hU, hPc, va_K.moved hW.alike hK, mz_nw hW hN⟩⟩ rfl rfl hl.1 rfl (lv_room (Nat.le_of_ble_eq_true rfl)) dX8_fixed_3 ⟨Nat.le_of_ble_eq_true rfl, Nat.le_of_ble_eq_true rfl⟩) hS (fun q _ h => h.elim) (fun q h => h.elim) (fun r_3 u t H1 locs ht hvm hw_3 hB hz1 hk1 hS => ?_)
  have hE : s.heap = H1 := hB.symm.trans ht
  subst hE
  rcases (show (r_3 = 1 ∧ mz_t (fp j) i = true) ∨ (r_3 = 0 ∧ mz_t (fp j) i = false) from hw_3) with ⟨rfl, ht_3⟩ | ⟨rfl, ht_3⟩
  · skip
    refine lv_if_ne (tgt := 11) hx hb dX8_fixed_6 (by decide) (fun _ => ?_) (fun c_6 => absurd c_6 (by decide +kernel))
    refine lv_aload_n hx hb dX8_fixed_11 rfl (lv_at hl 0 rfl) ?_
    have hPc := hP.sub (ws' := [(mo, .inr (8, [.int (nI n), .ref m1, .ref m2, .ref m3, .long ka, .long kb, .ref m6, .ref m7, .ref m8, .ref m9, .ref m10, .ref m11, .ref m12, .ref m13, .ref m14, .ref m15, .ref m16])), (m2, .inl (cI, 8, .inl fp)), (m12, .inl (cI, 8, .inl fo)), (m13, .inl (cI, 9, .inl fc)), (m14, .inl (cI, 8, .inl fq)), (m15, .inl (cZ, 64, .inl fa)), (m16, .inl (cI, 8, .inl fj))]) [0, 1, 2, 3, 4, 5, 6] rfl
    have hDc := hD.sub (ws' := [(mo, .inr (8, [.int (nI n), .ref m1, .ref m2, .ref m3, .long ka, .long kb, .ref m6, .ref m7, .ref m8, .ref m9, .ref m10, .ref m11, .ref m12, .ref m13, .ref m14, .ref m15, .ref m16])), (m2, .inl (cI, 8, .inl fp)), (m12, .inl (cI, 8, .inl fo)), (m13, .inl (cI, 9, .inl fc)), (m14, .inl (cI, 8, .inl fq)), (m15, .inl (cZ, 64, .inl fa)), (m16, .inl (cI, 8, .inl fj))]) [0, 1, 2, 3, 4, 5, 6] (by decide) rfl
    have hFc := va_free (wc := [(mo, .inr (8, [.int (nI n), .ref m1, .ref m2, .ref m3, .long ka, .long kb, .ref m6, .ref m7, .ref m8, .ref m9, .ref m10, .ref m11, .ref m12, .ref m13, .ref m14, .ref m15, .ref m16])), (m2, .inl (cI, 8, .inl fp)), (m12, .inl (cI, 8, .inl fo)), (m13, .inl (cI, 9, .inl fc)), (m14, .inl (cI, 8, .inl fq)), (m15, .inl (cZ, 64, .inl fa)), (m16, .inl (cI, 8, .inl fj))]) hD hS hA [0, 1, 2, 3, 4, 5, 6] rfl
    refine va_calli (va_runV (As := []) (rest := []) ⟨hx, hb, hml, hown, hts⟩ (mz_v_m_drawings l dC dI cI cJ cZ mo m1 m2 m3 m6 m7 m8 m9 m10 m11 m12 m13 m14 m15 m16 n ka kb fp fo fc fq fa fj jo s.heap.size (by first | assumption | omega) (by first | assumption | omega) (by first | assumption | omega)) (cwV 0 hts gX8_fixed_X8_drawings rfl rfl rfl (by decide +kernel) ⟨Nat.le_of_ble_eq_true rfl, Nat.le_of_ble_eq_true rfl⟩) ⟨fun a U g mk q => mz_blI q, va_recv hK hPc (ci := 8) (q0 := 0) rfl rfl, fun U hU hW => ⟨rfl, by rw [hU], by rw [hU]; exact hPc, va_K.moved hW.alike hK, hDc.weaken (fun _ _ _ _ => trivial), mz_nw hW hN⟩⟩ rfl rfl hl.1 rfl (lv_room (Nat.le_of_ble_eq_true rfl)) dX8_fixed_12 ⟨Nat.le_of_ble_eq_true rfl, Nat.le_of_ble_eq_true rfl⟩) hS (fun q _ h => hFc q h) hFc (fun r_12 u t H1 locs ht hvm hw_12 hB hz1 hk1 hS => ?_)
    obtain ⟨go_12, gc_12, gq_12, ga_12, gj_12, hx0_12, hx1_12, hP1, hD1⟩ := hB
    rw [ht] at hP1
    obtain ⟨hP, hD⟩ := va_join (wr := []) (w1 := [(mo, .inr (8, [.int (nI n), .ref m1, .ref m2, .ref m3, .long ka, .long kb, .ref m6, .ref m7, .ref m8, .ref m9, .ref m10, .ref m11, .ref m12, .ref m13, .ref m14, .ref m15, .ref m16])), (m2, .inl (cI, 8, .inl fp)), (m12, .inl (cI, 8, .inl go_12)), (m13, .inl (cI, 9, .inl gc_12)), (m14, .inl (cI, 8, .inl gq_12)), (m15, .inl (cZ, 64, .inl ga_12)), (m16, .inl (cI, 8, .inl gj_12))]) hP hD [0, 1, 2, 3, 4, 5, 6] [] rfl rfl (by decide) (by decide) hk1 hFc hP1 hD1
    generalize H1 = H at hP hS ⊢
    have hP : va_P (dC, dI) vwCl [(mo, .inr (8, [.int (nI n), .ref m1, .ref m2, .ref m3, .long ka, .long kb, .ref m6, .ref m7, .ref m8, .ref m9, .ref m10, .ref m11, .ref m12, .ref m13, .ref m14, .ref m15, .ref m16])), (m2, .inl (cI, 8, .inl fp)), (m12, .inl (cI, 8, .inl go_12)), (m13, .inl (cI, 9, .inl gc_12)), (m14, .inl (cI, 8, .inl gq_12)), (m15, .inl (cZ, 64, .inl ga_12)), (m16, .inl (cI, 8, .inl gj_12))] H := hP
    have hD : va_D A [(mo, .inr (8, [.int (nI n), .ref m1, .ref m2, .ref m3, .long ka, .long kb, .ref m6, .ref m7, .ref m8, .ref m9, .ref m10, .ref m11, .ref m12, .ref m13, .ref m14, .ref m15, .ref m16])), (m2, .inl (cI, 8, .inl fp)), (m12, .inl (cI, 8, .inl go_12)), (m13, .inl (cI, 9, .inl gc_12)), (m14, .inl (cI, 8, .inl gq_12)), (m15, .inl (cZ, 64, .inl ga_12)), (m16, .inl (cI, 8, .inl gj_12))] := hD
    obtain rfl : r_12 = (nI (mz_cw n jo (mz_Vm n jo fp) n (fun _ => True))) := hw_12
    refine lv_pop hx hb dX8_fixed_15 rfl ?_
    refine lv_aload_n hx hb dX8_fixed_16 rfl (lv_at hl 0 rfl) ?_
    refine va_get (D := (dC, dI)) (ci := 8) (v := .ref m15) (C := RX8) (T := TX8) (N := 17) hx hb hts hiX8 hown hK hP 0 rfl rfl 15 (by decide) (hts (.fieldLink RX8 52 "MadeItSoModel" "isAlways" "[Z") (by decide +kernel)) (fun _ h9 => h9) rfl dX8_fixed_17 ?_
    refine lv_bipush (v := 8) hx hb dX8_fixed_20 (by decide +kernel) ?_
    refine lv_iload_n hx hb dX8_fixed_22 rfl (lv_at hl 1 rfl) ?_
    refine lv_imul hx hb dX8_fixed_23 ?_
    refine mz_ti (y := (nI (8 * i))) (pk_mul _ _) ?_
    refine lv_iload_n hx hb dX8_fixed_24 rfl (lv_at hl 2 rfl) ?_
    refine lv_iadd hx hb dX8_fixed_25 ?_
    refine mz_ti (y := (nI (8 * i + j))) (nI_add _ _) ?_
    refine va_zald hx hb hK hP 5 2 rfl rfl (vp_in_nI (by omega) (by omega)) dX8_fixed_26 ?_
    refine mz_ti (y := (ga_12 (8 * i + j))) (by rw [mz_cl (by omega)]) ?_
    rcases hx1_12 i j hi hj with ⟨h_27, hA_27⟩ | ⟨h_27, hA_27⟩
    · refine mz_ti (y := 1) h_27 ?_
      have hP9 := hP.sub (ws' := [(mo, .inr (8, [.int (nI n), .ref m1, .ref m2, .ref m3, .long ka, .long kb, .ref m6, .ref m7, .ref m8, .ref m9, .ref m10, .ref m11, .ref m12, .ref m13, .ref m14, .ref m15, .ref m16])), (m2, .inl (cI, 8, .inl fp)), (m12, .inl (cI, 8, .inl go_12)), (m13, .inl (cI, 9, .inl gc_12)), (m14, .inl (cI, 8, .inl gq_12)), (m15, .inl (cZ, 64, .inl ga_12)), (m16, .inl (cI, 8, .inl gj_12))]) [0, 1, 2, 3, 4, 5, 6] rfl
      have hD9 := hD.sub (ws' := [(mo, .inr (8, [.int (nI n), .ref m1, .ref m2, .ref m3, .long ka, .long kb, .ref m6, .ref m7, .ref m8, .ref m9, .ref m10, .ref m11, .ref m12, .ref m13, .ref m14, .ref m15, .ref m16])), (m2, .inl (cI, 8, .inl fp)), (m12, .inl (cI, 8, .inl go_12)), (m13, .inl (cI, 9, .inl gc_12)), (m14, .inl (cI, 8, .inl gq_12)), (m15, .inl (cZ, 64, .inl ga_12)), (m16, .inl (cI, 8, .inl gj_12))]) [0, 1, 2, 3, 4, 5, 6] (by decide) rfl
      refine W.widen (k := 0) (n := 0) (Nat.le_of_ble_eq_true rfl) (Nat.le_of_ble_eq_true rfl) ?_
      exact W.zret (v := 1) hx hb hr (mz_nz (by decide +kernel)) (fun t ht hW => ⟨⟨1, (), rfl, Or.inl ⟨rfl, ht_3, hA_27⟩, go_12, gc_12, gq_12, ga_12, gj_12, hx0_12, by rw [ht]; exact hP9, hD9⟩, hS.F ht⟩) hS.2.2 dX8_fixed_27
    · refine mz_ti (y := 0) h_27 ?_
      have hP9 := hP.sub (ws' := [(mo, .inr (8, [.int (nI n), .ref m1, .ref m2, .ref m3, .long ka, .long kb, .ref m6, .ref m7, .ref m8, .ref m9, .ref m10, .ref m11, .ref m12, .ref m13, .ref m14, .ref m15, .ref m16])), (m2, .inl (cI, 8, .inl fp)), (m12, .inl (cI, 8, .inl go_12)), (m13, .inl (cI, 9, .inl gc_12)), (m14, .inl (cI, 8, .inl gq_12)), (m15, .inl (cZ, 64, .inl ga_12)), (m16, .inl (cI, 8, .inl gj_12))]) [0, 1, 2, 3, 4, 5, 6] rfl
      have hD9 := hD.sub (ws' := [(mo, .inr (8, [.int (nI n), .ref m1, .ref m2, .ref m3, .long ka, .long kb, .ref m6, .ref m7, .ref m8, .ref m9, .ref m10, .ref m11, .ref m12, .ref m13, .ref m14, .ref m15, .ref m16])), (m2, .inl (cI, 8, .inl fp)), (m12, .inl (cI, 8, .inl go_12)), (m13, .inl (cI, 9, .inl gc_12)), (m14, .inl (cI, 8, .inl gq_12)), (m15, .inl (cZ, 64, .inl ga_12)), (m16, .inl (cI, 8, .inl gj_12))]) [0, 1, 2, 3, 4, 5, 6] (by decide) rfl
      refine W.widen (k := 0) (n := 0) (Nat.le_of_ble_eq_true rfl) (Nat.le_of_ble_eq_true rfl) ?_
      exact W.zret (v := 0) hx hb hr (mz_nz (by decide +kernel)) (fun t ht hW => ⟨⟨0, (), rfl, Or.inr ⟨rfl, fun h9 => hA_27 h9.2⟩, go_12, gc_12, gq_12, ga_12, gj_12, hx0_12, by rw [ht]; exact hP9, hD9⟩, hS.F ht⟩) hS.2.2 dX8_fixed_27
  · skip
    refine lv_if_ne (tgt := 11) hx hb dX8_fixed_6 (by decide) (fun c_6 => absurd (by decide +kernel) c_6) (fun _ => ?_)
    refine lv_iconst (v := 0) hx hb dX8_fixed_9 (by decide +kernel) ?_
    have hP9 := hP.sub (ws' := [(mo, .inr (8, [.int (nI n), .ref m1, .ref m2, .ref m3, .long ka, .long kb, .ref m6, .ref m7, .ref m8, .ref m9, .ref m10, .ref m11, .ref m12, .ref m13, .ref m14, .ref m15, .ref m16])), (m2, .inl (cI, 8, .inl fp)), (m12, .inl (cI, 8, .inl fo)), (m13, .inl (cI, 9, .inl fc)), (m14, .inl (cI, 8, .inl fq)), (m15, .inl (cZ, 64, .inl fa)), (m16, .inl (cI, 8, .inl fj))]) [0, 1, 2, 3, 4, 5, 6] rfl
    have hD9 := hD.sub (ws' := [(mo, .inr (8, [.int (nI n), .ref m1, .ref m2, .ref m3, .long ka, .long kb, .ref m6, .ref m7, .ref m8, .ref m9, .ref m10, .ref m11, .ref m12, .ref m13, .ref m14, .ref m15, .ref m16])), (m2, .inl (cI, 8, .inl fp)), (m12, .inl (cI, 8, .inl fo)), (m13, .inl (cI, 9, .inl fc)), (m14, .inl (cI, 8, .inl fq)), (m15, .inl (cZ, 64, .inl fa)), (m16, .inl (cI, 8, .inl fj))]) [0, 1, 2, 3, 4, 5, 6] (by decide) rfl
    refine W.widen (k := 0) (n := 0) (Nat.le_of_ble_eq_true rfl) (Nat.le_of_ble_eq_true rfl) ?_
    exact W.zret (v := 0) hx hb hr (mz_nz (by decide +kernel)) (fun t ht hW => ⟨⟨0, (), rfl, Or.inr ⟨rfl, fun h9 => by rw [ht_3] at h9; cases h9.1⟩, fo, fc, fq, fa, fj, hbl, by rw [ht]; exact hP9, hD9⟩, hS.F ht⟩) hS.2.2 dX8_fixed_10
set_option maxHeartbeats 1000000 in
set_option maxRecDepth 100000 in
theorem mz_v_m_fixed_out (l : Launch) (dC : Nat → ClassId) (dI : Nat → Nat → Nat) (cI cJ cZ : ClassId) (mo : Nat) (m1 : Nat) (m2 : Nat) (m3 : Nat) (m6 : Nat) (m7 : Nat) (m8 : Nat) (m9 : Nat) (m10 : Nat) (m11 : Nat) (m12 : Nat) (m13 : Nat) (m14 : Nat) (m15 : Nat) (m16 : Nat) (n : Nat) (ka : Int64) (kb : Int64) (p1 : Int32) (p2 : Int32) (Hq : Heap) (hn : n ≤ 8) (hout : ¬ ∃ i j : Nat, i < n ∧ j < n ∧ p1 = nI i ∧ p2 = nI j) : Met l yX8_fixed wsX8_fixed ({ frames := 2, cells := 0, slots := 0, locals := 43 }) (va_Pc [.ref mo, .int p1, .int p2] (fun U => U.heap = Hq ∧ va_P (dC, dI) vwCl [(mo, .inr (8, [.int (nI n), .ref m1, .ref m2, .ref m3, .long ka, .long kb, .ref m6, .ref m7, .ref m8, .ref m9, .ref m10, .ref m11, .ref m12, .ref m13, .ref m14, .ref m15, .ref m16]))] Hq ∧ va_K (dC, dI) vwCl [(cI, FieldType.int), (cJ, FieldType.long), (cZ, FieldType.boolean)] U ∧ mz_N U)) (va_Qi (fun (r : Int32) (_ : Unit) => r = 0) (fun _ t => t.heap = Hq) (fun _ : Nat => False)) 0 0 (fun _ : Nat => False) := by
  refine Met.ofW (cc := cX8_fixed) (maxL := 3) (ret := (some .boolean)) (by decide) rfl ?_
  intro p e s m args below meth c s₁ B hml hv
  obtain ⟨rfl, hH, hP, hK, hN⟩ := hv
  subst hH
  have hx := B.exec
  have hb := B.bytes
  have hr := B.returns
  have hts := atoms_spec (ws := wsX8_fixed) B.pre
  have hown : s.vm.findClass RX8 = some m.cls := findClass_of_methodNamed B.named
  have hlocks := B.notSynchronized
  have hS : va_S (fun _ : Nat => False) s.heap s.heap [] := va_S.rf
  have hl := lv_entry ([.ref mo, .int p1, .int p2]) (n := 3) (Nat.le_of_ble_eq_true rfl)
  rw [lg_entry_eq]
  generalize (lg_sl ([.ref mo, .int p1, .int p2]) ++ List.replicate (3 - (lg_sl ([.ref mo, .int p1, .int p2])).length) Slot.unset).toArray = ls at hl ⊢
  have hl : lv_has ls 3 [(0, .ref mo), (1, .int p1), (2, .int p2)] := hl
  refine lv_aload_n hx hb dX8_fixed_0 rfl (lv_at hl 0 rfl) ?_
  refine lv_iload_n hx hb dX8_fixed_1 rfl (lv_at hl 1 rfl) ?_
  refine lv_iload_n hx hb dX8_fixed_2 rfl (lv_at hl 2 rfl) ?_
  have hPc := hP.sub (ws' := [(mo, .inr (8, [.int (nI n), .ref m1, .ref m2, .ref m3, .long ka, .long kb, .ref m6, .ref m7, .ref m8, .ref m9, .ref m10, .ref m11, .ref m12, .ref m13, .ref m14, .ref m15, .ref m16]))]) [0] rfl
  refine va_calli (va_runV (As := [.int p1, .int p2]) (rest := []) ⟨hx, hb, hml, hown, hts⟩ (mz_e_m_has_out l dC dI cI cJ cZ mo m1 m2 m3 m6 m7 m8 m9 m10 m11 m12 m13 m14 m15 m16 n ka kb p1 p2 s.heap (by first | assumption | omega) hout) (cwV 2 hts gX8_fixed_X8_has rfl rfl rfl (by decide +kernel) ⟨Nat.le_of_ble_eq_true rfl, Nat.le_of_ble_eq_true rfl⟩) ⟨fun a U g mk q => mz_blP q, va_recv hK hPc (ci := 8) (q0 := 0) rfl rfl, fun U hU hW => ⟨rfl, hU, hPc, va_K.moved hW.alike hK, mz_nw hW hN⟩⟩ rfl rfl hl.1 rfl (lv_room (Nat.le_of_ble_eq_true rfl)) dX8_fixed_3 ⟨Nat.le_of_ble_eq_true rfl, Nat.le_of_ble_eq_true rfl⟩) hS (fun q _ h => h.elim) (fun q h => h.elim) (fun r_3 u t H1 locs ht hvm hw_3 hB hz1 hk1 hS => ?_)
  have hE : s.heap = H1 := hB.symm.trans ht
  subst hE
  obtain rfl : r_3 = 0 := hw_3
  refine lv_if_ne (tgt := 11) hx hb dX8_fixed_6 (by decide) (fun c_6 => absurd (by decide +kernel) c_6) (fun _ => ?_)
  refine lv_iconst (v := 0) hx hb dX8_fixed_9 (by decide +kernel) ?_
  refine W.widen (k := 0) (n := 0) (Nat.le_of_ble_eq_true rfl) (Nat.le_of_ble_eq_true rfl) ?_
  exact W.zret (v := 0) hx hb hr (mz_nz (by decide +kernel)) (fun t ht hW => ⟨⟨0, (), rfl, rfl, ht⟩, hS.F ht⟩) hS.2.2 dX8_fixed_10
