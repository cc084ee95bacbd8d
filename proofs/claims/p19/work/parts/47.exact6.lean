/-! exact answers: otherwise -/
set_option maxHeartbeats 1000000 in
set_option maxRecDepth 100000 in
theorem mz_q_settingOf (l : Launch) (dC : Nat → ClassId) (dI : Nat → Nat → Nat) (cI cJ cZ : ClassId) (i : Nat) (p1 : Int32) (Hq : Heap)  : Met l yX7_settingOf wsX7_settingOf ({ frames := 1, cells := 0, slots := 0, locals := 20 }) (va_Pc [.int (nI i), .int p1] (fun U => U.heap = Hq ∧ va_P (dC, dI) vwCl [] Hq ∧ va_K (dC, dI) vwCl [(cI, FieldType.int), (cJ, FieldType.long), (cZ, FieldType.boolean)] U ∧ mz_N U)) (va_Qi (fun (r : Int32) (_ : Unit) => r = ((1 <<< ((nI i) &&& 31)) ||| (p1 <<< ((nI (i + 8)) &&& 31)))) (fun _ t => t.heap = Hq) (fun _ : Nat => False)) 0 0 (fun _ : Nat => False) := by
  refine Met.ofW (cc := cX7_settingOf) (maxL := 2) (ret := (some .int)) (by decide) rfl ?_
  intro p e s m args below meth c s₁ B hml hv
  obtain ⟨rfl, hH, hP, hK, hN⟩ := hv
  subst hH
  have hx := B.exec
  have hb := B.bytes
  have hr := B.returns
  have hts := atoms_spec (ws := wsX7_settingOf) B.pre
  have hown : s.vm.findClass RX7 = some m.cls := findClass_of_methodNamed B.named
  have hlocks := B.notSynchronized
  have hS : va_S (fun _ : Nat => False) s.heap s.heap [] := va_S.rf
  have hl := lv_entry ([.int (nI i), .int p1]) (n := 2) (Nat.le_of_ble_eq_true rfl)
  rw [lg_entry_eq]
  generalize (lg_sl ([.int (nI i), .int p1]) ++ List.replicate (2 - (lg_sl ([.int (nI i), .int p1])).length) Slot.unset).toArray = ls at hl ⊢
  have hl : lv_has ls 2 [(0, .int (nI i)), (1, .int p1)] := hl
  refine lv_iload_n hx hb dX7_settingOf_0 rfl (lv_at hl 0 rfl) ?_
  have hPc := hP.sub (ws' := []) [] rfl
  refine va_calli (va_runS (As := [.int (nI i)]) (rest := []) ⟨hx, hb, hml, hown, hts⟩ (mz_g_bit l dC dI cI cJ cZ (nI i) s.heap ) (va_cwS 1 hts gX7_settingOf_X7_bit rfl rfl rfl (by decide +kernel) ⟨Nat.le_of_ble_eq_true rfl, Nat.le_of_ble_eq_true rfl⟩) ⟨fun a U g mk q => mz_blP q, fun U hU hW => ⟨rfl, hU, hPc, va_K.moved hW.alike hK, mz_nw hW hN⟩⟩ rfl rfl hl.1 rfl (lv_room (Nat.le_of_ble_eq_true rfl)) dX7_settingOf_1 ⟨Nat.le_of_ble_eq_true rfl, Nat.le_of_ble_eq_true rfl⟩) hS (fun q _ h => h.elim) (fun q h => h.elim) (fun r_1 u t H1 locs ht hvm hw_1 hB hz1 hk1 hS => ?_)
  have hE : s.heap = H1 := hB.symm.trans ht
  subst hE
  obtain rfl : r_1 = (1 <<< ((nI i) &&& 31)) := hw_1
  refine lv_iload_n hx hb dX7_settingOf_4 rfl (lv_at hl 1 rfl) ?_
  refine lv_iload_n hx hb dX7_settingOf_5 rfl (lv_at hl 0 rfl) ?_
  refine lv_bipush (v := 8) hx hb dX7_settingOf_6 (by decide +kernel) ?_
  refine lv_iadd hx hb dX7_settingOf_8 ?_
  refine mz_ti (y := (nI (i + 8))) (nI_add _ _) ?_
  refine lv_ishl hx hb dX7_settingOf_9 ?_
  refine lv_ior hx hb dX7_settingOf_10 ?_
  refine W.widen (k := 0) (n := 0) (Nat.le_of_ble_eq_true rfl) (Nat.le_of_ble_eq_true rfl) ?_
  exact W.iret (v := ((1 <<< ((nI i) &&& 31)) ||| (p1 <<< ((nI (i + 8)) &&& 31)))) hx hb hr (fun t ht hW => ⟨⟨((1 <<< ((nI i) &&& 31)) ||| (p1 <<< ((nI (i + 8)) &&& 31))), (), rfl, rfl, ht⟩, hS.F ht⟩) hS.2.2 dX7_settingOf_11
set_option maxHeartbeats 1000000 in
set_option maxRecDepth 100000 in
theorem mz_q_withOne0 (l : Launch) (dC : Nat → ClassId) (dI : Nat → Nat → Nat) (cI cJ cZ : ClassId) (i : Nat) (p2 : Int32) (Hq : Heap)  : Met l yX8_withOne wsX8_withOne ({ frames := 0, cells := 0, slots := 0, locals := 0 }) (va_Pc [.int 0, .int (nI i), .int p2] (fun U => U.heap = Hq ∧ va_P (dC, dI) vwCl [] Hq ∧ va_K (dC, dI) vwCl [(cI, FieldType.int), (cJ, FieldType.long), (cZ, FieldType.boolean)] U ∧ mz_N U)) (va_Qi (fun (r : Int32) (_ : Unit) => r = (mz_so i p2)) (fun _ t => t.heap = Hq) (fun _ : Nat => False)) 0 0 (fun _ : Nat => False) := by
  refine Met.ofW (cc := cX8_withOne) (maxL := 3) (ret := (some .int)) (by decide) rfl ?_
  intro p e s m args below meth c s₁ B hml hv
  obtain ⟨rfl, hH, hP, hK, hN⟩ := hv
  subst hH
  have hx := B.exec
  have hb := B.bytes
  have hr := B.returns
  have hts := atoms_spec (ws := wsX8_withOne) B.pre
  have hown : s.vm.findClass RX8 = some m.cls := findClass_of_methodNamed B.named
  have hlocks := B.notSynchronized
  have hS : va_S (fun _ : Nat => False) s.heap s.heap [] := va_S.rf
  have hl := lv_entry ([.int 0, .int (nI i), .int p2]) (n := 3) (Nat.le_of_ble_eq_true rfl)
  rw [lg_entry_eq]
  generalize (lg_sl ([.int 0, .int (nI i), .int p2]) ++ List.replicate (3 - (lg_sl ([.int 0, .int (nI i), .int p2])).length) Slot.unset).toArray = ls at hl ⊢
  have hl : lv_has ls 3 [(0, .int 0), (1, .int (nI i)), (2, .int p2)] := hl
  refine lv_iload_n hx hb dX8_withOne_0 rfl (lv_at hl 0 rfl) ?_
  refine lv_iconst (v := 1) hx hb dX8_withOne_1 (by decide +kernel) ?_
  refine lv_iload_n hx hb dX8_withOne_2 rfl (lv_at hl 1 rfl) ?_
  refine lv_ishl hx hb dX8_withOne_3 ?_
  refine lv_ior hx hb dX8_withOne_4 ?_
  refine mz_ti (y := ((0 : Int32) ||| ((1 : Int32) <<< ((nI i) &&& 31)))) rfl ?_
  refine lv_iload_n hx hb dX8_withOne_5 rfl (lv_at hl 2 rfl) ?_
  refine lv_bipush (v := 8) hx hb dX8_withOne_6 (by decide +kernel) ?_
  refine lv_iload_n hx hb dX8_withOne_8 rfl (lv_at hl 1 rfl) ?_
  refine lv_iadd hx hb dX8_withOne_9 ?_
  refine mz_ti (y := (nI (8 + i))) (nI_add _ _) ?_
  refine lv_ishl hx hb dX8_withOne_10 ?_
  refine lv_ior hx hb dX8_withOne_11 ?_
  refine W.widen (k := 0) (n := 0) (Nat.le_of_ble_eq_true rfl) (Nat.le_of_ble_eq_true rfl) ?_
  exact W.iret (v := (((0 : Int32) ||| ((1 : Int32) <<< ((nI i) &&& 31))) ||| (p2 <<< ((nI (8 + i)) &&& 31)))) hx hb hr (fun t ht hW => ⟨⟨(((0 : Int32) ||| ((1 : Int32) <<< ((nI i) &&& 31))) ||| (p2 <<< ((nI (8 + i)) &&& 31))), (), rfl, rfl, ht⟩, hS.F ht⟩) hS.2.2 dX8_withOne_12
set_option maxHeartbeats 1000000 in
set_option maxRecDepth 100000 in
theorem mz_q_withOne (l : Launch) (dC : Nat → ClassId) (dI : Nat → Nat → Nat) (cI cJ cZ : ClassId) (p0 : Int32) (i : Nat) (p2 : Int32) (Hq : Heap)  : Met l yX8_withOne wsX8_withOne ({ frames := 0, cells := 0, slots := 0, locals := 0 }) (va_Pc [.int p0, .int (nI i), .int p2] (fun U => U.heap = Hq ∧ va_P (dC, dI) vwCl [] Hq ∧ va_K (dC, dI) vwCl [(cI, FieldType.int), (cJ, FieldType.long), (cZ, FieldType.boolean)] U ∧ mz_N U)) (va_Qi (fun (r : Int32) (_ : Unit) => r = (mz_s2 p0 i p2)) (fun _ t => t.heap = Hq) (fun _ : Nat => False)) 0 0 (fun _ : Nat => False) := by
  refine Met.ofW (cc := cX8_withOne) (maxL := 3) (ret := (some .int)) (by decide) rfl ?_
  intro p e s m args below meth c s₁ B hml hv
  obtain ⟨rfl, hH, hP, hK, hN⟩ := hv
  subst hH
  have hx := B.exec
  have hb := B.bytes
  have hr := B.returns
  have hts := atoms_spec (ws := wsX8_withOne) B.pre
  have hown : s.vm.findClass RX8 = some m.cls := findClass_of_methodNamed B.named
  have hlocks := B.notSynchronized
  have hS : va_S (fun _ : Nat => False) s.heap s.heap [] := va_S.rf
  have hl := lv_entry ([.int p0, .int (nI i), .int p2]) (n := 3) (Nat.le_of_ble_eq_true rfl)
  rw [lg_entry_eq]
  generalize (lg_sl ([.int p0, .int (nI i), .int p2]) ++ List.replicate (3 - (lg_sl ([.int p0, .int (nI i), .int p2])).length) Slot.unset).toArray = ls at hl ⊢
  have hl : lv_has ls 3 [(0, .int p0), (1, .int (nI i)), (2, .int p2)] := hl
  refine lv_iload_n hx hb dX8_withOne_0 rfl (lv_at hl 0 rfl) ?_
  refine lv_iconst (v := 1) hx hb dX8_withOne_1 (by decide +kernel) ?_
  refine lv_iload_n hx hb dX8_withOne_2 rfl (lv_at hl 1 rfl) ?_
  refine lv_ishl hx hb dX8_withOne_3 ?_
  refine lv_ior hx hb dX8_withOne_4 ?_
  refine lv_iload_n hx hb dX8_withOne_5 rfl (lv_at hl 2 rfl) ?_
  refine lv_bipush (v := 8) hx hb dX8_withOne_6 (by decide +kernel) ?_
  refine lv_iload_n hx hb dX8_withOne_8 rfl (lv_at hl 1 rfl) ?_
  refine lv_iadd hx hb dX8_withOne_9 ?_
  refine mz_ti (y := (nI (8 + i))) (nI_add _ _) ?_
  refine lv_ishl hx hb dX8_withOne_10 ?_
  refine lv_ior hx hb dX8_withOne_11 ?_
  refine W.widen (k := 0) (n := 0) (Nat.le_of_ble_eq_true rfl) (Nat.le_of_ble_eq_true rfl) ?_
  exact W.iret (v := ((p0 ||| (1 <<< ((nI i) &&& 31))) ||| (p2 <<< ((nI (8 + i)) &&& 31)))) hx hb hr (fun t ht hW => ⟨⟨((p0 ||| (1 <<< ((nI i) &&& 31))) ||| (p2 <<< ((nI (8 + i)) &&& 31))), (), rfl, rfl, ht⟩, hS.F ht⟩) hS.2.2 dX8_withOne_12
set_option maxHeartbeats 1000000 in
set_option maxRecDepth 100000 in
theorem mz_q_most (l : Launch) (dC : Nat → ClassId) (dI : Nat → Nat → Nat) (cI cJ cZ : ClassId) (p0 : Int64) (p1 : Int64) (Hq : Heap)  : Met l yX8_most wsX8_most ({ frames := 0, cells := 0, slots := 0, locals := 0 }) (va_Pc [.long p0, .long p1] (fun U => U.heap = Hq ∧ va_P (dC, dI) vwCl [] Hq ∧ va_K (dC, dI) vwCl [(cI, FieldType.int), (cJ, FieldType.long), (cZ, FieldType.boolean)] U ∧ mz_N U)) (va_Ql (fun (r : Int64) (_ : Unit) => r = (mz_mx p0 p1)) (fun _ t => t.heap = Hq) (fun _ : Nat => False)) 0 0 (fun _ : Nat => False) := by
  refine Met.ofW (cc := cX8_most) (maxL := 4) (ret := (some .long)) (by decide) rfl ?_
  intro p e s m args below meth c s₁ B hml hv
  obtain ⟨rfl, hH, hP, hK, hN⟩ := hv
  subst hH
  have hx := B.exec
  have hb := B.bytes
  have hr := B.returns
  have hts := atoms_spec (ws := wsX8_most) B.pre
  have hown : s.vm.findClass RX8 = some m.cls := findClass_of_methodNamed B.named
  have hlocks := B.notSynchronized
  have hS : va_S (fun _ : Nat => False) s.heap s.heap [] := va_S.rf
  have hl := lv_entry ([.long p0, .long p1]) (n := 4) (Nat.le_of_ble_eq_true rfl)
  rw [lg_entry_eq]
  generalize (lg_sl ([.long p0, .long p1]) ++ List.replicate (4 - (lg_sl ([.long p0, .long p1])).length) Slot.unset).toArray = ls at hl ⊢
  have hl : lv_has ls 4 [(0, .long p0), (2, .long p1)] := hl
  refine lv_lload_n hx hb dX8_most_0 rfl (lv_at hl 0 rfl) ?_
  refine lv_lload_n hx hb dX8_most_1 rfl (lv_at hl 1 rfl) ?_
  refine W.lcmp hx hb dX8_most_2 ?_
  refine lv_if_le (tgt := 10) hx hb dX8_most_3 (by decide) (fun c_3 => ?_) (fun c_3 => ?_)
  · skip
    refine lv_lload_n hx hb dX8_most_10 rfl (lv_at hl 1 rfl) ?_
    refine W.widen (k := 0) (n := 0) (Nat.le_of_ble_eq_true rfl) (Nat.le_of_ble_eq_true rfl) ?_
    exact W.lret (v := p1) hx hb hr (fun t ht hW => ⟨⟨p1, (), rfl, (mz_mx_2 c_3), ht⟩, hS.F ht⟩) hS.2.2 dX8_most_11
  · skip
    refine lv_lload_n hx hb dX8_most_6 rfl (lv_at hl 0 rfl) ?_
    refine lv_goto (tgt := 11) hx hb dX8_most_7 (by decide) ?_
    refine W.widen (k := 0) (n := 0) (Nat.le_of_ble_eq_true rfl) (Nat.le_of_ble_eq_true rfl) ?_
    exact W.lret (v := p0) hx hb hr (fun t ht hW => ⟨⟨p0, (), rfl, (mz_mx_1 c_3), ht⟩, hS.F ht⟩) hS.2.2 dX8_most_11
set_option maxHeartbeats 1000000 in
set_option maxRecDepth 100000 in
theorem mz_q_lesser (l : Launch) (dC : Nat → ClassId) (dI : Nat → Nat → Nat) (cI cJ cZ : ClassId) (p0 : Int64) (p1 : Int64) (Hq : Heap)  : Met l yX8_lesser wsX8_lesser ({ frames := 0, cells := 0, slots := 0, locals := 0 }) (va_Pc [.long p0, .long p1] (fun U => U.heap = Hq ∧ va_P (dC, dI) vwCl [] Hq ∧ va_K (dC, dI) vwCl [(cI, FieldType.int), (cJ, FieldType.long), (cZ, FieldType.boolean)] U ∧ mz_N U)) (va_Ql (fun (r : Int64) (_ : Unit) => r = (mz_mn p0 p1)) (fun _ t => t.heap = Hq) (fun _ : Nat => False)) 0 0 (fun _ : Nat => False) := by
  refine Met.ofW (cc := cX8_lesser) (maxL := 4) (ret := (some .long)) (by decide) rfl ?_
  intro p e s m args below meth c s₁ B hml hv
  obtain ⟨rfl, hH, hP, hK, hN⟩ := hv
  subst hH
  have hx := B.exec
  have hb := B.bytes
  have hr := B.returns
  have hts := atoms_spec (ws := wsX8_lesser) B.pre
  have hown : s.vm.findClass RX8 = some m.cls := findClass_of_methodNamed B.named
  have hlocks := B.notSynchronized
  have hS : va_S (fun _ : Nat => False) s.heap s.heap [] := va_S.rf
  have hl := lv_entry ([.long p0, .long p1]) (n := 4) (Nat.le_of_ble_eq_true rfl)
  rw [lg_entry_eq]
  generalize (lg_sl ([.long p0, .long p1]) ++ List.replicate (4 - (lg_sl ([.long p0, .long p1])).length) Slot.unset).toArray = ls at hl ⊢
  have hl : lv_has ls 4 [(0, .long p0), (2, .long p1)] := hl
  refine lv_lload_n hx hb dX8_lesser_0 rfl (lv_at hl 0 rfl) ?_
  refine lv_lload_n hx hb dX8_lesser_1 rfl (lv_at hl 1 rfl) ?_
  refine W.lcmp hx hb dX8_lesser_2 ?_
  refine lv_if_ge (tgt := 10) hx hb dX8_lesser_3 (by decide) (fun c_3 => ?_) (fun c_3 => ?_)
  · skip
    refine lv_lload_n hx hb dX8_lesser_10 rfl (lv_at hl 1 rfl) ?_
    refine W.widen (k := 0) (n := 0) (Nat.le_of_ble_eq_true rfl) (Nat.le_of_ble_eq_true rfl) ?_
    exact W.lret (v := p1) hx hb hr (fun t ht hW => ⟨⟨p1, (), rfl, (mz_mn_2 c_3), ht⟩, hS.F ht⟩) hS.2.2 dX8_lesser_11
  · skip
    refine lv_lload_n hx hb dX8_lesser_6 rfl (lv_at hl 0 rfl) ?_
    refine lv_goto (tgt := 11) hx hb dX8_lesser_7 (by decide) ?_
    refine W.widen (k := 0) (n := 0) (Nat.le_of_ble_eq_true rfl) (Nat.le_of_ble_eq_true rfl) ?_
    exact W.lret (v := p0) hx hb hr (fun t ht hW => ⟨⟨p0, (), rfl, (mz_mn_1 c_3), ht⟩, hS.F ht⟩) hS.2.2 dX8_lesser_11
set_option maxHeartbeats 1000000 in
set_option maxRecDepth 100000 in
theorem mz_q_x_areTwo (l : Launch) (dC : Nat → ClassId) (dI : Nat → Nat → Nat) (cI cJ cZ : ClassId) (mx : Nat) (dr : Nat) (th : Nat) (bk : Nat) (wt : Nat) (tt : Nat) (lh : Nat) (la : Nat) (sh : Int32) (ab : Int64) (be : Int64) (dp : Nat) (dc : Nat) (n : Nat) (i : Nat) (j : Nat) (Hq : Heap) (hn : n ≤ 8) (hi : i < n) (hj : j < n) (hne : ¬ i = j) : Met l yX7_areTwo wsX7_areTwo ({ frames := 1, cells := 0, slots := 0, locals := 21 }) (va_Pc [.ref mx, .int (nI i), .int (nI j)] (fun U => U.heap = Hq ∧ va_P (dC, dI) vwCl [(mx, .inr (7, [.ref dr, .ref th, .ref bk, .ref wt, .ref tt, .ref lh, .ref la, .int sh, .long ab, .long be])), (dr, .inr (2, [.ref dp, .ref dc, .int (nI n)]))] Hq ∧ va_K (dC, dI) vwCl [(cI, FieldType.int), (cJ, FieldType.long), (cZ, FieldType.boolean)] U ∧ mz_N U)) (va_Qi (fun (r : Int32) (_ : Unit) => r = 1) (fun _ t => t.heap = Hq) (fun _ : Nat => False)) 0 0 (fun _ : Nat => False) := by
  refine Met.ofW (cc := cX7_areTwo) (maxL := 3) (ret := (some .boolean)) (by decide) rfl ?_
  intro p e s m args below meth c s₁ B hml hv
  obtain ⟨rfl, hH, hP, hK, hN⟩ := hv
  subst hH
  have hx := B.exec
  have hb := B.bytes
  have hr := B.returns
  have hts := atoms_spec (ws := wsX7_areTwo) B.pre
  have hown : s.vm.findClass RX7 = some m.cls := findClass_of_methodNamed B.named
  have hlocks := B.notSynchronized
  have hS : va_S (fun _ : Nat => False) s.heap s.heap [] := va_S.rf
  have hiX7 : ∀ w ∈ u_ws RX7 TX7 10, w ∈ wsX7_areTwo := by decide +kernel
  have hl := lv_entry ([.ref mx, .int (nI i), .int (nI j)]) (n := 3) (Nat.le_of_ble_eq_true rfl)
  rw [lg_entry_eq]
  generalize (lg_sl ([.ref mx, .int (nI i), .int (nI j)]) ++ List.replicate (3 - (lg_sl ([.ref mx, .int (nI i), .int (nI j)])).length) Slot.unset).toArray = ls at hl ⊢
  have hl : lv_has ls 3 [(0, .ref mx), (1, .int (nI i)), (2, .int (nI j))] := hl
  refine lv_aload_n hx hb dX7_areTwo_0 rfl (lv_at hl 0 rfl) ?_
  refine va_get (D := (dC, dI)) (ci := 7) (v := .ref dr) (C := RX7) (T := TX7) (N := 10) hx hb hts hiX7 hown hK hP 0 rfl rfl 0 (by decide) (hts (.fieldLink RX7 12 "MadeItSo" "drawing" "LMadeItSo$Drawing;") (by decide +kernel)) (fun _ h9 => h9) rfl dX7_areTwo_1 ?_
  refine lv_iload_n hx hb dX7_areTwo_4 rfl (lv_at hl 1 rfl) ?_
  have hPc := hP.sub (ws' := [(dr, .inr (2, [.ref dp, .ref dc, .int (nI n)]))]) [1] rfl
  refine va_calli (va_runV (As := [.int (nI i)]) (rest := []) ⟨hx, hb, hml, hown, hts⟩ (mz_d_has_in l dC dI cI cJ cZ dr dp dc n i s.heap (by first | assumption | omega) (by first | assumption | omega)) (cwV 1 hts gX7_areTwo_X2_has rfl rfl rfl (by decide +kernel) ⟨Nat.le_of_ble_eq_true rfl, Nat.le_of_ble_eq_true rfl⟩) ⟨fun a U g mk q => mz_blP q, va_recv hK hPc (ci := 2) (q0 := 0) rfl rfl, fun U hU hW => ⟨rfl, hU, hPc, va_K.moved hW.alike hK, mz_nw hW hN⟩⟩ rfl rfl hl.1 rfl (lv_room (Nat.le_of_ble_eq_true rfl)) dX7_areTwo_5 ⟨Nat.le_of_ble_eq_true rfl, Nat.le_of_ble_eq_true rfl⟩) hS (fun q _ h => h.elim) (fun q h => h.elim) (fun r_5 u t H1 locs ht hvm hw_5 hB hz1 hk1 hS => ?_)
  have hE : s.heap = H1 := hB.symm.trans ht
  subst hE
  obtain rfl : r_5 = 1 := hw_5
  refine lv_if_eq (tgt := 31) hx hb dX7_areTwo_8 (by decide) (fun c_8 => absurd c_8 (by decide +kernel)) (fun _ => ?_)
  refine lv_aload_n hx hb dX7_areTwo_11 rfl (lv_at hl 0 rfl) ?_
  refine va_get (D := (dC, dI)) (ci := 7) (v := .ref dr) (C := RX7) (T := TX7) (N := 10) hx hb hts hiX7 hown hK hP 0 rfl rfl 0 (by decide) (hts (.fieldLink RX7 12 "MadeItSo" "drawing" "LMadeItSo$Drawing;") (by decide +kernel)) (fun _ h9 => h9) rfl dX7_areTwo_12 ?_
  refine lv_iload_n hx hb dX7_areTwo_15 rfl (lv_at hl 2 rfl) ?_
  have hPc := hP.sub (ws' := [(dr, .inr (2, [.ref dp, .ref dc, .int (nI n)]))]) [1] rfl
  refine va_calli (va_runV (As := [.int (nI j)]) (rest := []) ⟨hx, hb, hml, hown, hts⟩ (mz_d_has_in l dC dI cI cJ cZ dr dp dc n j s.heap (by first | assumption | omega) (by first | assumption | omega)) (cwV 1 hts gX7_areTwo_X2_has rfl rfl rfl (by decide +kernel) ⟨Nat.le_of_ble_eq_true rfl, Nat.le_of_ble_eq_true rfl⟩) ⟨fun a U g mk q => mz_blP q, va_recv hK hPc (ci := 2) (q0 := 0) rfl rfl, fun U hU hW => ⟨rfl, hU, hPc, va_K.moved hW.alike hK, mz_nw hW hN⟩⟩ rfl rfl hl.1 rfl (lv_room (Nat.le_of_ble_eq_true rfl)) dX7_areTwo_16 ⟨Nat.le_of_ble_eq_true rfl, Nat.le_of_ble_eq_true rfl⟩) hS (fun q _ h => h.elim) (fun q h => h.elim) (fun r_16 u t H1 locs ht hvm hw_16 hB hz1 hk1 hS => ?_)
  have hE : s.heap = H1 := hB.symm.trans ht
  subst hE
  obtain rfl : r_16 = 1 := hw_16
  refine lv_if_eq (tgt := 31) hx hb dX7_areTwo_19 (by decide) (fun c_19 => absurd c_19 (by decide +kernel)) (fun _ => ?_)
  refine lv_iload_n hx hb dX7_areTwo_22 rfl (lv_at hl 1 rfl) ?_
  refine lv_iload_n hx hb dX7_areTwo_23 rfl (lv_at hl 2 rfl) ?_
  refine lv_icmp_eq (tgt := 31) hx hb dX7_areTwo_24 (by decide) (fun c_24 => absurd c_24 (fun h => hne ((nI_eq (by omega) (by omega)).mp h))) (fun _ => ?_)
  refine lv_iconst (v := 1) hx hb dX7_areTwo_27 (by decide +kernel) ?_
  refine lv_goto (tgt := 32) hx hb dX7_areTwo_28 (by decide) ?_
  refine W.widen (k := 0) (n := 0) (Nat.le_of_ble_eq_true rfl) (Nat.le_of_ble_eq_true rfl) ?_
  exact W.zret (v := 1) hx hb hr (mz_nz (by decide +kernel)) (fun t ht hW => ⟨⟨1, (), rfl, rfl, ht⟩, hS.F ht⟩) hS.2.2 dX7_areTwo_32
set_option maxHeartbeats 1000000 in
set_option maxRecDepth 100000 in
theorem mz_q_x_leastOfBoth (l : Launch) (dC : Nat → ClassId) (dI : Nat → Nat → Nat) (cI cJ cZ : ClassId) (mx : Nat) (dr : Nat) (th : Nat) (bk : Nat) (wt : Nat) (tt : Nat) (lh : Nat) (la : Nat) (sh : Int32) (ab : Int64) (be : Int64) (wo : Nat) (E : Nat) (fw : Nat → Int64) (j : Nat) (p1 : Int64) (p2 : Int64) (Hq : Heap) (hEe : E < 256) : Met l yX7_leastOfBoth wsX7_leastOfBoth ({ frames := 3, cells := 0, slots := 0, locals := 68 }) (va_Pc [.ref mx, .int (nI j), .long p1, .long p2] (fun U => U.heap = Hq ∧ va_P (dC, dI) vwCl [(mx, .inr (7, [.ref dr, .ref th, .ref bk, .ref wt, .ref tt, .ref lh, .ref la, .int sh, .long ab, .long be])), (wt, .inr (6, [.ref wo, .int (nI E)])), (wo, .inl (cJ, 256, .inr (.inl fw)))] Hq ∧ va_K (dC, dI) vwCl [(cI, FieldType.int), (cJ, FieldType.long), (cZ, FieldType.boolean)] U ∧ mz_N U)) (va_Ql (fun (r : Int64) (_ : Unit) => r = (mz_mx (mz_mx 0 (p1 - p2)) (mz_mx ((mz_hv (nI E) fw (1 <<< ((nI j) &&& 31)) (1 <<< ((nI j) &&& 31))) - p2) (p1 - (mz_hv (nI E) fw (1 <<< ((nI j) &&& 31)) (1 <<< ((nI j) &&& 31))))))) (fun _ t => t.heap = Hq) (fun _ : Nat => False)) 0 0 (fun _ : Nat => False) := by
  refine Met.ofW (cc := cX7_leastOfBoth) (maxL := 10) (ret := (some .long)) (by decide) rfl ?_
  intro p e s m args below meth c s₁ B hml hv
  obtain ⟨rfl, hH, hP, hK, hN⟩ := hv
  subst hH
  have hx := B.exec
  have hb := B.bytes
  have hr := B.returns
  have hts := atoms_spec (ws := wsX7_leastOfBoth) B.pre
  have hown : s.vm.findClass RX7 = some m.cls := findClass_of_methodNamed B.named
  have hlocks := B.notSynchronized
  have hS : va_S (fun _ : Nat => False) s.heap s.heap [] := va_S.rf
  have hiX7 : ∀ w ∈ u_ws RX7 TX7 10, w ∈ wsX7_leastOfBoth := by decide +kernel
  have hl := lv_entry ([.ref mx, .int (nI j), .long p1, .long p2]) (n := 10) (Nat.le_of_ble_eq_true rfl)
  rw [lg_entry_eq]
  generalize (lg_sl ([.ref mx, .int (nI j), .long p1, .long p2]) ++ List.replicate (10 - (lg_sl ([.ref mx, .int (nI j), .long p1, .long p2])).length) Slot.unset).toArray = ls at hl ⊢
  have hl : lv_has ls 10 [(0, .ref mx), (1, .int (nI j)), (2, .long p1), (4, .long p2)] := hl
  refine lv_aload_n hx hb dX7_leastOfBoth_0 rfl (lv_at hl 0 rfl) ?_
  refine va_get (D := (dC, dI)) (ci := 7) (v := .ref wt) (C := RX7) (T := TX7) (N := 10) hx hb hts hiX7 hown hK hP 0 rfl rfl 3 (by decide) (hts (.fieldLink RX7 29 "MadeItSo" "weights" "LMadeItSo$Weights;") (by decide +kernel)) (fun _ h9 => h9) rfl dX7_leastOfBoth_1 ?_
  refine lv_iload_n hx hb dX7_leastOfBoth_4 rfl (lv_at hl 1 rfl) ?_
  have hPc := hP.sub (ws' := []) [] rfl
  refine va_calli (va_runS (As := [.int (nI j)]) (rest := [.ref wt]) ⟨hx, hb, hml, hown, hts⟩ (mz_g_bit l dC dI cI cJ cZ (nI j) s.heap ) (va_cwS 1 hts gX7_leastOfBoth_X7_bit rfl rfl rfl (by decide +kernel) ⟨Nat.le_of_ble_eq_true rfl, Nat.le_of_ble_eq_true rfl⟩) ⟨fun a U g mk q => mz_blP q, fun U hU hW => ⟨rfl, hU, hPc, va_K.moved hW.alike hK, mz_nw hW hN⟩⟩ rfl rfl hl.1 rfl (lv_room (Nat.le_of_ble_eq_true rfl)) dX7_leastOfBoth_5 ⟨Nat.le_of_ble_eq_true rfl, Nat.le_of_ble_eq_true rfl⟩) hS (fun q _ h => h.elim) (fun q h => h.elim) (fun r_5 u t H1 locs ht hvm hw_5 hB hz1 hk1 hS => ?_)
  have hE : s.heap = H1 := hB.symm.trans ht
  subst hE
  obtain rfl : r_5 = (1 <<< ((nI j) &&& 31)) := hw_5
  refine lv_iload_n hx hb dX7_leastOfBoth_8 rfl (lv_at hl 1 rfl) ?_
  have hPc := hP.sub (ws' := []) [] rfl
  refine va_calli (va_runS (As := [.int (nI j)]) (rest := [.int (1 <<< ((nI j) &&& 31)), .ref wt]) ⟨hx, hb, hml, hown, hts⟩ (mz_g_bit l dC dI cI cJ cZ (nI j) s.heap ) (va_cwS 1 hts gX7_leastOfBoth_X7_bit rfl rfl rfl (by decide +kernel) ⟨Nat.le_of_ble_eq_true rfl, Nat.le_of_ble_eq_true rfl⟩) ⟨fun a U g mk q => mz_blP q, fun U hU hW => ⟨rfl, hU, hPc, va_K.moved hW.alike hK, mz_nw hW hN⟩⟩ rfl rfl hl.1 rfl (lv_room (Nat.le_of_ble_eq_true rfl)) dX7_leastOfBoth_9 ⟨Nat.le_of_ble_eq_true rfl, Nat.le_of_ble_eq_true rfl⟩) hS (fun q _ h => h.elim) (fun q h => h.elim) (fun r_9 u t H1 locs ht hvm hw_9 hB hz1 hk1 hS => ?_)
  have hE : s.heap = H1 := hB.symm.trans ht
  subst hE
  obtain rfl : r_9 = (1 <<< ((nI j) &&& 31)) := hw_9
  have hPc := hP.sub (ws' := [(wt, .inr (6, [.ref wo, .int (nI E)])), (wo, .inl (cJ, 256, .inr (.inl fw)))]) [1, 2] rfl
  refine va_calll (va_runV (As := [.int (1 <<< ((nI j) &&& 31)), .int (1 <<< ((nI j) &&& 31))]) (rest := []) ⟨hx, hb, hml, hown, hts⟩ (mz_k_having l dC dI cI cJ cZ wt wo E fw (1 <<< ((nI j) &&& 31)) (1 <<< ((nI j) &&& 31)) s.heap (by first | assumption | omega)) (cwV 2 hts gX7_leastOfBoth_X6_having rfl rfl rfl (by decide +kernel) ⟨Nat.le_of_ble_eq_true rfl, Nat.le_of_ble_eq_true rfl⟩) ⟨fun a U g mk q => mz_blP q, va_recv hK hPc (ci := 6) (q0 := 0) rfl rfl, fun U hU hW => ⟨rfl, hU, hPc, va_K.moved hW.alike hK, mz_nw hW hN⟩⟩ rfl rfl hl.1 rfl (lv_room (Nat.le_of_ble_eq_true rfl)) dX7_leastOfBoth_12 ⟨Nat.le_of_ble_eq_true rfl, Nat.le_of_ble_eq_true rfl⟩) hS (fun q _ h => h.elim) (fun q h => h.elim) (fun r_12 u t H1 locs ht hvm hw_12 hB hz1 hk1 hS => ?_)
  have hE : s.heap = H1 := hB.symm.trans ht
  subst hE
  obtain rfl : r_12 = (mz_hv (nI E) fw (1 <<< ((nI j) &&& 31)) (1 <<< ((nI j) &&& 31))) := hw_12
  refine lv_lstore (lv' := [(6, .long (mz_hv (nI E) fw (1 <<< ((nI j) &&& 31)) (1 <<< ((nI j) &&& 31)))), (0, .ref mx), (1, .int (nI j)), (2, .long p1), (4, .long p2)]) hx hb dX7_leastOfBoth_15 hl (by decide) rfl (fun ls hl => ?_)
  refine lv_lconst (v := 0) hx hb dX7_leastOfBoth_17 (by decide +kernel) ?_
  refine lv_lload_n hx hb dX7_leastOfBoth_18 rfl (lv_at hl 3 rfl) ?_
  refine lv_lload hx hb dX7_leastOfBoth_19 (lv_at hl 4 rfl) ?_
  refine lv_lsub hx hb dX7_leastOfBoth_21 ?_
  refine lv_topl (fun v_21 ev_21 => ?_)
  refine va_mmax_long hx hb (by rw [hml]; exact hl.1.symm) hown (hts (.methodLink RX7 199 Lib.MathLoose.max_long.x) (by decide +kernel)) (hts (.static Lib.MathLoose.max_long.x) (by decide +kernel)) (hts (.initialized "java/lang/Math") (by decide +kernel)) (hts (.code Lib.MathLoose.max_long.x Lib.MathLoose.max_long.code 4 (some .long)) (by decide +kernel)) (Nat.le_of_ble_eq_true rfl) (Nat.le_of_ble_eq_true rfl) (Nat.le_of_ble_eq_true rfl) (Nat.le_of_ble_eq_true rfl) dX7_leastOfBoth_22 ?_
  refine lv_topl (fun v_22 ev_22 => ?_)
  refine lv_lstore (lv' := [(8, .long v_22), (6, .long (mz_hv (nI E) fw (1 <<< ((nI j) &&& 31)) (1 <<< ((nI j) &&& 31)))), (0, .ref mx), (1, .int (nI j)), (2, .long p1), (4, .long p2)]) hx hb dX7_leastOfBoth_25 hl (by decide) rfl (fun ls hl => ?_)
  refine lv_lload hx hb dX7_leastOfBoth_27 (lv_at hl 0 rfl) ?_
  refine lv_lload hx hb dX7_leastOfBoth_29 (lv_at hl 1 rfl) ?_
  refine lv_lload hx hb dX7_leastOfBoth_31 (lv_at hl 5 rfl) ?_
  refine lv_lsub hx hb dX7_leastOfBoth_33 ?_
  refine lv_topl (fun v_33 ev_33 => ?_)
  refine lv_lload_n hx hb dX7_leastOfBoth_34 rfl (lv_at hl 4 rfl) ?_
  refine lv_lload hx hb dX7_leastOfBoth_35 (lv_at hl 1 rfl) ?_
  refine lv_lsub hx hb dX7_leastOfBoth_37 ?_
  refine lv_topl (fun v_37 ev_37 => ?_)
  refine va_mmax_long hx hb (by rw [hml]; exact hl.1.symm) hown (hts (.methodLink RX7 199 Lib.MathLoose.max_long.x) (by decide +kernel)) (hts (.static Lib.MathLoose.max_long.x) (by decide +kernel)) (hts (.initialized "java/lang/Math") (by decide +kernel)) (hts (.code Lib.MathLoose.max_long.x Lib.MathLoose.max_long.code 4 (some .long)) (by decide +kernel)) (Nat.le_of_ble_eq_true rfl) (Nat.le_of_ble_eq_true rfl) (Nat.le_of_ble_eq_true rfl) (Nat.le_of_ble_eq_true rfl) dX7_leastOfBoth_38 ?_
  refine lv_topl (fun v_38 ev_38 => ?_)
  refine va_mmax_long hx hb (by rw [hml]; exact hl.1.symm) hown (hts (.methodLink RX7 199 Lib.MathLoose.max_long.x) (by decide +kernel)) (hts (.static Lib.MathLoose.max_long.x) (by decide +kernel)) (hts (.initialized "java/lang/Math") (by decide +kernel)) (hts (.code Lib.MathLoose.max_long.x Lib.MathLoose.max_long.code 4 (some .long)) (by decide +kernel)) (Nat.le_of_ble_eq_true rfl) (Nat.le_of_ble_eq_true rfl) (Nat.le_of_ble_eq_true rfl) (Nat.le_of_ble_eq_true rfl) dX7_leastOfBoth_41 ?_
  refine lv_topl (fun v_41 ev_41 => ?_)
  refine W.widen (k := 0) (n := 0) (Nat.le_of_ble_eq_true rfl) (Nat.le_of_ble_eq_true rfl) ?_
  exact W.lret (v := v_41) hx hb hr (fun t ht hW => ⟨⟨v_41, (), rfl, (by rw [ev_41, ev_38, ev_37, ev_33, ev_22, ev_21]; rfl), ht⟩, hS.F ht⟩) hS.2.2 dX7_leastOfBoth_44
set_option maxHeartbeats 1000000 in
set_option maxRecDepth 100000 in
theorem mz_q_x_mostOfBoth (l : Launch) (dC : Nat → ClassId) (dI : Nat → Nat → Nat) (cI cJ cZ : ClassId) (mx : Nat) (dr : Nat) (th : Nat) (bk : Nat) (wt : Nat) (tt : Nat) (lh : Nat) (la : Nat) (sh : Int32) (ab : Int64) (be : Int64) (wo : Nat) (E : Nat) (fw : Nat → Int64) (i : Nat) (j : Nat) (p2 : Int64) (p3 : Int64) (Hq : Heap) (hEe : E < 256) : Met l yX7_mostOfBoth wsX7_mostOfBoth ({ frames := 3, cells := 0, slots := 0, locals := 68 }) (va_Pc [.ref mx, .int (nI i), .int (nI j), .long p2, .long p3] (fun U => U.heap = Hq ∧ va_P (dC, dI) vwCl [(mx, .inr (7, [.ref dr, .ref th, .ref bk, .ref wt, .ref tt, .ref lh, .ref la, .int sh, .long ab, .long be])), (wt, .inr (6, [.ref wo, .int (nI E)])), (wo, .inl (cJ, 256, .inr (.inl fw)))] Hq ∧ va_K (dC, dI) vwCl [(cI, FieldType.int), (cJ, FieldType.long), (cZ, FieldType.boolean)] U ∧ mz_N U)) (va_Ql (fun (r : Int64) (_ : Unit) => r = (mz_mn (mz_mn p2 ((mz_hv (nI E) fw 0 0) - p3)) (mz_mn ((mz_hv (nI E) fw ((1 <<< ((nI i) &&& 31)) ||| (1 <<< ((nI j) &&& 31))) ((1 <<< ((nI i) &&& 31)) ||| (1 <<< ((nI j) &&& 31)))) + (mz_hv (nI E) fw ((1 <<< ((nI i) &&& 31)) ||| (1 <<< ((nI j) &&& 31))) 0)) ((p2 - p3) + ((mz_hv (nI E) fw ((1 <<< ((nI i) &&& 31)) ||| (1 <<< ((nI j) &&& 31))) (1 <<< ((nI i) &&& 31))) + (mz_hv (nI E) fw ((1 <<< ((nI i) &&& 31)) ||| (1 <<< ((nI j) &&& 31))) (1 <<< ((nI j) &&& 31)))))))) (fun _ t => t.heap = Hq) (fun _ : Nat => False)) 0 0 (fun _ : Nat => False) := by
  refine Met.ofW (cc := cX7_mostOfBoth) (maxL := 14) (ret := (some .long)) (by decide) rfl ?_
  intro p e s m args below meth c s₁ B hml hv
  obtain ⟨rfl, hH, hP, hK, hN⟩ := hv
  subst hH
  have hx := B.exec
  have hb := B.bytes
  have hr := B.returns
  have hts := atoms_spec (ws := wsX7_mostOfBoth) B.pre
  have hown : s.vm.findClass RX7 = some m.cls := findClass_of_methodNamed B.named
  have hlocks := B.notSynchronized
  have hS : va_S (fun _ : Nat => False) s.heap s.heap [] := va_S.rf
  have hiX7 : ∀ w ∈ u_ws RX7 TX7 10, w ∈ wsX7_mostOfBoth := by decide +kernel
  have hl := lv_entry ([.ref mx, .int (nI i), .int (nI j), .long p2, .long p3]) (n := 14) (Nat.le_of_ble_eq_true rfl)
  rw [lg_entry_eq]
  generalize (lg_sl ([.ref mx, .int (nI i), .int (nI j), .long p2, .long p3]) ++ List.replicate (14 - (lg_sl ([.ref mx, .int (nI i), .int (nI j), .long p2, .long p3])).length) Slot.unset).toArray = ls at hl ⊢
  have hl : lv_has ls 14 [(0, .ref mx), (1, .int (nI i)), (2, .int (nI j)), (3, .long p2), (5, .long p3)] := hl
  refine lv_iload_n hx hb dX7_mostOfBoth_0 rfl (lv_at hl 1 rfl) ?_
  have hPc := hP.sub (ws' := []) [] rfl
  refine va_calli (va_runS (As := [.int (nI i)]) (rest := []) ⟨hx, hb, hml, hown, hts⟩ (mz_g_bit l dC dI cI cJ cZ (nI i) s.heap ) (va_cwS 1 hts gX7_mostOfBoth_X7_bit rfl rfl rfl (by decide +kernel) ⟨Nat.le_of_ble_eq_true rfl, Nat.le_of_ble_eq_true rfl⟩) ⟨fun a U g mk q => mz_blP q, fun U hU hW => ⟨rfl, hU, hPc, va_K.moved hW.alike hK, mz_nw hW hN⟩⟩ rfl rfl hl.1 rfl (lv_room (Nat.le_of_ble_eq_true rfl)) dX7_mostOfBoth_1 ⟨Nat.le_of_ble_eq_true rfl, Nat.le_of_ble_eq_true rfl⟩) hS (fun q _ h => h.elim) (fun q h => h.elim) (fun r_1 u t H1 locs ht hvm hw_1 hB hz1 hk1 hS => ?_)
  have hE : s.heap = H1 := hB.symm.trans ht
  subst hE
  obtain rfl : r_1 = (1 <<< ((nI i) &&& 31)) := hw_1
  refine lv_iload_n hx hb dX7_mostOfBoth_4 rfl (lv_at hl 2 rfl) ?_
  have hPc := hP.sub (ws' := []) [] rfl
  refine va_calli (va_runS (As := [.int (nI j)]) (rest := [.int (1 <<< ((nI i) &&& 31))]) ⟨hx, hb, hml, hown, hts⟩ (mz_g_bit l dC dI cI cJ cZ (nI j) s.heap ) (va_cwS 1 hts gX7_mostOfBoth_X7_bit rfl rfl rfl (by decide +kernel) ⟨Nat.le_of_ble_eq_true rfl, Nat.le_of_ble_eq_true rfl⟩) ⟨fun a U g mk q => mz_blP q, fun U hU hW => ⟨rfl, hU, hPc, va_K.moved hW.alike hK, mz_nw hW hN⟩⟩ rfl rfl hl.1 rfl (lv_room (Nat.le_of_ble_eq_true rfl)) dX7_mostOfBoth_5 ⟨Nat.le_of_ble_eq_true rfl, Nat.le_of_ble_eq_true rfl⟩) hS (fun q _ h => h.elim) (fun q h => h.elim) (fun r_5 u t H1 locs ht hvm hw_5 hB hz1 hk1 hS => ?_)
  have hE : s.heap = H1 := hB.symm.trans ht
  subst hE
  obtain rfl : r_5 = (1 <<< ((nI j) &&& 31)) := hw_5
  refine lv_ior hx hb dX7_mostOfBoth_8 ?_
  refine lv_istore (lv' := [(7, .int ((1 <<< ((nI i) &&& 31)) ||| (1 <<< ((nI j) &&& 31)))), (0, .ref mx), (1, .int (nI i)), (2, .int (nI j)), (3, .long p2), (5, .long p3)]) hx hb dX7_mostOfBoth_9 hl (by decide) rfl (fun ls hl => ?_)
  refine lv_aload_n hx hb dX7_mostOfBoth_11 rfl (lv_at hl 1 rfl) ?_
  refine va_get (D := (dC, dI)) (ci := 7) (v := .ref wt) (C := RX7) (T := TX7) (N := 10) hx hb hts hiX7 hown hK hP 0 rfl rfl 3 (by decide) (hts (.fieldLink RX7 29 "MadeItSo" "weights" "LMadeItSo$Weights;") (by decide +kernel)) (fun _ h9 => h9) rfl dX7_mostOfBoth_12 ?_
  refine lv_iload hx hb dX7_mostOfBoth_15 (lv_at hl 0 rfl) ?_
  refine lv_iload hx hb dX7_mostOfBoth_17 (lv_at hl 0 rfl) ?_
  have hPc := hP.sub (ws' := [(wt, .inr (6, [.ref wo, .int (nI E)])), (wo, .inl (cJ, 256, .inr (.inl fw)))]) [1, 2] rfl
  refine va_calll (va_runV (As := [.int ((1 <<< ((nI i) &&& 31)) ||| (1 <<< ((nI j) &&& 31))), .int ((1 <<< ((nI i) &&& 31)) ||| (1 <<< ((nI j) &&& 31)))]) (rest := []) ⟨hx, hb, hml, hown, hts⟩ (mz_k_having l dC dI cI cJ cZ wt wo E fw ((1 <<< ((nI i) &&& 31)) ||| (1 <<< ((nI j) &&& 31))) ((1 <<< ((nI i) &&& 31)) ||| (1 <<< ((nI j) &&& 31))) s.heap (by first | assumption | omega)) (cwV 2 hts gX7_mostOfBoth_X6_having rfl rfl rfl (by decide +kernel) ⟨Nat.le_of_ble_eq_true rfl, Nat.le_of_ble_eq_true rfl⟩) ⟨fun a U g mk q => mz_blP q, va_recv hK hPc (ci := 6) (q0 := 0) rfl rfl, fun U hU hW => ⟨rfl, hU, hPc, va_K.moved hW.alike hK, mz_nw hW hN⟩⟩ rfl rfl hl.1 rfl (lv_room (Nat.le_of_ble_eq_true rfl)) dX7_mostOfBoth_19 ⟨Nat.le_of_ble_eq_true rfl, Nat.le_of_ble_eq_true rfl⟩) hS (fun q _ h => h.elim) (fun q h => h.elim) (fun r_19 u t H1 locs ht hvm hw_19 hB hz1 hk1 hS => ?_)
  have hE : s.heap = H1 := hB.symm.trans ht
  subst hE
  obtain rfl : r_19 = (mz_hv (nI E) fw ((1 <<< ((nI i) &&& 31)) ||| (1 <<< ((nI j) &&& 31))) ((1 <<< ((nI i) &&& 31)) ||| (1 <<< ((nI j) &&& 31)))) := hw_19
  refine lv_aload_n hx hb dX7_mostOfBoth_22 rfl (lv_at hl 1 rfl) ?_
  refine va_get (D := (dC, dI)) (ci := 7) (v := .ref wt) (C := RX7) (T := TX7) (N := 10) hx hb hts hiX7 hown hK hP 0 rfl rfl 3 (by decide) (hts (.fieldLink RX7 29 "MadeItSo" "weights" "LMadeItSo$Weights;") (by decide +kernel)) (fun _ h9 => h9) rfl dX7_mostOfBoth_23 ?_
  refine lv_iload hx hb dX7_mostOfBoth_26 (lv_at hl 0 rfl) ?_
  refine lv_iconst (v := 0) hx hb dX7_mostOfBoth_28 (by decide +kernel) ?_
  have hPc := hP.sub (ws' := [(wt, .inr (6, [.ref wo, .int (nI E)])), (wo, .inl (cJ, 256, .inr (.inl fw)))]) [1, 2] rfl
  refine va_calll (va_runV (As := [.int ((1 <<< ((nI i) &&& 31)) ||| (1 <<< ((nI j) &&& 31))), .int 0]) (rest := [.long (mz_hv (nI E) fw ((1 <<< ((nI i) &&& 31)) ||| (1 <<< ((nI j) &&& 31))) ((1 <<< ((nI i) &&& 31)) ||| (1 <<< ((nI j) &&& 31))))]) ⟨hx, hb, hml, hown, hts⟩ (mz_k_having l dC dI cI cJ cZ wt wo E fw ((1 <<< ((nI i) &&& 31)) ||| (1 <<< ((nI j) &&& 31))) 0 s.heap (by first | assumption | omega)) (cwV 2 hts gX7_mostOfBoth_X6_having rfl rfl rfl (by decide +kernel) ⟨Nat.le_of_ble_eq_true rfl, Nat.le_of_ble_eq_true rfl⟩) ⟨fun a U g mk q => mz_blP q, va_recv hK hPc (ci := 6) (q0 := 0) rfl rfl, fun U hU hW => ⟨rfl, hU, hPc, va_K.moved hW.alike hK, mz_nw hW hN⟩⟩ rfl rfl hl.1 rfl (lv_room (Nat.le_of_ble_eq_true rfl)) dX7_mostOfBoth_29 ⟨Nat.le_of_ble_eq_true rfl, Nat.le_of_ble_eq_true rfl⟩) hS (fun q _ h => h.elim) (fun q h => h.elim) (fun r_29 u t H1 locs ht hvm hw_29 hB hz1 hk1 hS => ?_)
  have hE : s.heap = H1 := hB.symm.trans ht
  subst hE
  obtain rfl : r_29 = (mz_hv (nI E) fw ((1 <<< ((nI i) &&& 31)) ||| (1 <<< ((nI j) &&& 31))) (0 : Int32)) := hw_29
  refine lv_ladd hx hb dX7_mostOfBoth_32 ?_
  refine lv_topl (fun v_32 ev_32 => ?_)
  refine lv_lstore (lv' := [(8, .long v_32), (7, .int ((1 <<< ((nI i) &&& 31)) ||| (1 <<< ((nI j) &&& 31)))), (0, .ref mx), (1, .int (nI i)), (2, .int (nI j)), (3, .long p2), (5, .long p3)]) hx hb dX7_mostOfBoth_33 hl (by decide) rfl (fun ls hl => ?_)
  refine lv_aload_n hx hb dX7_mostOfBoth_35 rfl (lv_at hl 2 rfl) ?_
  refine va_get (D := (dC, dI)) (ci := 7) (v := .ref wt) (C := RX7) (T := TX7) (N := 10) hx hb hts hiX7 hown hK hP 0 rfl rfl 3 (by decide) (hts (.fieldLink RX7 29 "MadeItSo" "weights" "LMadeItSo$Weights;") (by decide +kernel)) (fun _ h9 => h9) rfl dX7_mostOfBoth_36 ?_
  refine lv_iload hx hb dX7_mostOfBoth_39 (lv_at hl 1 rfl) ?_
  refine lv_iload_n hx hb dX7_mostOfBoth_41 rfl (lv_at hl 3 rfl) ?_
  have hPc := hP.sub (ws' := []) [] rfl
  refine va_calli (va_runS (As := [.int (nI i)]) (rest := [.int ((1 <<< ((nI i) &&& 31)) ||| (1 <<< ((nI j) &&& 31))), .ref wt]) ⟨hx, hb, hml, hown, hts⟩ (mz_g_bit l dC dI cI cJ cZ (nI i) s.heap ) (va_cwS 1 hts gX7_mostOfBoth_X7_bit rfl rfl rfl (by decide +kernel) ⟨Nat.le_of_ble_eq_true rfl, Nat.le_of_ble_eq_true rfl⟩) ⟨fun a U g mk q => mz_blP q, fun U hU hW => ⟨rfl, hU, hPc, va_K.moved hW.alike hK, mz_nw hW hN⟩⟩ rfl rfl hl.1 rfl (lv_room (Nat.le_of_ble_eq_true rfl)) dX7_mostOfBoth_42 ⟨Nat.le_of_ble_eq_true rfl, Nat.le_of_ble_eq_true rfl⟩) hS (fun q _ h => h.elim) (fun q h => h.elim) (fun r_42 u t H1 locs ht hvm hw_42 hB hz1 hk1 hS => ?_)
  have hE : s.heap = H1 := hB.symm.trans ht
  subst hE
  obtain rfl : r_42 = (1 <<< ((nI i) &&& 31)) := hw_42
  have hPc := hP.sub (ws' := [(wt, .inr (6, [.ref wo, .int (nI E)])), (wo, .inl (cJ, 256, .inr (.inl fw)))]) [1, 2] rfl
  refine va_calll (va_runV (As := [.int ((1 <<< ((nI i) &&& 31)) ||| (1 <<< ((nI j) &&& 31))), .int (1 <<< ((nI i) &&& 31))]) (rest := []) ⟨hx, hb, hml, hown, hts⟩ (mz_k_having l dC dI cI cJ cZ wt wo E fw ((1 <<< ((nI i) &&& 31)) ||| (1 <<< ((nI j) &&& 31))) (1 <<< ((nI i) &&& 31)) s.heap (by first | assumption | omega)) (cwV 2 hts gX7_mostOfBoth_X6_having rfl rfl rfl (by decide +kernel) ⟨Nat.le_of_ble_eq_true rfl, Nat.le_of_ble_eq_true rfl⟩) ⟨fun a U g mk q => mz_blP q, va_recv hK hPc (ci := 6) (q0 := 0) rfl rfl, fun U hU hW => ⟨rfl, hU, hPc, va_K.moved hW.alike hK, mz_nw hW hN⟩⟩ rfl rfl hl.1 rfl (lv_room (Nat.le_of_ble_eq_true rfl)) dX7_mostOfBoth_45 ⟨Nat.le_of_ble_eq_true rfl, Nat.le_of_ble_eq_true rfl⟩) hS (fun q _ h => h.elim) (fun q h => h.elim) (fun r_45 u t H1 locs ht hvm hw_45 hB hz1 hk1 hS => ?_)
  have hE : s.heap = H1 := hB.symm.trans ht
  subst hE
  obtain rfl : r_45 = (mz_hv (nI E) fw ((1 <<< ((nI i) &&& 31)) ||| (1 <<< ((nI j) &&& 31))) (1 <<< ((nI i) &&& 31))) := hw_45
  refine lv_aload_n hx hb dX7_mostOfBoth_48 rfl (lv_at hl 2 rfl) ?_
  refine va_get (D := (dC, dI)) (ci := 7) (v := .ref wt) (C := RX7) (T := TX7) (N := 10) hx hb hts hiX7 hown hK hP 0 rfl rfl 3 (by decide) (hts (.fieldLink RX7 29 "MadeItSo" "weights" "LMadeItSo$Weights;") (by decide +kernel)) (fun _ h9 => h9) rfl dX7_mostOfBoth_49 ?_
  refine lv_iload hx hb dX7_mostOfBoth_52 (lv_at hl 1 rfl) ?_
  refine lv_iload_n hx hb dX7_mostOfBoth_54 rfl (lv_at hl 4 rfl) ?_
  have hPc := hP.sub (ws' := []) [] rfl
  refine va_calli (va_runS (As := [.int (nI j)]) (rest := [.int ((1 <<< ((nI i) &&& 31)) ||| (1 <<< ((nI j) &&& 31))), .ref wt, .long (mz_hv (nI E) fw ((1 <<< ((nI i) &&& 31)) ||| (1 <<< ((nI j) &&& 31))) (1 <<< ((nI i) &&& 31)))]) ⟨hx, hb, hml, hown, hts⟩ (mz_g_bit l dC dI cI cJ cZ (nI j) s.heap ) (va_cwS 1 hts gX7_mostOfBoth_X7_bit rfl rfl rfl (by decide +kernel) ⟨Nat.le_of_ble_eq_true rfl, Nat.le_of_ble_eq_true rfl⟩) ⟨fun a U g mk q => mz_blP q, fun U hU hW => ⟨rfl, hU, hPc, va_K.moved hW.alike hK, mz_nw hW hN⟩⟩ rfl rfl hl.1 rfl (lv_room (Nat.le_of_ble_eq_true rfl)) dX7_mostOfBoth_55 ⟨Nat.le_of_ble_eq_true rfl, Nat.le_of_ble_eq_true rfl⟩) hS (fun q _ h => h.elim) (fun q h => h.elim) (fun r_55 u t H1 locs ht hvm hw_55 hB hz1 hk1 hS => ?_)
  have hE : s.heap = H1 := hB.symm.trans ht
  subst hE
  obtain rfl : r_55 = (1 <<< ((nI j) &&& 31)) := hw_55
  have hPc := hP.sub (ws' := [(wt, .inr (6, [.ref wo, .int (nI E)])), (wo, .inl (cJ, 256, .inr (.inl fw)))]) [1, 2] rfl
  refine va_calll (va_runV (As := [.int ((1 <<< ((nI i) &&& 31)) ||| (1 <<< ((nI j) &&& 31))), .int (1 <<< ((nI j) &&& 31))]) (rest := [.long (mz_hv (nI E) fw ((1 <<< ((nI i) &&& 31)) ||| (1 <<< ((nI j) &&& 31))) (1 <<< ((nI i) &&& 31)))]) ⟨hx, hb, hml, hown, hts⟩ (mz_k_having l dC dI cI cJ cZ wt wo E fw ((1 <<< ((nI i) &&& 31)) ||| (1 <<< ((nI j) &&& 31))) (1 <<< ((nI j) &&& 31)) s.heap (by first | assumption | omega)) (cwV 2 hts gX7_mostOfBoth_X6_having rfl rfl rfl (by decide +kernel) ⟨Nat.le_of_ble_eq_true rfl, Nat.le_of_ble_eq_true rfl⟩) ⟨fun a U g mk q => mz_blP q, va_recv hK hPc (ci := 6) (q0 := 0) rfl rfl, fun U hU hW => ⟨rfl, hU, hPc, va_K.moved hW.alike hK, mz_nw hW hN⟩⟩ rfl rfl hl.1 rfl (lv_room (Nat.le_of_ble_eq_true rfl)) dX7_mostOfBoth_58 ⟨Nat.le_of_ble_eq_true rfl, Nat.le_of_ble_eq_true rfl⟩) hS (fun q _ h => h.elim) (fun q h => h.elim) (fun r_58 u t H1 locs ht hvm hw_58 hB hz1 hk1 hS => ?_)
  have hE : s.heap = H1 := hB.symm.trans ht
  subst hE
  obtain rfl : r_58 = (mz_hv (nI E) fw ((1 <<< ((nI i) &&& 31)) ||| (1 <<< ((nI j) &&& 31))) (1 <<< ((nI j) &&& 31))) := hw_58
  refine lv_ladd hx hb dX7_mostOfBoth_61 ?_
  refine lv_topl (fun v_61 ev_61 => ?_)
  refine lv_lstore (lv' := [(10, .long v_61), (8, .long v_32), (7, .int ((1 <<< ((nI i) &&& 31)) ||| (1 <<< ((nI j) &&& 31)))), (0, .ref mx), (1, .int (nI i)), (2, .int (nI j)), (3, .long p2), (5, .long p3)]) hx hb dX7_mostOfBoth_62 hl (by decide) rfl (fun ls hl => ?_)
  refine lv_lload_n hx hb dX7_mostOfBoth_64 rfl (lv_at hl 6 rfl) ?_
  refine lv_aload_n hx hb dX7_mostOfBoth_65 rfl (lv_at hl 3 rfl) ?_
  refine va_get (D := (dC, dI)) (ci := 7) (v := .ref wt) (C := RX7) (T := TX7) (N := 10) hx hb hts hiX7 hown hK hP 0 rfl rfl 3 (by decide) (hts (.fieldLink RX7 29 "MadeItSo" "weights" "LMadeItSo$Weights;") (by decide +kernel)) (fun _ h9 => h9) rfl dX7_mostOfBoth_66 ?_
  refine lv_iconst (v := 0) hx hb dX7_mostOfBoth_69 (by decide +kernel) ?_
  refine lv_iconst (v := 0) hx hb dX7_mostOfBoth_70 (by decide +kernel) ?_
  have hPc := hP.sub (ws' := [(wt, .inr (6, [.ref wo, .int (nI E)])), (wo, .inl (cJ, 256, .inr (.inl fw)))]) [1, 2] rfl
  refine va_calll (va_runV (As := [.int 0, .int 0]) (rest := [.long p2]) ⟨hx, hb, hml, hown, hts⟩ (mz_k_having l dC dI cI cJ cZ wt wo E fw 0 0 s.heap (by first | assumption | omega)) (cwV 2 hts gX7_mostOfBoth_X6_having rfl rfl rfl (by decide +kernel) ⟨Nat.le_of_ble_eq_true rfl, Nat.le_of_ble_eq_true rfl⟩) ⟨fun a U g mk q => mz_blP q, va_recv hK hPc (ci := 6) (q0 := 0) rfl rfl, fun U hU hW => ⟨rfl, hU, hPc, va_K.moved hW.alike hK, mz_nw hW hN⟩⟩ rfl rfl hl.1 rfl (lv_room (Nat.le_of_ble_eq_true rfl)) dX7_mostOfBoth_71 ⟨Nat.le_of_ble_eq_true rfl, Nat.le_of_ble_eq_true rfl⟩) hS (fun q _ h => h.elim) (fun q h => h.elim) (fun r_71 u t H1 locs ht hvm hw_71 hB hz1 hk1 hS => ?_)
  have hE : s.heap = H1 := hB.symm.trans ht
  subst hE
  obtain rfl : r_71 = (mz_hv (nI E) fw (0 : Int32) (0 : Int32)) := hw_71
  refine lv_lload hx hb dX7_mostOfBoth_74 (lv_at hl 7 rfl) ?_
  refine lv_lsub hx hb dX7_mostOfBoth_76 ?_
  refine lv_topl (fun v_76 ev_76 => ?_)
  refine va_mmin_long hx hb (by rw [hml]; exact hl.1.symm) hown (hts (.methodLink RX7 236 Lib.MathLoose.min_long.x) (by decide +kernel)) (hts (.static Lib.MathLoose.min_long.x) (by decide +kernel)) (hts (.initialized "java/lang/Math") (by decide +kernel)) (hts (.code Lib.MathLoose.min_long.x Lib.MathLoose.min_long.code 4 (some .long)) (by decide +kernel)) (Nat.le_of_ble_eq_true rfl) (Nat.le_of_ble_eq_true rfl) (Nat.le_of_ble_eq_true rfl) (Nat.le_of_ble_eq_true rfl) dX7_mostOfBoth_77 ?_
  refine lv_topl (fun v_77 ev_77 => ?_)
  refine lv_lstore (lv' := [(12, .long v_77), (10, .long v_61), (8, .long v_32), (7, .int ((1 <<< ((nI i) &&& 31)) ||| (1 <<< ((nI j) &&& 31)))), (0, .ref mx), (1, .int (nI i)), (2, .int (nI j)), (3, .long p2), (5, .long p3)]) hx hb dX7_mostOfBoth_80 hl (by decide) rfl (fun ls hl => ?_)
  refine lv_lload hx hb dX7_mostOfBoth_82 (lv_at hl 0 rfl) ?_
  refine lv_lload hx hb dX7_mostOfBoth_84 (lv_at hl 2 rfl) ?_
  refine lv_lload_n hx hb dX7_mostOfBoth_86 rfl (lv_at hl 7 rfl) ?_
  refine lv_lload hx hb dX7_mostOfBoth_87 (lv_at hl 8 rfl) ?_
  refine lv_lsub hx hb dX7_mostOfBoth_89 ?_
  refine lv_topl (fun v_89 ev_89 => ?_)
  refine lv_lload hx hb dX7_mostOfBoth_90 (lv_at hl 1 rfl) ?_
  refine lv_ladd hx hb dX7_mostOfBoth_92 ?_
  refine lv_topl (fun v_92 ev_92 => ?_)
  refine va_mmin_long hx hb (by rw [hml]; exact hl.1.symm) hown (hts (.methodLink RX7 236 Lib.MathLoose.min_long.x) (by decide +kernel)) (hts (.static Lib.MathLoose.min_long.x) (by decide +kernel)) (hts (.initialized "java/lang/Math") (by decide +kernel)) (hts (.code Lib.MathLoose.min_long.x Lib.MathLoose.min_long.code 4 (some .long)) (by decide +kernel)) (Nat.le_of_ble_eq_true rfl) (Nat.le_of_ble_eq_true rfl) (Nat.le_of_ble_eq_true rfl) (Nat.le_of_ble_eq_true rfl) dX7_mostOfBoth_93 ?_
  refine lv_topl (fun v_93 ev_93 => ?_)
  refine va_mmin_long hx hb (by rw [hml]; exact hl.1.symm) hown (hts (.methodLink RX7 236 Lib.MathLoose.min_long.x) (by decide +kernel)) (hts (.static Lib.MathLoose.min_long.x) (by decide +kernel)) (hts (.initialized "java/lang/Math") (by decide +kernel)) (hts (.code Lib.MathLoose.min_long.x Lib.MathLoose.min_long.code 4 (some .long)) (by decide +kernel)) (Nat.le_of_ble_eq_true rfl) (Nat.le_of_ble_eq_true rfl) (Nat.le_of_ble_eq_true rfl) (Nat.le_of_ble_eq_true rfl) dX7_mostOfBoth_96 ?_
  refine lv_topl (fun v_96 ev_96 => ?_)
  refine W.widen (k := 0) (n := 0) (Nat.le_of_ble_eq_true rfl) (Nat.le_of_ble_eq_true rfl) ?_
  exact W.lret (v := v_96) hx hb hr (fun t ht hW => ⟨⟨v_96, (), rfl, (by rw [ev_96, ev_93, ev_92, ev_89, ev_77, ev_76, ev_61, ev_32]; rfl), ht⟩, hS.F ht⟩) hS.2.2 dX7_mostOfBoth_99
set_option maxHeartbeats 1000000 in
set_option maxRecDepth 100000 in
theorem mz_q_x_mostOfNeed (l : Launch) (dC : Nat → ClassId) (dI : Nat → Nat → Nat) (cI cJ cZ : ClassId) (mx : Nat) (dr : Nat) (th : Nat) (bk : Nat) (wt : Nat) (tt : Nat) (lh : Nat) (la : Nat) (sh : Int32) (ab : Int64) (be : Int64) (wo : Nat) (E : Nat) (fw : Nat → Int64) (i : Nat) (j : Nat) (p2 : Int64) (Hq : Heap) (hEe : E < 256) : Met l yX7_mostOfNeed wsX7_mostOfNeed ({ frames := 3, cells := 0, slots := 0, locals := 68 }) (va_Pc [.ref mx, .int (nI i), .int (nI j), .long p2] (fun U => U.heap = Hq ∧ va_P (dC, dI) vwCl [(mx, .inr (7, [.ref dr, .ref th, .ref bk, .ref wt, .ref tt, .ref lh, .ref la, .int sh, .long ab, .long be])), (wt, .inr (6, [.ref wo, .int (nI E)])), (wo, .inl (cJ, 256, .inr (.inl fw)))] Hq ∧ va_K (dC, dI) vwCl [(cI, FieldType.int), (cJ, FieldType.long), (cZ, FieldType.boolean)] U ∧ mz_N U)) (va_Ql (fun (r : Int64) (_ : Unit) => r = (mz_mn (mz_hv (nI E) fw ((1 <<< ((nI i) &&& 31)) ||| (1 <<< ((nI j) &&& 31))) ((1 <<< ((nI i) &&& 31)) ||| (1 <<< ((nI j) &&& 31)))) (((mz_hv (nI E) fw 0 0) - p2) - (mz_hv (nI E) fw ((1 <<< ((nI i) &&& 31)) ||| (1 <<< ((nI j) &&& 31))) 0)))) (fun _ t => t.heap = Hq) (fun _ : Nat => False)) 0 0 (fun _ : Nat => False) := by
  refine Met.ofW (cc := cX7_mostOfNeed) (maxL := 8) (ret := (some .long)) (by decide) rfl ?_
  intro p e s m args below meth c s₁ B hml hv
  obtain ⟨rfl, hH, hP, hK, hN⟩ := hv
  subst hH
  have hx := B.exec
  have hb := B.bytes
  have hr := B.returns
  have hts := atoms_spec (ws := wsX7_mostOfNeed) B.pre
  have hown : s.vm.findClass RX7 = some m.cls := findClass_of_methodNamed B.named
  have hlocks := B.notSynchronized
  have hS : va_S (fun _ : Nat => False) s.heap s.heap [] := va_S.rf
  have hiX7 : ∀ w ∈ u_ws RX7 TX7 10, w ∈ wsX7_mostOfNeed := by decide +kernel
  have hl := lv_entry ([.ref mx, .int (nI i), .int (nI j), .long p2]) (n := 8) (Nat.le_of_ble_eq_true rfl)
  rw [lg_entry_eq]
  generalize (lg_sl ([.ref mx, .int (nI i), .int (nI j), .long p2]) ++ List.replicate (8 - (lg_sl ([.ref mx, .int (nI i), .int (nI j), .long p2])).length) Slot.unset).toArray = ls at hl ⊢
  have hl : lv_has ls 8 [(0, .ref mx), (1, .int (nI i)), (2, .int (nI j)), (3, .long p2)] := hl
  refine lv_iload_n hx hb dX7_mostOfNeed_0 rfl (lv_at hl 1 rfl) ?_
  have hPc := hP.sub (ws' := []) [] rfl
  refine va_calli (va_runS (As := [.int (nI i)]) (rest := []) ⟨hx, hb, hml, hown, hts⟩ (mz_g_bit l dC dI cI cJ cZ (nI i) s.heap ) (va_cwS 1 hts gX7_mostOfNeed_X7_bit rfl rfl rfl (by decide +kernel) ⟨Nat.le_of_ble_eq_true rfl, Nat.le_of_ble_eq_true rfl⟩) ⟨fun a U g mk q => mz_blP q, fun U hU hW => ⟨rfl, hU, hPc, va_K.moved hW.alike hK, mz_nw hW hN⟩⟩ rfl rfl hl.1 rfl (lv_room (Nat.le_of_ble_eq_true rfl)) dX7_mostOfNeed_1 ⟨Nat.le_of_ble_eq_true rfl, Nat.le_of_ble_eq_true rfl⟩) hS (fun q _ h => h.elim) (fun q h => h.elim) (fun r_1 u t H1 locs ht hvm hw_1 hB hz1 hk1 hS => ?_)
  have hE : s.heap = H1 := hB.symm.trans ht
  subst hE
  obtain rfl : r_1 = (1 <<< ((nI i) &&& 31)) := hw_1
  refine lv_iload_n hx hb dX7_mostOfNeed_4 rfl (lv_at hl 2 rfl) ?_
  have hPc := hP.sub (ws' := []) [] rfl
  refine va_calli (va_runS (As := [.int (nI j)]) (rest := [.int (1 <<< ((nI i) &&& 31))]) ⟨hx, hb, hml, hown, hts⟩ (mz_g_bit l dC dI cI cJ cZ (nI j) s.heap ) (va_cwS 1 hts gX7_mostOfNeed_X7_bit rfl rfl rfl (by decide +kernel) ⟨Nat.le_of_ble_eq_true rfl, Nat.le_of_ble_eq_true rfl⟩) ⟨fun a U g mk q => mz_blP q, fun U hU hW => ⟨rfl, hU, hPc, va_K.moved hW.alike hK, mz_nw hW hN⟩⟩ rfl rfl hl.1 rfl (lv_room (Nat.le_of_ble_eq_true rfl)) dX7_mostOfNeed_5 ⟨Nat.le_of_ble_eq_true rfl, Nat.le_of_ble_eq_true rfl⟩) hS (fun q _ h => h.elim) (fun q h => h.elim) (fun r_5 u t H1 locs ht hvm hw_5 hB hz1 hk1 hS => ?_)
  have hE : s.heap = H1 := hB.symm.trans ht
  subst hE
  obtain rfl : r_5 = (1 <<< ((nI j) &&& 31)) := hw_5
  refine lv_ior hx hb dX7_mostOfNeed_8 ?_
  refine lv_istore (lv' := [(5, .int ((1 <<< ((nI i) &&& 31)) ||| (1 <<< ((nI j) &&& 31)))), (0, .ref mx), (1, .int (nI i)), (2, .int (nI j)), (3, .long p2)]) hx hb dX7_mostOfNeed_9 hl (by decide) rfl (fun ls hl => ?_)
  refine lv_aload_n hx hb dX7_mostOfNeed_11 rfl (lv_at hl 1 rfl) ?_
  refine va_get (D := (dC, dI)) (ci := 7) (v := .ref wt) (C := RX7) (T := TX7) (N := 10) hx hb hts hiX7 hown hK hP 0 rfl rfl 3 (by decide) (hts (.fieldLink RX7 29 "MadeItSo" "weights" "LMadeItSo$Weights;") (by decide +kernel)) (fun _ h9 => h9) rfl dX7_mostOfNeed_12 ?_
  refine lv_iconst (v := 0) hx hb dX7_mostOfNeed_15 (by decide +kernel) ?_
  refine lv_iconst (v := 0) hx hb dX7_mostOfNeed_16 (by decide +kernel) ?_
  have hPc := hP.sub (ws' := [(wt, .inr (6, [.ref wo, .int (nI E)])), (wo, .inl (cJ, 256, .inr (.inl fw)))]) [1, 2] rfl
  refine va_calll (va_runV (As := [.int 0, .int 0]) (rest := []) ⟨hx, hb, hml, hown, hts⟩ (mz_k_having l dC dI cI cJ cZ wt wo E fw 0 0 s.heap (by first | assumption | omega)) (cwV 2 hts gX7_mostOfNeed_X6_having rfl rfl rfl (by decide +kernel) ⟨Nat.le_of_ble_eq_true rfl, Nat.le_of_ble_eq_true rfl⟩) ⟨fun a U g mk q => mz_blP q, va_recv hK hPc (ci := 6) (q0 := 0) rfl rfl, fun U hU hW => ⟨rfl, hU, hPc, va_K.moved hW.alike hK, mz_nw hW hN⟩⟩ rfl rfl hl.1 rfl (lv_room (Nat.le_of_ble_eq_true rfl)) dX7_mostOfNeed_17 ⟨Nat.le_of_ble_eq_true rfl, Nat.le_of_ble_eq_true rfl⟩) hS (fun q _ h => h.elim) (fun q h => h.elim) (fun r_17 u t H1 locs ht hvm hw_17 hB hz1 hk1 hS => ?_)
  have hE : s.heap = H1 := hB.symm.trans ht
  subst hE
  obtain rfl : r_17 = (mz_hv (nI E) fw (0 : Int32) (0 : Int32)) := hw_17
  refine lv_lload_n hx hb dX7_mostOfNeed_20 rfl (lv_at hl 4 rfl) ?_
  refine lv_lsub hx hb dX7_mostOfNeed_21 ?_
  refine lv_topl (fun v_21 ev_21 => ?_)
  refine lv_aload_n hx hb dX7_mostOfNeed_22 rfl (lv_at hl 1 rfl) ?_
  refine va_get (D := (dC, dI)) (ci := 7) (v := .ref wt) (C := RX7) (T := TX7) (N := 10) hx hb hts hiX7 hown hK hP 0 rfl rfl 3 (by decide) (hts (.fieldLink RX7 29 "MadeItSo" "weights" "LMadeItSo$Weights;") (by decide +kernel)) (fun _ h9 => h9) rfl dX7_mostOfNeed_23 ?_
  refine lv_iload hx hb dX7_mostOfNeed_26 (lv_at hl 0 rfl) ?_
  refine lv_iconst (v := 0) hx hb dX7_mostOfNeed_28 (by decide +kernel) ?_
  have hPc := hP.sub (ws' := [(wt, .inr (6, [.ref wo, .int (nI E)])), (wo, .inl (cJ, 256, .inr (.inl fw)))]) [1, 2] rfl
  refine va_calll (va_runV (As := [.int ((1 <<< ((nI i) &&& 31)) ||| (1 <<< ((nI j) &&& 31))), .int 0]) (rest := [.long v_21]) ⟨hx, hb, hml, hown, hts⟩ (mz_k_having l dC dI cI cJ cZ wt wo E fw ((1 <<< ((nI i) &&& 31)) ||| (1 <<< ((nI j) &&& 31))) 0 s.heap (by first | assumption | omega)) (cwV 2 hts gX7_mostOfNeed_X6_having rfl rfl rfl (by decide +kernel) ⟨Nat.le_of_ble_eq_true rfl, Nat.le_of_ble_eq_true rfl⟩) ⟨fun a U g mk q => mz_blP q, va_recv hK hPc (ci := 6) (q0 := 0) rfl rfl, fun U hU hW => ⟨rfl, hU, hPc, va_K.moved hW.alike hK, mz_nw hW hN⟩⟩ rfl rfl hl.1 rfl (lv_room (Nat.le_of_ble_eq_true rfl)) dX7_mostOfNeed_29 ⟨Nat.le_of_ble_eq_true rfl, Nat.le_of_ble_eq_true rfl⟩) hS (fun q _ h => h.elim) (fun q h => h.elim) (fun r_29 u t H1 locs ht hvm hw_29 hB hz1 hk1 hS => ?_)
  have hE : s.heap = H1 := hB.symm.trans ht
  subst hE
  obtain rfl : r_29 = (mz_hv (nI E) fw ((1 <<< ((nI i) &&& 31)) ||| (1 <<< ((nI j) &&& 31))) (0 : Int32)) := hw_29
  refine lv_lsub hx hb dX7_mostOfNeed_32 ?_
  refine lv_topl (fun v_32 ev_32 => ?_)
  refine lv_lstore (lv' := [(6, .long v_32), (5, .int ((1 <<< ((nI i) &&& 31)) ||| (1 <<< ((nI j) &&& 31)))), (0, .ref mx), (1, .int (nI i)), (2, .int (nI j)), (3, .long p2)]) hx hb dX7_mostOfNeed_33 hl (by decide) rfl (fun ls hl => ?_)
  refine lv_aload_n hx hb dX7_mostOfNeed_35 rfl (lv_at hl 2 rfl) ?_
  refine va_get (D := (dC, dI)) (ci := 7) (v := .ref wt) (C := RX7) (T := TX7) (N := 10) hx hb hts hiX7 hown hK hP 0 rfl rfl 3 (by decide) (hts (.fieldLink RX7 29 "MadeItSo" "weights" "LMadeItSo$Weights;") (by decide +kernel)) (fun _ h9 => h9) rfl dX7_mostOfNeed_36 ?_
  refine lv_iload hx hb dX7_mostOfNeed_39 (lv_at hl 1 rfl) ?_
  refine lv_iload hx hb dX7_mostOfNeed_41 (lv_at hl 1 rfl) ?_
  have hPc := hP.sub (ws' := [(wt, .inr (6, [.ref wo, .int (nI E)])), (wo, .inl (cJ, 256, .inr (.inl fw)))]) [1, 2] rfl
  refine va_calll (va_runV (As := [.int ((1 <<< ((nI i) &&& 31)) ||| (1 <<< ((nI j) &&& 31))), .int ((1 <<< ((nI i) &&& 31)) ||| (1 <<< ((nI j) &&& 31)))]) (rest := []) ⟨hx, hb, hml, hown, hts⟩ (mz_k_having l dC dI cI cJ cZ wt wo E fw ((1 <<< ((nI i) &&& 31)) ||| (1 <<< ((nI j) &&& 31))) ((1 <<< ((nI i) &&& 31)) ||| (1 <<< ((nI j) &&& 31))) s.heap (by first | assumption | omega)) (cwV 2 hts gX7_mostOfNeed_X6_having rfl rfl rfl (by decide +kernel) ⟨Nat.le_of_ble_eq_true rfl, Nat.le_of_ble_eq_true rfl⟩) ⟨fun a U g mk q => mz_blP q, va_recv hK hPc (ci := 6) (q0 := 0) rfl rfl, fun U hU hW => ⟨rfl, hU, hPc, va_K.moved hW.alike hK, mz_nw hW hN⟩⟩ rfl rfl hl.1 rfl (lv_room (Nat.le_of_ble_eq_true rfl)) dX7_mostOfNeed_43 ⟨Nat.le_of_ble_eq_true rfl, Nat.le_of_ble_eq_true rfl⟩) hS (fun q _ h => h.elim) (fun q h => h.elim) (fun r_43 u t H1 locs ht hvm hw_43 hB hz1 hk1 hS => ?_)
  have hE : s.heap = H1 := hB.symm.trans ht
  subst hE
  obtain rfl : r_43 = (mz_hv (nI E) fw ((1 <<< ((nI i) &&& 31)) ||| (1 <<< ((nI j) &&& 31))) ((1 <<< ((nI i) &&& 31)) ||| (1 <<< ((nI j) &&& 31)))) := hw_43
  refine lv_lload hx hb dX7_mostOfNeed_46 (lv_at hl 0 rfl) ?_
  refine va_mmin_long hx hb (by rw [hml]; exact hl.1.symm) hown (hts (.methodLink RX7 236 Lib.MathLoose.min_long.x) (by decide +kernel)) (hts (.static Lib.MathLoose.min_long.x) (by decide +kernel)) (hts (.initialized "java/lang/Math") (by decide +kernel)) (hts (.code Lib.MathLoose.min_long.x Lib.MathLoose.min_long.code 4 (some .long)) (by decide +kernel)) (Nat.le_of_ble_eq_true rfl) (Nat.le_of_ble_eq_true rfl) (Nat.le_of_ble_eq_true rfl) (Nat.le_of_ble_eq_true rfl) dX7_mostOfNeed_48 ?_
  refine lv_topl (fun v_48 ev_48 => ?_)
  refine W.widen (k := 0) (n := 0) (Nat.le_of_ble_eq_true rfl) (Nat.le_of_ble_eq_true rfl) ?_
  exact W.lret (v := v_48) hx hb hr (fun t ht hW => ⟨⟨v_48, (), rfl, (by rw [ev_48, ev_32, ev_21]; rfl), ht⟩, hS.F ht⟩) hS.2.2 dX7_mostOfNeed_51
set_option maxHeartbeats 1000000 in
set_option maxRecDepth 100000 in
theorem mz_q_x_otherwise (l : Launch) (dC : Nat → ClassId) (dI : Nat → Nat → Nat) (cI cJ cZ : ClassId) (mx : Nat) (dr : Nat) (th : Nat) (bk : Nat) (wt : Nat) (tt : Nat) (lh : Nat) (la : Nat) (sh : Int32) (ab : Int64) (be : Int64) (dp : Nat) (dc : Nat) (n : Nat) (fp : Nat → Int32) (bp : Nat) (fb : Nat → Int32) (wo : Nat) (ev : Int32) (fw : Nat → Int64) (i : Nat) (j : Nat) (p3 : Int32) (sz : Nat) (hn : n ≤ 8) (ha : mz_acy n fp) (hself : ∀ k, k < n → ∀ on, mz_rw (fp k) on 8 < 128) (hbo : mz_bo n fb) (hi : i < n) (hj : j < n) (hne : ¬ i = j) (hw0 : ¬ p3 < 0) (hw4 : p3 ≤ 4) : Met l yX7_otherwise wsX7_otherwise ({ frames := 4, cells := 0, slots := 0, locals := 101 }) (va_Pc [.ref mx, .int (nI i), .int (nI j), .int p3] (fun U => U.heap.size = sz ∧ va_P (dC, dI) vwCl [(mx, .inr (7, [.ref dr, .ref th, .ref bk, .ref wt, .ref tt, .ref lh, .ref la, .int sh, .long ab, .long be])), (dr, .inr (2, [.ref dp, .ref dc, .int (nI n)])), (dp, .inl (cI, 8, .inl fp)), (bk, .inr (1, [.ref bp])), (bp, .inl (cI, 1024, .inl fb)), (wt, .inr (6, [.ref wo, .int ev])), (wo, .inl (cJ, 256, .inr (.inl fw)))] U.heap ∧ va_K (dC, dI) vwCl [(cI, FieldType.int), (cJ, FieldType.long), (cZ, FieldType.boolean)] U ∧ va_D (fun _ => True) [(mx, .inr (7, [.ref dr, .ref th, .ref bk, .ref wt, .ref tt, .ref lh, .ref la, .int sh, .long ab, .long be])), (dr, .inr (2, [.ref dp, .ref dc, .int (nI n)])), (dp, .inl (cI, 8, .inl fp)), (bk, .inr (1, [.ref bp])), (bp, .inl (cI, 1024, .inl fb)), (wt, .inr (6, [.ref wo, .int ev])), (wo, .inl (cJ, 256, .inr (.inl fw)))] ∧ mz_N U)) (va_Ql (fun (r : Int64) (_ : Unit) => r = (mz_ow (mz_cs (mz_wt n fp fb (mz_so i 1)) (1 <<< ((nI j) &&& 31)) (1 <<< ((nI j) &&& 31)) n) (mz_cs (mz_wt n fp fb (mz_so i 0)) (1 <<< ((nI j) &&& 31)) (1 <<< ((nI j) &&& 31)) n) (mz_cs (mz_wt n fp fb 0) (1 <<< ((nI j) &&& 31)) (1 <<< ((nI j) &&& 31)) n) (mz_cs (mz_wt n fp fb 0) ((1 <<< ((nI i) &&& 31)) ||| (1 <<< ((nI j) &&& 31))) ((1 <<< ((nI i) &&& 31)) ||| (1 <<< ((nI j) &&& 31))) n) (mz_cs (mz_wt n fp fb 0) ((1 <<< ((nI i) &&& 31)) ||| (1 <<< ((nI j) &&& 31))) (1 <<< ((nI i) &&& 31)) n) (mz_cs (mz_wt n fp fb 0) ((1 <<< ((nI i) &&& 31)) ||| (1 <<< ((nI j) &&& 31))) (1 <<< ((nI j) &&& 31)) n) (mz_cs (mz_wt n fp fb 0) ((1 <<< ((nI i) &&& 31)) ||| (1 <<< ((nI j) &&& 31))) 0 n) (lN (100 ^ n)) p3)) (fun _ t => ∃ (gev : Int32), ∃ (gw : Nat → Int64), va_P (dC, dI) vwCl [(mx, .inr (7, [.ref dr, .ref th, .ref bk, .ref wt, .ref tt, .ref lh, .ref la, .int sh, .long ab, .long be])), (dr, .inr (2, [.ref dp, .ref dc, .int (nI n)])), (dp, .inl (cI, 8, .inl fp)), (bk, .inr (1, [.ref bp])), (bp, .inl (cI, 1024, .inl fb)), (wt, .inr (6, [.ref wo, .int gev])), (wo, .inl (cJ, 256, .inr (.inl gw)))] t.heap ∧ va_D (va_A [(mx, .inr (7, [.ref dr, .ref th, .ref bk, .ref wt, .ref tt, .ref lh, .ref la, .int sh, .long ab, .long be])), (dr, .inr (2, [.ref dp, .ref dc, .int (nI n)])), (dp, .inl (cI, 8, .inl fp)), (bk, .inr (1, [.ref bp])), (bp, .inl (cI, 1024, .inl fb)), (wt, .inr (6, [.ref wo, .int ev])), (wo, .inl (cJ, 256, .inr (.inl fw)))] sz) [(mx, .inr (7, [.ref dr, .ref th, .ref bk, .ref wt, .ref tt, .ref lh, .ref la, .int sh, .long ab, .long be])), (dr, .inr (2, [.ref dp, .ref dc, .int (nI n)])), (dp, .inl (cI, 8, .inl fp)), (bk, .inr (1, [.ref bp])), (bp, .inl (cI, 1024, .inl fb)), (wt, .inr (6, [.ref wo, .int gev])), (wo, .inl (cJ, 256, .inr (.inl gw)))]) (va_A [(mx, .inr (7, [.ref dr, .ref th, .ref bk, .ref wt, .ref tt, .ref lh, .ref la, .int sh, .long ab, .long be])), (dr, .inr (2, [.ref dp, .ref dc, .int (nI n)])), (dp, .inl (cI, 8, .inl fp)), (bk, .inr (1, [.ref bp])), (bp, .inl (cI, 1024, .inl fb)), (wt, .inr (6, [.ref wo, .int ev])), (wo, .inl (cJ, 256, .inr (.inl fw)))] sz)) 0 0 (va_A [(mx, .inr (7, [.ref dr, .ref th, .ref bk, .ref wt, .ref tt, .ref lh, .ref la, .int sh, .long ab, .long be])), (dr, .inr (2, [.ref dp, .ref dc, .int (nI n)])), (dp, .inl (cI, 8, .inl fp)), (bk, .inr (1, [.ref bp])), (bp, .inl (cI, 1024, .inl fb)), (wt, .inr (6, [.ref wo, .int ev])), (wo, .inl (cJ, 256, .inr (.inl fw)))] sz) := by
  refine Met.ofW (cc := cX7_otherwise) (maxL := 8) (ret := (some .long)) (by decide) rfl ?_
  intro p e s m args below meth c s₁ B hml hv
  obtain ⟨rfl, hsz, hP, hK, hD0, hN⟩ := hv
  subst hsz
  have hx := B.exec
  have hb := B.bytes
  have hr := B.returns
  have hts := atoms_spec (ws := wsX7_otherwise) B.pre
  have hown : s.vm.findClass RX7 = some m.cls := findClass_of_methodNamed B.named
  have hlocks := B.notSynchronized
  have hD := hD0.self (sz := s.heap.size)
  generalize hAe : va_A [(mx, .inr (7, [.ref dr, .ref th, .ref bk, .ref wt, .ref tt, .ref lh, .ref la, .int sh, .long ab, .long be])), (dr, .inr (2, [.ref dp, .ref dc, .int (nI n)])), (dp, .inl (cI, 8, .inl fp)), (bk, .inr (1, [.ref bp])), (bp, .inl (cI, 1024, .inl fb)), (wt, .inr (6, [.ref wo, .int ev])), (wo, .inl (cJ, 256, .inr (.inl fw)))] s.heap.size = A at hD ⊢
  have hA : ∀ q : Nat, s.heap.size ≤ q → A q := fun q h => by rw [← hAe]; exact Or.inr h
  have hS : va_S A s.heap s.heap [] := va_S.rf
  have hiX7 : ∀ w ∈ u_ws RX7 TX7 10, w ∈ wsX7_otherwise := by decide +kernel
  have hl := lv_entry ([.ref mx, .int (nI i), .int (nI j), .int p3]) (n := 8) (Nat.le_of_ble_eq_true rfl)
  rw [lg_entry_eq]
  generalize (lg_sl ([.ref mx, .int (nI i), .int (nI j), .int p3]) ++ List.replicate (8 - (lg_sl ([.ref mx, .int (nI i), .int (nI j), .int p3])).length) Slot.unset).toArray = ls at hl ⊢
  have hl : lv_has ls 8 [(0, .ref mx), (1, .int (nI i)), (2, .int (nI j)), (3, .int p3)] := hl
  refine lv_aload_n hx hb dX7_otherwise_0 rfl (lv_at hl 0 rfl) ?_
  refine lv_iload_n hx hb dX7_otherwise_1 rfl (lv_at hl 1 rfl) ?_
  refine lv_iload_n hx hb dX7_otherwise_2 rfl (lv_at hl 2 rfl) ?_
  have hPc := hP.sub (ws' := [(mx, .inr (7, [.ref dr, .ref th, .ref bk, .ref wt, .ref tt, .ref lh, .ref la, .int sh, .long ab, .long be])), (dr, .inr (2, [.ref dp, .ref dc, .int (nI n)]))]) [0, 1] rfl
  refine va_calli (va_runV (As := [.int (nI i), .int (nI j)]) (rest := []) ⟨hx, hb, hml, hown, hts⟩ (mz_q_x_areTwo l dC dI cI cJ cZ mx dr th bk wt tt lh la sh ab be dp dc n i j s.heap (by first | assumption | omega) (by first | assumption | omega) (by first | assumption | omega) (by first | assumption | omega)) (cwV 2 hts gX7_otherwise_X7_areTwo rfl rfl rfl (by decide +kernel) ⟨Nat.le_of_ble_eq_true rfl, Nat.le_of_ble_eq_true rfl⟩) ⟨fun a U g mk q => mz_blP q, va_recv hK hPc (ci := 7) (q0 := 0) rfl rfl, fun U hU hW => ⟨rfl, hU, hPc, va_K.moved hW.alike hK, mz_nw hW hN⟩⟩ rfl rfl hl.1 rfl (lv_room (Nat.le_of_ble_eq_true rfl)) dX7_otherwise_3 ⟨Nat.le_of_ble_eq_true rfl, Nat.le_of_ble_eq_true rfl⟩) hS (fun q _ h => h.elim) (fun q h => h.elim) (fun r_3 u t H1 locs ht hvm hw_3 hB hz1 hk1 hS => ?_)
  have hE : s.heap = H1 := hB.symm.trans ht
  subst hE
  obtain rfl : r_3 = 1 := hw_3
  refine lv_if_eq (tgt := 18) hx hb dX7_otherwise_6 (by decide) (fun c_6 => absurd c_6 (by decide +kernel)) (fun _ => ?_)
  refine lv_iload_n hx hb dX7_otherwise_9 rfl (lv_at hl 3 rfl) ?_
  refine lv_if_lt (tgt := 18) hx hb dX7_otherwise_10 (by decide) (fun c_10 => absurd c_10 hw0) (fun _ => ?_)
  refine lv_iload_n hx hb dX7_otherwise_13 rfl (lv_at hl 3 rfl) ?_
  refine lv_iconst (v := 4) hx hb dX7_otherwise_14 (by decide +kernel) ?_
  refine lv_icmp_le (tgt := 22) hx hb dX7_otherwise_15 (by decide) (fun _ => ?_) (fun c_15 => absurd hw4 c_15)
  refine lv_aload_n hx hb dX7_otherwise_22 rfl (lv_at hl 0 rfl) ?_
  refine va_get (D := (dC, dI)) (ci := 7) (v := .ref wt) (C := RX7) (T := TX7) (N := 10) hx hb hts hiX7 hown hK hP 0 rfl rfl 3 (by decide) (hts (.fieldLink RX7 29 "MadeItSo" "weights" "LMadeItSo$Weights;") (by decide +kernel)) (fun _ h9 => h9) rfl dX7_otherwise_23 ?_
  refine lv_aload_n hx hb dX7_otherwise_26 rfl (lv_at hl 0 rfl) ?_
  refine va_get (D := (dC, dI)) (ci := 7) (v := .ref dr) (C := RX7) (T := TX7) (N := 10) hx hb hts hiX7 hown hK hP 0 rfl rfl 0 (by decide) (hts (.fieldLink RX7 12 "MadeItSo" "drawing" "LMadeItSo$Drawing;") (by decide +kernel)) (fun _ h9 => h9) rfl dX7_otherwise_27 ?_
  refine lv_aload_n hx hb dX7_otherwise_30 rfl (lv_at hl 0 rfl) ?_
  refine va_get (D := (dC, dI)) (ci := 7) (v := .ref bk) (C := RX7) (T := TX7) (N := 10) hx hb hts hiX7 hown hK hP 0 rfl rfl 2 (by decide) (hts (.fieldLink RX7 22 "MadeItSo" "books" "LMadeItSo$Books;") (by decide +kernel)) (fun _ h9 => h9) rfl dX7_otherwise_31 ?_
  refine lv_iload_n hx hb dX7_otherwise_34 rfl (lv_at hl 1 rfl) ?_
  refine lv_iconst (v := 1) hx hb dX7_otherwise_35 (by decide +kernel) ?_
  have hPc := hP.sub (ws' := []) [] rfl
  refine va_calli (va_runS (As := [.int (nI i), .int 1]) (rest := [.ref bk, .ref dr, .ref wt]) ⟨hx, hb, hml, hown, hts⟩ (mz_q_settingOf l dC dI cI cJ cZ i 1 s.heap ) (va_cwS 2 hts gX7_otherwise_X7_settingOf rfl rfl rfl (by decide +kernel) ⟨Nat.le_of_ble_eq_true rfl, Nat.le_of_ble_eq_true rfl⟩) ⟨fun a U g mk q => mz_blP q, fun U hU hW => ⟨rfl, hU, hPc, va_K.moved hW.alike hK, mz_nw hW hN⟩⟩ rfl rfl hl.1 rfl (lv_room (Nat.le_of_ble_eq_true rfl)) dX7_otherwise_36 ⟨Nat.le_of_ble_eq_true rfl, Nat.le_of_ble_eq_true rfl⟩) hS (fun q _ h => h.elim) (fun q h => h.elim) (fun r_36 u t H1 locs ht hvm hw_36 hB hz1 hk1 hS => ?_)
  have hE : s.heap = H1 := hB.symm.trans ht
  subst hE
  obtain rfl : r_36 = ((1 <<< ((nI i) &&& 31)) ||| ((1 : Int32) <<< ((nI (i + 8)) &&& 31))) := hw_36
  refine mz_ti (y := (mz_so i 1)) (mz_so_x1 i (by omega)) ?_
  have hPc := hP.sub (ws' := [(wt, .inr (6, [.ref wo, .int ev])), (wo, .inl (cJ, 256, .inr (.inl fw))), (dr, .inr (2, [.ref dp, .ref dc, .int (nI n)])), (dp, .inl (cI, 8, .inl fp)), (bk, .inr (1, [.ref bp])), (bp, .inl (cI, 1024, .inl fb))]) [5, 6, 1, 2, 3, 4] rfl
  have hDc := hD.sub (ws' := [(wt, .inr (6, [.ref wo, .int ev])), (wo, .inl (cJ, 256, .inr (.inl fw))), (dr, .inr (2, [.ref dp, .ref dc, .int (nI n)])), (dp, .inl (cI, 8, .inl fp)), (bk, .inr (1, [.ref bp])), (bp, .inl (cI, 1024, .inl fb))]) [5, 6, 1, 2, 3, 4] (by decide) rfl
  have hFc := va_free (wc := [(wt, .inr (6, [.ref wo, .int ev])), (wo, .inl (cJ, 256, .inr (.inl fw))), (dr, .inr (2, [.ref dp, .ref dc, .int (nI n)])), (dp, .inl (cI, 8, .inl fp)), (bk, .inr (1, [.ref bp])), (bp, .inl (cI, 1024, .inl fb))]) hD hS hA [5, 6, 1, 2, 3, 4] rfl
  refine va_callv (va_runV (As := [.ref dr, .ref bk, .int (mz_so i 1)]) (rest := []) ⟨hx, hb, hml, hown, hts⟩ (mz_k_weigh l dC dI cI cJ cZ wt wo ev fw dr dp dc n fp bk bp fb (mz_so i 1) s.heap.size (by first | assumption | omega) (by first | assumption | omega) (by first | assumption | omega)) (cwV 3 hts gX7_otherwise_X6_weigh rfl rfl rfl (by decide +kernel) ⟨Nat.le_of_ble_eq_true rfl, Nat.le_of_ble_eq_true rfl⟩) ⟨fun a U g mk q => mz_blI q, va_recv hK hPc (ci := 6) (q0 := 0) rfl rfl, fun U hU hW => ⟨rfl, by rw [hU], by rw [hU]; exact hPc, va_K.moved hW.alike hK, hDc.weaken (fun _ _ _ _ => trivial), mz_nw hW hN⟩⟩ rfl rfl hl.1 rfl (lv_room (Nat.le_of_ble_eq_true rfl)) dX7_otherwise_39 ⟨Nat.le_of_ble_eq_true rfl, Nat.le_of_ble_eq_true rfl⟩) hS (fun q _ h => hFc q h) hFc (fun u t H1 locs ht hvm hw_39 hB hz1 hk1 hS => ?_)
  obtain ⟨gw_39, hx0_39, hP1, hD1⟩ := hB
  rw [ht] at hP1
  obtain ⟨hP, hD⟩ := va_join (wr := [(mx, .inr (7, [.ref dr, .ref th, .ref bk, .ref wt, .ref tt, .ref lh, .ref la, .int sh, .long ab, .long be]))]) (w1 := [(wt, .inr (6, [.ref wo, .int (nI ((2 ^ n - 1)))])), (wo, .inl (cJ, 256, .inr (.inl gw_39))), (dr, .inr (2, [.ref dp, .ref dc, .int (nI n)])), (dp, .inl (cI, 8, .inl fp)), (bk, .inr (1, [.ref bp])), (bp, .inl (cI, 1024, .inl fb))]) hP hD [5, 6, 1, 2, 3, 4] [0] rfl rfl (by decide) (by decide) hk1 hFc hP1 hD1
  generalize H1 = H at hP hS ⊢
  have hP : va_P (dC, dI) vwCl [(mx, .inr (7, [.ref dr, .ref th, .ref bk, .ref wt, .ref tt, .ref lh, .ref la, .int sh, .long ab, .long be])), (wt, .inr (6, [.ref wo, .int (nI ((2 ^ n - 1)))])), (wo, .inl (cJ, 256, .inr (.inl gw_39))), (dr, .inr (2, [.ref dp, .ref dc, .int (nI n)])), (dp, .inl (cI, 8, .inl fp)), (bk, .inr (1, [.ref bp])), (bp, .inl (cI, 1024, .inl fb))] H := hP
  have hD : va_D A [(mx, .inr (7, [.ref dr, .ref th, .ref bk, .ref wt, .ref tt, .ref lh, .ref la, .int sh, .long ab, .long be])), (wt, .inr (6, [.ref wo, .int (nI ((2 ^ n - 1)))])), (wo, .inl (cJ, 256, .inr (.inl gw_39))), (dr, .inr (2, [.ref dp, .ref dc, .int (nI n)])), (dp, .inl (cI, 8, .inl fp)), (bk, .inr (1, [.ref bp])), (bp, .inl (cI, 1024, .inl fb))] := hD
  refine lv_aload_n hx hb dX7_otherwise_42 rfl (lv_at hl 0 rfl) ?_
  refine va_get (D := (dC, dI)) (ci := 7) (v := .ref wt) (C := RX7) (T := TX7) (N := 10) hx hb hts hiX7 hown hK hP 0 rfl rfl 3 (by decide) (hts (.fieldLink RX7 29 "MadeItSo" "weights" "LMadeItSo$Weights;") (by decide +kernel)) (fun _ h9 => h9) rfl dX7_otherwise_43 ?_
  refine lv_iload_n hx hb dX7_otherwise_46 rfl (lv_at hl 2 rfl) ?_
  have hPc := hP.sub (ws' := []) [] rfl
  refine va_calli (va_runS (As := [.int (nI j)]) (rest := [.ref wt]) ⟨hx, hb, hml, hown, hts⟩ (mz_g_bit l dC dI cI cJ cZ (nI j) H ) (va_cwS 1 hts gX7_otherwise_X7_bit rfl rfl rfl (by decide +kernel) ⟨Nat.le_of_ble_eq_true rfl, Nat.le_of_ble_eq_true rfl⟩) ⟨fun a U g mk q => mz_blP q, fun U hU hW => ⟨rfl, hU, hPc, va_K.moved hW.alike hK, mz_nw hW hN⟩⟩ rfl rfl hl.1 rfl (lv_room (Nat.le_of_ble_eq_true rfl)) dX7_otherwise_47 ⟨Nat.le_of_ble_eq_true rfl, Nat.le_of_ble_eq_true rfl⟩) hS (fun q _ h => h.elim) (fun q h => h.elim) (fun r_47 u t H1 locs ht hvm hw_47 hB hz1 hk1 hS => ?_)
  have hE : H = H1 := hB.symm.trans ht
  subst hE
  obtain rfl : r_47 = (1 <<< ((nI j) &&& 31)) := hw_47
  refine lv_iload_n hx hb dX7_otherwise_50 rfl (lv_at hl 2 rfl) ?_
  have hPc := hP.sub (ws' := []) [] rfl
  refine va_calli (va_runS (As := [.int (nI j)]) (rest := [.int (1 <<< ((nI j) &&& 31)), .ref wt]) ⟨hx, hb, hml, hown, hts⟩ (mz_g_bit l dC dI cI cJ cZ (nI j) H ) (va_cwS 1 hts gX7_otherwise_X7_bit rfl rfl rfl (by decide +kernel) ⟨Nat.le_of_ble_eq_true rfl, Nat.le_of_ble_eq_true rfl⟩) ⟨fun a U g mk q => mz_blP q, fun U hU hW => ⟨rfl, hU, hPc, va_K.moved hW.alike hK, mz_nw hW hN⟩⟩ rfl rfl hl.1 rfl (lv_room (Nat.le_of_ble_eq_true rfl)) dX7_otherwise_51 ⟨Nat.le_of_ble_eq_true rfl, Nat.le_of_ble_eq_true rfl⟩) hS (fun q _ h => h.elim) (fun q h => h.elim) (fun r_51 u t H1 locs ht hvm hw_51 hB hz1 hk1 hS => ?_)
  have hE : H = H1 := hB.symm.trans ht
  subst hE
  obtain rfl : r_51 = (1 <<< ((nI j) &&& 31)) := hw_51
  have hPc := hP.sub (ws' := [(wt, .inr (6, [.ref wo, .int (nI ((2 ^ n - 1)))])), (wo, .inl (cJ, 256, .inr (.inl gw_39)))]) [1, 2] rfl
  refine va_calll (va_runV (As := [.int (1 <<< ((nI j) &&& 31)), .int (1 <<< ((nI j) &&& 31))]) (rest := []) ⟨hx, hb, hml, hown, hts⟩ (mz_k_having l dC dI cI cJ cZ wt wo (2 ^ n - 1) gw_39 (1 <<< ((nI j) &&& 31)) (1 <<< ((nI j) &&& 31)) H (by have := mz_2n hn; omega)) (cwV 2 hts gX7_otherwise_X6_having rfl rfl rfl (by decide +kernel) ⟨Nat.le_of_ble_eq_true rfl, Nat.le_of_ble_eq_true rfl⟩) ⟨fun a U g mk q => mz_blP q, va_recv hK hPc (ci := 6) (q0 := 0) rfl rfl, fun U hU hW => ⟨rfl, hU, hPc, va_K.moved hW.alike hK, mz_nw hW hN⟩⟩ rfl rfl hl.1 rfl (lv_room (Nat.le_of_ble_eq_true rfl)) dX7_otherwise_54 ⟨Nat.le_of_ble_eq_true rfl, Nat.le_of_ble_eq_true rfl⟩) hS (fun q _ h => h.elim) (fun q h => h.elim) (fun r_54 u t H1 locs ht hvm hw_54 hB hz1 hk1 hS => ?_)
  have hE : H = H1 := hB.symm.trans ht
  subst hE
  obtain rfl : r_54 = (mz_hv (nI (2 ^ n - 1)) gw_39 (1 <<< ((nI j) &&& 31)) (1 <<< ((nI j) &&& 31))) := hw_54
  refine mz_tl (y := (mz_cs (mz_wt n fp fb (mz_so i 1)) (1 <<< ((nI j) &&& 31)) (1 <<< ((nI j) &&& 31)) n)) (mz_hv_w2 hn (mz_hp_bi hj hn) (mz_in_s _) hx0_39) ?_
  refine lv_lstore (lv' := [(4, .long (mz_cs (mz_wt n fp fb (mz_so i 1)) (1 <<< ((nI j) &&& 31)) (1 <<< ((nI j) &&& 31)) n)), (0, .ref mx), (1, .int (nI i)), (2, .int (nI j)), (3, .int p3)]) hx hb dX7_otherwise_57 hl (by decide) rfl (fun ls hl => ?_)
  refine lv_aload_n hx hb dX7_otherwise_59 rfl (lv_at hl 1 rfl) ?_
  refine va_get (D := (dC, dI)) (ci := 7) (v := .ref wt) (C := RX7) (T := TX7) (N := 10) hx hb hts hiX7 hown hK hP 0 rfl rfl 3 (by decide) (hts (.fieldLink RX7 29 "MadeItSo" "weights" "LMadeItSo$Weights;") (by decide +kernel)) (fun _ h9 => h9) rfl dX7_otherwise_60 ?_
  refine lv_aload_n hx hb dX7_otherwise_63 rfl (lv_at hl 1 rfl) ?_
  refine va_get (D := (dC, dI)) (ci := 7) (v := .ref dr) (C := RX7) (T := TX7) (N := 10) hx hb hts hiX7 hown hK hP 0 rfl rfl 0 (by decide) (hts (.fieldLink RX7 12 "MadeItSo" "drawing" "LMadeItSo$Drawing;") (by decide +kernel)) (fun _ h9 => h9) rfl dX7_otherwise_64 ?_
  refine lv_aload_n hx hb dX7_otherwise_67 rfl (lv_at hl 1 rfl) ?_
  refine va_get (D := (dC, dI)) (ci := 7) (v := .ref bk) (C := RX7) (T := TX7) (N := 10) hx hb hts hiX7 hown hK hP 0 rfl rfl 2 (by decide) (hts (.fieldLink RX7 22 "MadeItSo" "books" "LMadeItSo$Books;") (by decide +kernel)) (fun _ h9 => h9) rfl dX7_otherwise_68 ?_
  refine lv_iload_n hx hb dX7_otherwise_71 rfl (lv_at hl 2 rfl) ?_
  refine lv_iconst (v := 0) hx hb dX7_otherwise_72 (by decide +kernel) ?_
  have hPc := hP.sub (ws' := []) [] rfl
  refine va_calli (va_runS (As := [.int (nI i), .int 0]) (rest := [.ref bk, .ref dr, .ref wt]) ⟨hx, hb, hml, hown, hts⟩ (mz_q_settingOf l dC dI cI cJ cZ i 0 H ) (va_cwS 2 hts gX7_otherwise_X7_settingOf rfl rfl rfl (by decide +kernel) ⟨Nat.le_of_ble_eq_true rfl, Nat.le_of_ble_eq_true rfl⟩) ⟨fun a U g mk q => mz_blP q, fun U hU hW => ⟨rfl, hU, hPc, va_K.moved hW.alike hK, mz_nw hW hN⟩⟩ rfl rfl hl.1 rfl (lv_room (Nat.le_of_ble_eq_true rfl)) dX7_otherwise_73 ⟨Nat.le_of_ble_eq_true rfl, Nat.le_of_ble_eq_true rfl⟩) hS (fun q _ h => h.elim) (fun q h => h.elim) (fun r_73 u t H1 locs ht hvm hw_73 hB hz1 hk1 hS => ?_)
  have hE : H = H1 := hB.symm.trans ht
  subst hE
  obtain rfl : r_73 = ((1 <<< ((nI i) &&& 31)) ||| ((0 : Int32) <<< ((nI (i + 8)) &&& 31))) := hw_73
  refine mz_ti (y := (mz_so i 0)) (mz_so_x0 i (by omega)) ?_
  have hPc := hP.sub (ws' := [(wt, .inr (6, [.ref wo, .int (nI ((2 ^ n - 1)))])), (wo, .inl (cJ, 256, .inr (.inl gw_39))), (dr, .inr (2, [.ref dp, .ref dc, .int (nI n)])), (dp, .inl (cI, 8, .inl fp)), (bk, .inr (1, [.ref bp])), (bp, .inl (cI, 1024, .inl fb))]) [1, 2, 3, 4, 5, 6] rfl
  have hDc := hD.sub (ws' := [(wt, .inr (6, [.ref wo, .int (nI ((2 ^ n - 1)))])), (wo, .inl (cJ, 256, .inr (.inl gw_39))), (dr, .inr (2, [.ref dp, .ref dc, .int (nI n)])), (dp, .inl (cI, 8, .inl fp)), (bk, .inr (1, [.ref bp])), (bp, .inl (cI, 1024, .inl fb))]) [1, 2, 3, 4, 5, 6] (by decide) rfl
  have hFc := va_free (wc := [(wt, .inr (6, [.ref wo, .int (nI ((2 ^ n - 1)))])), (wo, .inl (cJ, 256, .inr (.inl gw_39))), (dr, .inr (2, [.ref dp, .ref dc, .int (nI n)])), (dp, .inl (cI, 8, .inl fp)), (bk, .inr (1, [.ref bp])), (bp, .inl (cI, 1024, .inl fb))]) hD hS hA [1, 2, 3, 4, 5, 6] rfl
  refine va_callv (va_runV (As := [.ref dr, .ref bk, .int (mz_so i 0)]) (rest := []) ⟨hx, hb, hml, hown, hts⟩ (mz_k_weigh l dC dI cI cJ cZ wt wo (nI ((2 ^ n - 1))) gw_39 dr dp dc n fp bk bp fb (mz_so i 0) H.size (by first | assumption | omega) (by first | assumption | omega) (by first | assumption | omega)) (cwV 3 hts gX7_otherwise_X6_weigh rfl rfl rfl (by decide +kernel) ⟨Nat.le_of_ble_eq_true rfl, Nat.le_of_ble_eq_true rfl⟩) ⟨fun a U g mk q => mz_blI q, va_recv hK hPc (ci := 6) (q0 := 0) rfl rfl, fun U hU hW => ⟨rfl, by rw [hU], by rw [hU]; exact hPc, va_K.moved hW.alike hK, hDc.weaken (fun _ _ _ _ => trivial), mz_nw hW hN⟩⟩ rfl rfl hl.1 rfl (lv_room (Nat.le_of_ble_eq_true rfl)) dX7_otherwise_76 ⟨Nat.le_of_ble_eq_true rfl, Nat.le_of_ble_eq_true rfl⟩) hS (fun q _ h => hFc q h) hFc (fun u t H1 locs ht hvm hw_76 hB hz1 hk1 hS => ?_)
  obtain ⟨gw_76, hx0_76, hP1, hD1⟩ := hB
  rw [ht] at hP1
  obtain ⟨hP, hD⟩ := va_join (wr := [(mx, .inr (7, [.ref dr, .ref th, .ref bk, .ref wt, .ref tt, .ref lh, .ref la, .int sh, .long ab, .long be]))]) (w1 := [(wt, .inr (6, [.ref wo, .int (nI ((2 ^ n - 1)))])), (wo, .inl (cJ, 256, .inr (.inl gw_76))), (dr, .inr (2, [.ref dp, .ref dc, .int (nI n)])), (dp, .inl (cI, 8, .inl fp)), (bk, .inr (1, [.ref bp])), (bp, .inl (cI, 1024, .inl fb))]) hP hD [1, 2, 3, 4, 5, 6] [0] rfl rfl (by decide) (by decide) hk1 hFc hP1 hD1
  generalize H1 = H at hP hS ⊢
  have hP : va_P (dC, dI) vwCl [(mx, .inr (7, [.ref dr, .ref th, .ref bk, .ref wt, .ref tt, .ref lh, .ref la, .int sh, .long ab, .long be])), (wt, .inr (6, [.ref wo, .int (nI ((2 ^ n - 1)))])), (wo, .inl (cJ, 256, .inr (.inl gw_76))), (dr, .inr (2, [.ref dp, .ref dc, .int (nI n)])), (dp, .inl (cI, 8, .inl fp)), (bk, .inr (1, [.ref bp])), (bp, .inl (cI, 1024, .inl fb))] H := hP
  have hD : va_D A [(mx, .inr (7, [.ref dr, .ref th, .ref bk, .ref wt, .ref tt, .ref lh, .ref la, .int sh, .long ab, .long be])), (wt, .inr (6, [.ref wo, .int (nI ((2 ^ n - 1)))])), (wo, .inl (cJ, 256, .inr (.inl gw_76))), (dr, .inr (2, [.ref dp, .ref dc, .int (nI n)])), (dp, .inl (cI, 8, .inl fp)), (bk, .inr (1, [.ref bp])), (bp, .inl (cI, 1024, .inl fb))] := hD
  refine lv_aload_n hx hb dX7_otherwise_79 rfl (lv_at hl 1 rfl) ?_
  refine va_get (D := (dC, dI)) (ci := 7) (v := .ref wt) (C := RX7) (T := TX7) (N := 10) hx hb hts hiX7 hown hK hP 0 rfl rfl 3 (by decide) (hts (.fieldLink RX7 29 "MadeItSo" "weights" "LMadeItSo$Weights;") (by decide +kernel)) (fun _ h9 => h9) rfl dX7_otherwise_80 ?_
  refine lv_iload_n hx hb dX7_otherwise_83 rfl (lv_at hl 3 rfl) ?_
  have hPc := hP.sub (ws' := []) [] rfl
  refine va_calli (va_runS (As := [.int (nI j)]) (rest := [.ref wt]) ⟨hx, hb, hml, hown, hts⟩ (mz_g_bit l dC dI cI cJ cZ (nI j) H ) (va_cwS 1 hts gX7_otherwise_X7_bit rfl rfl rfl (by decide +kernel) ⟨Nat.le_of_ble_eq_true rfl, Nat.le_of_ble_eq_true rfl⟩) ⟨fun a U g mk q => mz_blP q, fun U hU hW => ⟨rfl, hU, hPc, va_K.moved hW.alike hK, mz_nw hW hN⟩⟩ rfl rfl hl.1 rfl (lv_room (Nat.le_of_ble_eq_true rfl)) dX7_otherwise_84 ⟨Nat.le_of_ble_eq_true rfl, Nat.le_of_ble_eq_true rfl⟩) hS (fun q _ h => h.elim) (fun q h => h.elim) (fun r_84 u t H1 locs ht hvm hw_84 hB hz1 hk1 hS => ?_)
  have hE : H = H1 := hB.symm.trans ht
  subst hE
  obtain rfl : r_84 = (1 <<< ((nI j) &&& 31)) := hw_84
  refine lv_iload_n hx hb dX7_otherwise_87 rfl (lv_at hl 3 rfl) ?_
  have hPc := hP.sub (ws' := []) [] rfl
  refine va_calli (va_runS (As := [.int (nI j)]) (rest := [.int (1 <<< ((nI j) &&& 31)), .ref wt]) ⟨hx, hb, hml, hown, hts⟩ (mz_g_bit l dC dI cI cJ cZ (nI j) H ) (va_cwS 1 hts gX7_otherwise_X7_bit rfl rfl rfl (by decide +kernel) ⟨Nat.le_of_ble_eq_true rfl, Nat.le_of_ble_eq_true rfl⟩) ⟨fun a U g mk q => mz_blP q, fun U hU hW => ⟨rfl, hU, hPc, va_K.moved hW.alike hK, mz_nw hW hN⟩⟩ rfl rfl hl.1 rfl (lv_room (Nat.le_of_ble_eq_true rfl)) dX7_otherwise_88 ⟨Nat.le_of_ble_eq_true rfl, Nat.le_of_ble_eq_true rfl⟩) hS (fun q _ h => h.elim) (fun q h => h.elim) (fun r_88 u t H1 locs ht hvm hw_88 hB hz1 hk1 hS => ?_)
  have hE : H = H1 := hB.symm.trans ht
  subst hE
  obtain rfl : r_88 = (1 <<< ((nI j) &&& 31)) := hw_88
  have hPc := hP.sub (ws' := [(wt, .inr (6, [.ref wo, .int (nI ((2 ^ n - 1)))])), (wo, .inl (cJ, 256, .inr (.inl gw_76)))]) [1, 2] rfl
  refine va_calll (va_runV (As := [.int (1 <<< ((nI j) &&& 31)), .int (1 <<< ((nI j) &&& 31))]) (rest := []) ⟨hx, hb, hml, hown, hts⟩ (mz_k_having l dC dI cI cJ cZ wt wo (2 ^ n - 1) gw_76 (1 <<< ((nI j) &&& 31)) (1 <<< ((nI j) &&& 31)) H (by have := mz_2n hn; omega)) (cwV 2 hts gX7_otherwise_X6_having rfl rfl rfl (by decide +kernel) ⟨Nat.le_of_ble_eq_true rfl, Nat.le_of_ble_eq_true rfl⟩) ⟨fun a U g mk q => mz_blP q, va_recv hK hPc (ci := 6) (q0 := 0) rfl rfl, fun U hU hW => ⟨rfl, hU, hPc, va_K.moved hW.alike hK, mz_nw hW hN⟩⟩ rfl rfl hl.1 rfl (lv_room (Nat.le_of_ble_eq_true rfl)) dX7_otherwise_91 ⟨Nat.le_of_ble_eq_true rfl, Nat.le_of_ble_eq_true rfl⟩) hS (fun q _ h => h.elim) (fun q h => h.elim) (fun r_91 u t H1 locs ht hvm hw_91 hB hz1 hk1 hS => ?_)
  have hE : H = H1 := hB.symm.trans ht
  subst hE
  obtain rfl : r_91 = (mz_hv (nI (2 ^ n - 1)) gw_76 (1 <<< ((nI j) &&& 31)) (1 <<< ((nI j) &&& 31))) := hw_91
  refine mz_tl (y := (mz_cs (mz_wt n fp fb (mz_so i 0)) (1 <<< ((nI j) &&& 31)) (1 <<< ((nI j) &&& 31)) n)) (mz_hv_w2 hn (mz_hp_bi hj hn) (mz_in_s _) hx0_76) ?_
  refine lv_lstore (lv' := [(6, .long (mz_cs (mz_wt n fp fb (mz_so i 0)) (1 <<< ((nI j) &&& 31)) (1 <<< ((nI j) &&& 31)) n)), (4, .long (mz_cs (mz_wt n fp fb (mz_so i 1)) (1 <<< ((nI j) &&& 31)) (1 <<< ((nI j) &&& 31)) n)), (0, .ref mx), (1, .int (nI i)), (2, .int (nI j)), (3, .int p3)]) hx hb dX7_otherwise_94 hl (by decide) rfl (fun ls hl => ?_)
  refine lv_aload_n hx hb dX7_otherwise_96 rfl (lv_at hl 2 rfl) ?_
  refine va_get (D := (dC, dI)) (ci := 7) (v := .ref wt) (C := RX7) (T := TX7) (N := 10) hx hb hts hiX7 hown hK hP 0 rfl rfl 3 (by decide) (hts (.fieldLink RX7 29 "MadeItSo" "weights" "LMadeItSo$Weights;") (by decide +kernel)) (fun _ h9 => h9) rfl dX7_otherwise_97 ?_
  refine lv_aload_n hx hb dX7_otherwise_100 rfl (lv_at hl 2 rfl) ?_
  refine va_get (D := (dC, dI)) (ci := 7) (v := .ref dr) (C := RX7) (T := TX7) (N := 10) hx hb hts hiX7 hown hK hP 0 rfl rfl 0 (by decide) (hts (.fieldLink RX7 12 "MadeItSo" "drawing" "LMadeItSo$Drawing;") (by decide +kernel)) (fun _ h9 => h9) rfl dX7_otherwise_101 ?_
  refine lv_aload_n hx hb dX7_otherwise_104 rfl (lv_at hl 2 rfl) ?_
  refine va_get (D := (dC, dI)) (ci := 7) (v := .ref bk) (C := RX7) (T := TX7) (N := 10) hx hb hts hiX7 hown hK hP 0 rfl rfl 2 (by decide) (hts (.fieldLink RX7 22 "MadeItSo" "books" "LMadeItSo$Books;") (by decide +kernel)) (fun _ h9 => h9) rfl dX7_otherwise_105 ?_
  refine lv_iconst (v := 0) hx hb dX7_otherwise_108 (by decide +kernel) ?_
  have hPc := hP.sub (ws' := [(wt, .inr (6, [.ref wo, .int (nI ((2 ^ n - 1)))])), (wo, .inl (cJ, 256, .inr (.inl gw_76))), (dr, .inr (2, [.ref dp, .ref dc, .int (nI n)])), (dp, .inl (cI, 8, .inl fp)), (bk, .inr (1, [.ref bp])), (bp, .inl (cI, 1024, .inl fb))]) [1, 2, 3, 4, 5, 6] rfl
  have hDc := hD.sub (ws' := [(wt, .inr (6, [.ref wo, .int (nI ((2 ^ n - 1)))])), (wo, .inl (cJ, 256, .inr (.inl gw_76))), (dr, .inr (2, [.ref dp, .ref dc, .int (nI n)])), (dp, .inl (cI, 8, .inl fp)), (bk, .inr (1, [.ref bp])), (bp, .inl (cI, 1024, .inl fb))]) [1, 2, 3, 4, 5, 6] (by decide) rfl
  have hFc := va_free (wc := [(wt, .inr (6, [.ref wo, .int (nI ((2 ^ n - 1)))])), (wo, .inl (cJ, 256, .inr (.inl gw_76))), (dr, .inr (2, [.ref dp, .ref dc, .int (nI n)])), (dp, .inl (cI, 8, .inl fp)), (bk, .inr (1, [.ref bp])), (bp, .inl (cI, 1024, .inl fb))]) hD hS hA [1, 2, 3, 4, 5, 6] rfl
  refine va_callv (va_runV (As := [.ref dr, .ref bk, .int 0]) (rest := []) ⟨hx, hb, hml, hown, hts⟩ (mz_k_weigh l dC dI cI cJ cZ wt wo (nI ((2 ^ n - 1))) gw_76 dr dp dc n fp bk bp fb 0 H.size (by first | assumption | omega) (by first | assumption | omega) (by first | assumption | omega)) (cwV 3 hts gX7_otherwise_X6_weigh rfl rfl rfl (by decide +kernel) ⟨Nat.le_of_ble_eq_true rfl, Nat.le_of_ble_eq_true rfl⟩) ⟨fun a U g mk q => mz_blI q, va_recv hK hPc (ci := 6) (q0 := 0) rfl rfl, fun U hU hW => ⟨rfl, by rw [hU], by rw [hU]; exact hPc, va_K.moved hW.alike hK, hDc.weaken (fun _ _ _ _ => trivial), mz_nw hW hN⟩⟩ rfl rfl hl.1 rfl (lv_room (Nat.le_of_ble_eq_true rfl)) dX7_otherwise_109 ⟨Nat.le_of_ble_eq_true rfl, Nat.le_of_ble_eq_true rfl⟩) hS (fun q _ h => hFc q h) hFc (fun u t H1 locs ht hvm hw_109 hB hz1 hk1 hS => ?_)
  obtain ⟨gw_109, hx0_109, hP1, hD1⟩ := hB
  rw [ht] at hP1
  obtain ⟨hP, hD⟩ := va_join (wr := [(mx, .inr (7, [.ref dr, .ref th, .ref bk, .ref wt, .ref tt, .ref lh, .ref la, .int sh, .long ab, .long be]))]) (w1 := [(wt, .inr (6, [.ref wo, .int (nI ((2 ^ n - 1)))])), (wo, .inl (cJ, 256, .inr (.inl gw_109))), (dr, .inr (2, [.ref dp, .ref dc, .int (nI n)])), (dp, .inl (cI, 8, .inl fp)), (bk, .inr (1, [.ref bp])), (bp, .inl (cI, 1024, .inl fb))]) hP hD [1, 2, 3, 4, 5, 6] [0] rfl rfl (by decide) (by decide) hk1 hFc hP1 hD1
  generalize H1 = H at hP hS ⊢
  have hP : va_P (dC, dI) vwCl [(mx, .inr (7, [.ref dr, .ref th, .ref bk, .ref wt, .ref tt, .ref lh, .ref la, .int sh, .long ab, .long be])), (wt, .inr (6, [.ref wo, .int (nI ((2 ^ n - 1)))])), (wo, .inl (cJ, 256, .inr (.inl gw_109))), (dr, .inr (2, [.ref dp, .ref dc, .int (nI n)])), (dp, .inl (cI, 8, .inl fp)), (bk, .inr (1, [.ref bp])), (bp, .inl (cI, 1024, .inl fb))] H := hP
  have hD : va_D A [(mx, .inr (7, [.ref dr, .ref th, .ref bk, .ref wt, .ref tt, .ref lh, .ref la, .int sh, .long ab, .long be])), (wt, .inr (6, [.ref wo, .int (nI ((2 ^ n - 1)))])), (wo, .inl (cJ, 256, .inr (.inl gw_109))), (dr, .inr (2, [.ref dp, .ref dc, .int (nI n)])), (dp, .inl (cI, 8, .inl fp)), (bk, .inr (1, [.ref bp])), (bp, .inl (cI, 1024, .inl fb))] := hD
  refine lv_iload_n hx hb dX7_otherwise_112 rfl (lv_at hl 5 rfl) ?_
  by_cases hs_0 : p3 = 0
  · refine mz_ti (y := 0) hs_0 ?_
    refine lv_tableIn (tgt := 144) (off := 31) hx hb dX7_otherwise_113 (by decide +kernel) (by decide +kernel) (by decide +kernel) (by decide) ?_
    refine lv_aload_n hx hb dX7_otherwise_144 rfl (lv_at hl 2 rfl) ?_
    refine lv_iload_n hx hb dX7_otherwise_145 rfl (lv_at hl 4 rfl) ?_
    refine lv_lload hx hb dX7_otherwise_146 (lv_at hl 1 rfl) ?_
    refine lv_lload hx hb dX7_otherwise_148 (lv_at hl 0 rfl) ?_
    have hPc := hP.sub (ws' := [(mx, .inr (7, [.ref dr, .ref th, .ref bk, .ref wt, .ref tt, .ref lh, .ref la, .int sh, .long ab, .long be])), (wt, .inr (6, [.ref wo, .int (nI ((2 ^ n - 1)))])), (wo, .inl (cJ, 256, .inr (.inl gw_109)))]) [0, 1, 2] rfl
    refine va_calll (va_runV (As := [.int (nI j), .long (mz_cs (mz_wt n fp fb (mz_so i 1)) (1 <<< ((nI j) &&& 31)) (1 <<< ((nI j) &&& 31)) n), .long (mz_cs (mz_wt n fp fb (mz_so i 0)) (1 <<< ((nI j) &&& 31)) (1 <<< ((nI j) &&& 31)) n)]) (rest := []) ⟨hx, hb, hml, hown, hts⟩ (mz_q_x_leastOfBoth l dC dI cI cJ cZ mx dr th bk wt tt lh la sh ab be wo (2 ^ n - 1) gw_109 j (mz_cs (mz_wt n fp fb (mz_so i 1)) (1 <<< ((nI j) &&& 31)) (1 <<< ((nI j) &&& 31)) n) (mz_cs (mz_wt n fp fb (mz_so i 0)) (1 <<< ((nI j) &&& 31)) (1 <<< ((nI j) &&& 31)) n) H (by have := mz_2n hn; omega)) (cwV 3 hts gX7_otherwise_X7_leastOfBoth rfl rfl rfl (by decide +kernel) ⟨Nat.le_of_ble_eq_true rfl, Nat.le_of_ble_eq_true rfl⟩) ⟨fun a U g mk q => mz_blP q, va_recv hK hPc (ci := 7) (q0 := 0) rfl rfl, fun U hU hW => ⟨rfl, hU, hPc, va_K.moved hW.alike hK, mz_nw hW hN⟩⟩ rfl rfl hl.1 rfl (lv_room (Nat.le_of_ble_eq_true rfl)) dX7_otherwise_150 ⟨Nat.le_of_ble_eq_true rfl, Nat.le_of_ble_eq_true rfl⟩) hS (fun q _ h => h.elim) (fun q h => h.elim) (fun r_150 u t H1 locs ht hvm hw_150 hB hz1 hk1 hS => ?_)
    have hE : H = H1 := hB.symm.trans ht
    subst hE
    obtain rfl : r_150 = (mz_mx (mz_mx 0 ((mz_cs (mz_wt n fp fb (mz_so i 1)) (1 <<< ((nI j) &&& 31)) (1 <<< ((nI j) &&& 31)) n) - (mz_cs (mz_wt n fp fb (mz_so i 0)) (1 <<< ((nI j) &&& 31)) (1 <<< ((nI j) &&& 31)) n))) (mz_mx ((mz_hv (nI (2 ^ n - 1)) gw_109 (1 <<< ((nI j) &&& 31)) (1 <<< ((nI j) &&& 31))) - (mz_cs (mz_wt n fp fb (mz_so i 0)) (1 <<< ((nI j) &&& 31)) (1 <<< ((nI j) &&& 31)) n)) ((mz_cs (mz_wt n fp fb (mz_so i 1)) (1 <<< ((nI j) &&& 31)) (1 <<< ((nI j) &&& 31)) n) - (mz_hv (nI (2 ^ n - 1)) gw_109 (1 <<< ((nI j) &&& 31)) (1 <<< ((nI j) &&& 31)))))) := hw_150
    have hP9 := hP.sub (ws' := [(mx, .inr (7, [.ref dr, .ref th, .ref bk, .ref wt, .ref tt, .ref lh, .ref la, .int sh, .long ab, .long be])), (dr, .inr (2, [.ref dp, .ref dc, .int (nI n)])), (dp, .inl (cI, 8, .inl fp)), (bk, .inr (1, [.ref bp])), (bp, .inl (cI, 1024, .inl fb)), (wt, .inr (6, [.ref wo, .int (nI ((2 ^ n - 1)))])), (wo, .inl (cJ, 256, .inr (.inl gw_109)))]) [0, 3, 4, 5, 6, 1, 2] rfl
    have hD9 := hD.sub (ws' := [(mx, .inr (7, [.ref dr, .ref th, .ref bk, .ref wt, .ref tt, .ref lh, .ref la, .int sh, .long ab, .long be])), (dr, .inr (2, [.ref dp, .ref dc, .int (nI n)])), (dp, .inl (cI, 8, .inl fp)), (bk, .inr (1, [.ref bp])), (bp, .inl (cI, 1024, .inl fb)), (wt, .inr (6, [.ref wo, .int (nI ((2 ^ n - 1)))])), (wo, .inl (cJ, 256, .inr (.inl gw_109)))]) [0, 3, 4, 5, 6, 1, 2] (by decide) rfl
    refine W.widen (k := 0) (n := 0) (Nat.le_of_ble_eq_true rfl) (Nat.le_of_ble_eq_true rfl) ?_
    exact W.lret (v := (mz_mx (mz_mx 0 ((mz_cs (mz_wt n fp fb (mz_so i 1)) (1 <<< ((nI j) &&& 31)) (1 <<< ((nI j) &&& 31)) n) - (mz_cs (mz_wt n fp fb (mz_so i 0)) (1 <<< ((nI j) &&& 31)) (1 <<< ((nI j) &&& 31)) n))) (mz_mx ((mz_hv (nI (2 ^ n - 1)) gw_109 (1 <<< ((nI j) &&& 31)) (1 <<< ((nI j) &&& 31))) - (mz_cs (mz_wt n fp fb (mz_so i 0)) (1 <<< ((nI j) &&& 31)) (1 <<< ((nI j) &&& 31)) n)) ((mz_cs (mz_wt n fp fb (mz_so i 1)) (1 <<< ((nI j) &&& 31)) (1 <<< ((nI j) &&& 31)) n) - (mz_hv (nI (2 ^ n - 1)) gw_109 (1 <<< ((nI j) &&& 31)) (1 <<< ((nI j) &&& 31))))))) hx hb hr (fun t ht hW => ⟨⟨(mz_mx (mz_mx 0 ((mz_cs (mz_wt n fp fb (mz_so i 1)) (1 <<< ((nI j) &&& 31)) (1 <<< ((nI j) &&& 31)) n) - (mz_cs (mz_wt n fp fb (mz_so i 0)) (1 <<< ((nI j) &&& 31)) (1 <<< ((nI j) &&& 31)) n))) (mz_mx ((mz_hv (nI (2 ^ n - 1)) gw_109 (1 <<< ((nI j) &&& 31)) (1 <<< ((nI j) &&& 31))) - (mz_cs (mz_wt n fp fb (mz_so i 0)) (1 <<< ((nI j) &&& 31)) (1 <<< ((nI j) &&& 31)) n)) ((mz_cs (mz_wt n fp fb (mz_so i 1)) (1 <<< ((nI j) &&& 31)) (1 <<< ((nI j) &&& 31)) n) - (mz_hv (nI (2 ^ n - 1)) gw_109 (1 <<< ((nI j) &&& 31)) (1 <<< ((nI j) &&& 31)))))), (), rfl, (by rw [mz_ow0 hs_0, mz_hv_w2 hn (mz_hp_bi hj hn) (mz_in_s _) hx0_109]), (nI ((2 ^ n - 1))), gw_109, by rw [ht]; exact hP9, hD9⟩, hS.F ht⟩) hS.2.2 dX7_otherwise_153
  by_cases hs_1 : p3 = 1
  · refine mz_ti (y := 1) hs_1 ?_
    refine lv_tableIn (tgt := 154) (off := 41) hx hb dX7_otherwise_113 (by decide +kernel) (by decide +kernel) (by decide +kernel) (by decide) ?_
    refine lv_aload_n hx hb dX7_otherwise_154 rfl (lv_at hl 2 rfl) ?_
    refine lv_iload_n hx hb dX7_otherwise_155 rfl (lv_at hl 3 rfl) ?_
    refine lv_iload_n hx hb dX7_otherwise_156 rfl (lv_at hl 4 rfl) ?_
    refine lv_lload hx hb dX7_otherwise_157 (lv_at hl 1 rfl) ?_
    refine lv_lload hx hb dX7_otherwise_159 (lv_at hl 0 rfl) ?_
    have hPc := hP.sub (ws' := [(mx, .inr (7, [.ref dr, .ref th, .ref bk, .ref wt, .ref tt, .ref lh, .ref la, .int sh, .long ab, .long be])), (wt, .inr (6, [.ref wo, .int (nI ((2 ^ n - 1)))])), (wo, .inl (cJ, 256, .inr (.inl gw_109)))]) [0, 1, 2] rfl
    refine va_calll (va_runV (As := [.int (nI i), .int (nI j), .long (mz_cs (mz_wt n fp fb (mz_so i 1)) (1 <<< ((nI j) &&& 31)) (1 <<< ((nI j) &&& 31)) n), .long (mz_cs (mz_wt n fp fb (mz_so i 0)) (1 <<< ((nI j) &&& 31)) (1 <<< ((nI j) &&& 31)) n)]) (rest := []) ⟨hx, hb, hml, hown, hts⟩ (mz_q_x_mostOfBoth l dC dI cI cJ cZ mx dr th bk wt tt lh la sh ab be wo (2 ^ n - 1) gw_109 i j (mz_cs (mz_wt n fp fb (mz_so i 1)) (1 <<< ((nI j) &&& 31)) (1 <<< ((nI j) &&& 31)) n) (mz_cs (mz_wt n fp fb (mz_so i 0)) (1 <<< ((nI j) &&& 31)) (1 <<< ((nI j) &&& 31)) n) H (by have := mz_2n hn; omega)) (cwV 4 hts gX7_otherwise_X7_mostOfBoth rfl rfl rfl (by decide +kernel) ⟨Nat.le_of_ble_eq_true rfl, Nat.le_of_ble_eq_true rfl⟩) ⟨fun a U g mk q => mz_blP q, va_recv hK hPc (ci := 7) (q0 := 0) rfl rfl, fun U hU hW => ⟨rfl, hU, hPc, va_K.moved hW.alike hK, mz_nw hW hN⟩⟩ rfl rfl hl.1 rfl (lv_room (Nat.le_of_ble_eq_true rfl)) dX7_otherwise_161 ⟨Nat.le_of_ble_eq_true rfl, Nat.le_of_ble_eq_true rfl⟩) hS (fun q _ h => h.elim) (fun q h => h.elim) (fun r_161 u t H1 locs ht hvm hw_161 hB hz1 hk1 hS => ?_)
    have hE : H = H1 := hB.symm.trans ht
    subst hE
    obtain rfl : r_161 = (mz_mn (mz_mn (mz_cs (mz_wt n fp fb (mz_so i 1)) (1 <<< ((nI j) &&& 31)) (1 <<< ((nI j) &&& 31)) n) ((mz_hv (nI (2 ^ n - 1)) gw_109 0 0) - (mz_cs (mz_wt n fp fb (mz_so i 0)) (1 <<< ((nI j) &&& 31)) (1 <<< ((nI j) &&& 31)) n))) (mz_mn ((mz_hv (nI (2 ^ n - 1)) gw_109 ((1 <<< ((nI i) &&& 31)) ||| (1 <<< ((nI j) &&& 31))) ((1 <<< ((nI i) &&& 31)) ||| (1 <<< ((nI j) &&& 31)))) + (mz_hv (nI (2 ^ n - 1)) gw_109 ((1 <<< ((nI i) &&& 31)) ||| (1 <<< ((nI j) &&& 31))) 0)) (((mz_cs (mz_wt n fp fb (mz_so i 1)) (1 <<< ((nI j) &&& 31)) (1 <<< ((nI j) &&& 31)) n) - (mz_cs (mz_wt n fp fb (mz_so i 0)) (1 <<< ((nI j) &&& 31)) (1 <<< ((nI j) &&& 31)) n)) + ((mz_hv (nI (2 ^ n - 1)) gw_109 ((1 <<< ((nI i) &&& 31)) ||| (1 <<< ((nI j) &&& 31))) (1 <<< ((nI i) &&& 31))) + (mz_hv (nI (2 ^ n - 1)) gw_109 ((1 <<< ((nI i) &&& 31)) ||| (1 <<< ((nI j) &&& 31))) (1 <<< ((nI j) &&& 31))))))) := hw_161
    have hP9 := hP.sub (ws' := [(mx, .inr (7, [.ref dr, .ref th, .ref bk, .ref wt, .ref tt, .ref lh, .ref la, .int sh, .long ab, .long be])), (dr, .inr (2, [.ref dp, .ref dc, .int (nI n)])), (dp, .inl (cI, 8, .inl fp)), (bk, .inr (1, [.ref bp])), (bp, .inl (cI, 1024, .inl fb)), (wt, .inr (6, [.ref wo, .int (nI ((2 ^ n - 1)))])), (wo, .inl (cJ, 256, .inr (.inl gw_109)))]) [0, 3, 4, 5, 6, 1, 2] rfl
    have hD9 := hD.sub (ws' := [(mx, .inr (7, [.ref dr, .ref th, .ref bk, .ref wt, .ref tt, .ref lh, .ref la, .int sh, .long ab, .long be])), (dr, .inr (2, [.ref dp, .ref dc, .int (nI n)])), (dp, .inl (cI, 8, .inl fp)), (bk, .inr (1, [.ref bp])), (bp, .inl (cI, 1024, .inl fb)), (wt, .inr (6, [.ref wo, .int (nI ((2 ^ n - 1)))])), (wo, .inl (cJ, 256, .inr (.inl gw_109)))]) [0, 3, 4, 5, 6, 1, 2] (by decide) rfl
    refine W.widen (k := 0) (n := 0) (Nat.le_of_ble_eq_true rfl) (Nat.le_of_ble_eq_true rfl) ?_
    exact W.lret (v := (mz_mn (mz_mn (mz_cs (mz_wt n fp fb (mz_so i 1)) (1 <<< ((nI j) &&& 31)) (1 <<< ((nI j) &&& 31)) n) ((mz_hv (nI (2 ^ n - 1)) gw_109 0 0) - (mz_cs (mz_wt n fp fb (mz_so i 0)) (1 <<< ((nI j) &&& 31)) (1 <<< ((nI j) &&& 31)) n))) (mz_mn ((mz_hv (nI (2 ^ n - 1)) gw_109 ((1 <<< ((nI i) &&& 31)) ||| (1 <<< ((nI j) &&& 31))) ((1 <<< ((nI i) &&& 31)) ||| (1 <<< ((nI j) &&& 31)))) + (mz_hv (nI (2 ^ n - 1)) gw_109 ((1 <<< ((nI i) &&& 31)) ||| (1 <<< ((nI j) &&& 31))) 0)) (((mz_cs (mz_wt n fp fb (mz_so i 1)) (1 <<< ((nI j) &&& 31)) (1 <<< ((nI j) &&& 31)) n) - (mz_cs (mz_wt n fp fb (mz_so i 0)) (1 <<< ((nI j) &&& 31)) (1 <<< ((nI j) &&& 31)) n)) + ((mz_hv (nI (2 ^ n - 1)) gw_109 ((1 <<< ((nI i) &&& 31)) ||| (1 <<< ((nI j) &&& 31))) (1 <<< ((nI i) &&& 31))) + (mz_hv (nI (2 ^ n - 1)) gw_109 ((1 <<< ((nI i) &&& 31)) ||| (1 <<< ((nI j) &&& 31))) (1 <<< ((nI j) &&& 31)))))))) hx hb hr (fun t ht hW => ⟨⟨(mz_mn (mz_mn (mz_cs (mz_wt n fp fb (mz_so i 1)) (1 <<< ((nI j) &&& 31)) (1 <<< ((nI j) &&& 31)) n) ((mz_hv (nI (2 ^ n - 1)) gw_109 0 0) - (mz_cs (mz_wt n fp fb (mz_so i 0)) (1 <<< ((nI j) &&& 31)) (1 <<< ((nI j) &&& 31)) n))) (mz_mn ((mz_hv (nI (2 ^ n - 1)) gw_109 ((1 <<< ((nI i) &&& 31)) ||| (1 <<< ((nI j) &&& 31))) ((1 <<< ((nI i) &&& 31)) ||| (1 <<< ((nI j) &&& 31)))) + (mz_hv (nI (2 ^ n - 1)) gw_109 ((1 <<< ((nI i) &&& 31)) ||| (1 <<< ((nI j) &&& 31))) 0)) (((mz_cs (mz_wt n fp fb (mz_so i 1)) (1 <<< ((nI j) &&& 31)) (1 <<< ((nI j) &&& 31)) n) - (mz_cs (mz_wt n fp fb (mz_so i 0)) (1 <<< ((nI j) &&& 31)) (1 <<< ((nI j) &&& 31)) n)) + ((mz_hv (nI (2 ^ n - 1)) gw_109 ((1 <<< ((nI i) &&& 31)) ||| (1 <<< ((nI j) &&& 31))) (1 <<< ((nI i) &&& 31))) + (mz_hv (nI (2 ^ n - 1)) gw_109 ((1 <<< ((nI i) &&& 31)) ||| (1 <<< ((nI j) &&& 31))) (1 <<< ((nI j) &&& 31))))))), (), rfl, (by rw [mz_ow1 hs_1, mz_hv_w2 hn mz_hp_0 (mz_in_s _) hx0_109, mz_hv_w2 hn (mz_hp_or (mz_hp_bi hi hn) (mz_hp_bi hj hn)) (mz_in_s _) hx0_109, mz_hv_w2 hn (mz_hp_or (mz_hp_bi hi hn) (mz_hp_bi hj hn)) (mz_in_0 _) hx0_109, mz_hv_w2 hn (mz_hp_or (mz_hp_bi hi hn) (mz_hp_bi hj hn)) (mz_in_l _ _) hx0_109, mz_hv_w2 hn (mz_hp_or (mz_hp_bi hi hn) (mz_hp_bi hj hn)) (mz_in_r _ _) hx0_109, mz_tot hn ha hbo hself, Int64.add_assoc (_ - _)]), (nI ((2 ^ n - 1))), gw_109, by rw [ht]; exact hP9, hD9⟩, hS.F ht⟩) hS.2.2 dX7_otherwise_164
  by_cases hs_2 : p3 = 2
  · refine mz_ti (y := 2) hs_2 ?_
    refine lv_tableIn (tgt := 165) (off := 52) hx hb dX7_otherwise_113 (by decide +kernel) (by decide +kernel) (by decide +kernel) (by decide) ?_
    refine lv_lconst (v := 0) hx hb dX7_otherwise_165 (by decide +kernel) ?_
    refine lv_aload_n hx hb dX7_otherwise_166 rfl (lv_at hl 2 rfl) ?_
    refine va_get (D := (dC, dI)) (ci := 7) (v := .ref wt) (C := RX7) (T := TX7) (N := 10) hx hb hts hiX7 hown hK hP 0 rfl rfl 3 (by decide) (hts (.fieldLink RX7 29 "MadeItSo" "weights" "LMadeItSo$Weights;") (by decide +kernel)) (fun _ h9 => h9) rfl dX7_otherwise_167 ?_
    refine lv_iload_n hx hb dX7_otherwise_170 rfl (lv_at hl 4 rfl) ?_
    have hPc := hP.sub (ws' := []) [] rfl
    refine va_calli (va_runS (As := [.int (nI j)]) (rest := [.ref wt, .long 0]) ⟨hx, hb, hml, hown, hts⟩ (mz_g_bit l dC dI cI cJ cZ (nI j) H ) (va_cwS 1 hts gX7_otherwise_X7_bit rfl rfl rfl (by decide +kernel) ⟨Nat.le_of_ble_eq_true rfl, Nat.le_of_ble_eq_true rfl⟩) ⟨fun a U g mk q => mz_blP q, fun U hU hW => ⟨rfl, hU, hPc, va_K.moved hW.alike hK, mz_nw hW hN⟩⟩ rfl rfl hl.1 rfl (lv_room (Nat.le_of_ble_eq_true rfl)) dX7_otherwise_171 ⟨Nat.le_of_ble_eq_true rfl, Nat.le_of_ble_eq_true rfl⟩) hS (fun q _ h => h.elim) (fun q h => h.elim) (fun r_171 u t H1 locs ht hvm hw_171 hB hz1 hk1 hS => ?_)
    have hE : H = H1 := hB.symm.trans ht
    subst hE
    obtain rfl : r_171 = (1 <<< ((nI j) &&& 31)) := hw_171
    refine lv_iload_n hx hb dX7_otherwise_174 rfl (lv_at hl 4 rfl) ?_
    have hPc := hP.sub (ws' := []) [] rfl
    refine va_calli (va_runS (As := [.int (nI j)]) (rest := [.int (1 <<< ((nI j) &&& 31)), .ref wt, .long 0]) ⟨hx, hb, hml, hown, hts⟩ (mz_g_bit l dC dI cI cJ cZ (nI j) H ) (va_cwS 1 hts gX7_otherwise_X7_bit rfl rfl rfl (by decide +kernel) ⟨Nat.le_of_ble_eq_true rfl, Nat.le_of_ble_eq_true rfl⟩) ⟨fun a U g mk q => mz_blP q, fun U hU hW => ⟨rfl, hU, hPc, va_K.moved hW.alike hK, mz_nw hW hN⟩⟩ rfl rfl hl.1 rfl (lv_room (Nat.le_of_ble_eq_true rfl)) dX7_otherwise_175 ⟨Nat.le_of_ble_eq_true rfl, Nat.le_of_ble_eq_true rfl⟩) hS (fun q _ h => h.elim) (fun q h => h.elim) (fun r_175 u t H1 locs ht hvm hw_175 hB hz1 hk1 hS => ?_)
    have hE : H = H1 := hB.symm.trans ht
    subst hE
    obtain rfl : r_175 = (1 <<< ((nI j) &&& 31)) := hw_175
    have hPc := hP.sub (ws' := [(wt, .inr (6, [.ref wo, .int (nI ((2 ^ n - 1)))])), (wo, .inl (cJ, 256, .inr (.inl gw_109)))]) [1, 2] rfl
    refine va_calll (va_runV (As := [.int (1 <<< ((nI j) &&& 31)), .int (1 <<< ((nI j) &&& 31))]) (rest := [.long 0]) ⟨hx, hb, hml, hown, hts⟩ (mz_k_having l dC dI cI cJ cZ wt wo (2 ^ n - 1) gw_109 (1 <<< ((nI j) &&& 31)) (1 <<< ((nI j) &&& 31)) H (by have := mz_2n hn; omega)) (cwV 2 hts gX7_otherwise_X6_having rfl rfl rfl (by decide +kernel) ⟨Nat.le_of_ble_eq_true rfl, Nat.le_of_ble_eq_true rfl⟩) ⟨fun a U g mk q => mz_blP q, va_recv hK hPc (ci := 6) (q0 := 0) rfl rfl, fun U hU hW => ⟨rfl, hU, hPc, va_K.moved hW.alike hK, mz_nw hW hN⟩⟩ rfl rfl hl.1 rfl (lv_room (Nat.le_of_ble_eq_true rfl)) dX7_otherwise_178 ⟨Nat.le_of_ble_eq_true rfl, Nat.le_of_ble_eq_true rfl⟩) hS (fun q _ h => h.elim) (fun q h => h.elim) (fun r_178 u t H1 locs ht hvm hw_178 hB hz1 hk1 hS => ?_)
    have hE : H = H1 := hB.symm.trans ht
    subst hE
    obtain rfl : r_178 = (mz_hv (nI (2 ^ n - 1)) gw_109 (1 <<< ((nI j) &&& 31)) (1 <<< ((nI j) &&& 31))) := hw_178
    refine lv_lload hx hb dX7_otherwise_181 (lv_at hl 0 rfl) ?_
    refine lv_lsub hx hb dX7_otherwise_183 ?_
    refine lv_topl (fun v_183 ev_183 => ?_)
    refine va_mmax_long hx hb (by rw [hml]; exact hl.1.symm) hown (hts (.methodLink RX7 199 Lib.MathLoose.max_long.x) (by decide +kernel)) (hts (.static Lib.MathLoose.max_long.x) (by decide +kernel)) (hts (.initialized "java/lang/Math") (by decide +kernel)) (hts (.code Lib.MathLoose.max_long.x Lib.MathLoose.max_long.code 4 (some .long)) (by decide +kernel)) (Nat.le_of_ble_eq_true rfl) (Nat.le_of_ble_eq_true rfl) (Nat.le_of_ble_eq_true rfl) (Nat.le_of_ble_eq_true rfl) dX7_otherwise_184 ?_
    refine lv_topl (fun v_184 ev_184 => ?_)
    have hP9 := hP.sub (ws' := [(mx, .inr (7, [.ref dr, .ref th, .ref bk, .ref wt, .ref tt, .ref lh, .ref la, .int sh, .long ab, .long be])), (dr, .inr (2, [.ref dp, .ref dc, .int (nI n)])), (dp, .inl (cI, 8, .inl fp)), (bk, .inr (1, [.ref bp])), (bp, .inl (cI, 1024, .inl fb)), (wt, .inr (6, [.ref wo, .int (nI ((2 ^ n - 1)))])), (wo, .inl (cJ, 256, .inr (.inl gw_109)))]) [0, 3, 4, 5, 6, 1, 2] rfl
    have hD9 := hD.sub (ws' := [(mx, .inr (7, [.ref dr, .ref th, .ref bk, .ref wt, .ref tt, .ref lh, .ref la, .int sh, .long ab, .long be])), (dr, .inr (2, [.ref dp, .ref dc, .int (nI n)])), (dp, .inl (cI, 8, .inl fp)), (bk, .inr (1, [.ref bp])), (bp, .inl (cI, 1024, .inl fb)), (wt, .inr (6, [.ref wo, .int (nI ((2 ^ n - 1)))])), (wo, .inl (cJ, 256, .inr (.inl gw_109)))]) [0, 3, 4, 5, 6, 1, 2] (by decide) rfl
    refine W.widen (k := 0) (n := 0) (Nat.le_of_ble_eq_true rfl) (Nat.le_of_ble_eq_true rfl) ?_
    exact W.lret (v := v_184) hx hb hr (fun t ht hW => ⟨⟨v_184, (), rfl, (by rw [mz_ow2 hs_2, ev_184, ev_183, mz_hv_w2 hn (mz_hp_bi hj hn) (mz_in_s _) hx0_109]; rfl), (nI ((2 ^ n - 1))), gw_109, by rw [ht]; exact hP9, hD9⟩, hS.F ht⟩) hS.2.2 dX7_otherwise_187
  by_cases hs_3 : p3 = 3
  · refine mz_ti (y := 3) hs_3 ?_
    refine lv_tableIn (tgt := 188) (off := 75) hx hb dX7_otherwise_113 (by decide +kernel) (by decide +kernel) (by decide +kernel) (by decide) ?_
    refine lv_aload_n hx hb dX7_otherwise_188 rfl (lv_at hl 2 rfl) ?_
    refine lv_iload_n hx hb dX7_otherwise_189 rfl (lv_at hl 3 rfl) ?_
    refine lv_iload_n hx hb dX7_otherwise_190 rfl (lv_at hl 4 rfl) ?_
    refine lv_lload hx hb dX7_otherwise_191 (lv_at hl 0 rfl) ?_
    have hPc := hP.sub (ws' := [(mx, .inr (7, [.ref dr, .ref th, .ref bk, .ref wt, .ref tt, .ref lh, .ref la, .int sh, .long ab, .long be])), (wt, .inr (6, [.ref wo, .int (nI ((2 ^ n - 1)))])), (wo, .inl (cJ, 256, .inr (.inl gw_109)))]) [0, 1, 2] rfl
    refine va_calll (va_runV (As := [.int (nI i), .int (nI j), .long (mz_cs (mz_wt n fp fb (mz_so i 0)) (1 <<< ((nI j) &&& 31)) (1 <<< ((nI j) &&& 31)) n)]) (rest := []) ⟨hx, hb, hml, hown, hts⟩ (mz_q_x_mostOfNeed l dC dI cI cJ cZ mx dr th bk wt tt lh la sh ab be wo (2 ^ n - 1) gw_109 i j (mz_cs (mz_wt n fp fb (mz_so i 0)) (1 <<< ((nI j) &&& 31)) (1 <<< ((nI j) &&& 31)) n) H (by have := mz_2n hn; omega)) (cwV 3 hts gX7_otherwise_X7_mostOfNeed rfl rfl rfl (by decide +kernel) ⟨Nat.le_of_ble_eq_true rfl, Nat.le_of_ble_eq_true rfl⟩) ⟨fun a U g mk q => mz_blP q, va_recv hK hPc (ci := 7) (q0 := 0) rfl rfl, fun U hU hW => ⟨rfl, hU, hPc, va_K.moved hW.alike hK, mz_nw hW hN⟩⟩ rfl rfl hl.1 rfl (lv_room (Nat.le_of_ble_eq_true rfl)) dX7_otherwise_193 ⟨Nat.le_of_ble_eq_true rfl, Nat.le_of_ble_eq_true rfl⟩) hS (fun q _ h => h.elim) (fun q h => h.elim) (fun r_193 u t H1 locs ht hvm hw_193 hB hz1 hk1 hS => ?_)
    have hE : H = H1 := hB.symm.trans ht
    subst hE
    obtain rfl : r_193 = (mz_mn (mz_hv (nI (2 ^ n - 1)) gw_109 ((1 <<< ((nI i) &&& 31)) ||| (1 <<< ((nI j) &&& 31))) ((1 <<< ((nI i) &&& 31)) ||| (1 <<< ((nI j) &&& 31)))) (((mz_hv (nI (2 ^ n - 1)) gw_109 0 0) - (mz_cs (mz_wt n fp fb (mz_so i 0)) (1 <<< ((nI j) &&& 31)) (1 <<< ((nI j) &&& 31)) n)) - (mz_hv (nI (2 ^ n - 1)) gw_109 ((1 <<< ((nI i) &&& 31)) ||| (1 <<< ((nI j) &&& 31))) 0))) := hw_193
    have hP9 := hP.sub (ws' := [(mx, .inr (7, [.ref dr, .ref th, .ref bk, .ref wt, .ref tt, .ref lh, .ref la, .int sh, .long ab, .long be])), (dr, .inr (2, [.ref dp, .ref dc, .int (nI n)])), (dp, .inl (cI, 8, .inl fp)), (bk, .inr (1, [.ref bp])), (bp, .inl (cI, 1024, .inl fb)), (wt, .inr (6, [.ref wo, .int (nI ((2 ^ n - 1)))])), (wo, .inl (cJ, 256, .inr (.inl gw_109)))]) [0, 3, 4, 5, 6, 1, 2] rfl
    have hD9 := hD.sub (ws' := [(mx, .inr (7, [.ref dr, .ref th, .ref bk, .ref wt, .ref tt, .ref lh, .ref la, .int sh, .long ab, .long be])), (dr, .inr (2, [.ref dp, .ref dc, .int (nI n)])), (dp, .inl (cI, 8, .inl fp)), (bk, .inr (1, [.ref bp])), (bp, .inl (cI, 1024, .inl fb)), (wt, .inr (6, [.ref wo, .int (nI ((2 ^ n - 1)))])), (wo, .inl (cJ, 256, .inr (.inl gw_109)))]) [0, 3, 4, 5, 6, 1, 2] (by decide) rfl
    refine W.widen (k := 0) (n := 0) (Nat.le_of_ble_eq_true rfl) (Nat.le_of_ble_eq_true rfl) ?_
    exact W.lret (v := (mz_mn (mz_hv (nI (2 ^ n - 1)) gw_109 ((1 <<< ((nI i) &&& 31)) ||| (1 <<< ((nI j) &&& 31))) ((1 <<< ((nI i) &&& 31)) ||| (1 <<< ((nI j) &&& 31)))) (((mz_hv (nI (2 ^ n - 1)) gw_109 0 0) - (mz_cs (mz_wt n fp fb (mz_so i 0)) (1 <<< ((nI j) &&& 31)) (1 <<< ((nI j) &&& 31)) n)) - (mz_hv (nI (2 ^ n - 1)) gw_109 ((1 <<< ((nI i) &&& 31)) ||| (1 <<< ((nI j) &&& 31))) 0)))) hx hb hr (fun t ht hW => ⟨⟨(mz_mn (mz_hv (nI (2 ^ n - 1)) gw_109 ((1 <<< ((nI i) &&& 31)) ||| (1 <<< ((nI j) &&& 31))) ((1 <<< ((nI i) &&& 31)) ||| (1 <<< ((nI j) &&& 31)))) (((mz_hv (nI (2 ^ n - 1)) gw_109 0 0) - (mz_cs (mz_wt n fp fb (mz_so i 0)) (1 <<< ((nI j) &&& 31)) (1 <<< ((nI j) &&& 31)) n)) - (mz_hv (nI (2 ^ n - 1)) gw_109 ((1 <<< ((nI i) &&& 31)) ||| (1 <<< ((nI j) &&& 31))) 0))), (), rfl, (by rw [mz_ow3 hs_3, mz_hv_w2 hn (mz_hp_or (mz_hp_bi hi hn) (mz_hp_bi hj hn)) (mz_in_s _) hx0_109, mz_hv_w2 hn mz_hp_0 (mz_in_s _) hx0_109, mz_hv_w2 hn (mz_hp_or (mz_hp_bi hi hn) (mz_hp_bi hj hn)) (mz_in_0 _) hx0_109, mz_tot hn ha hbo hself]), (nI ((2 ^ n - 1))), gw_109, by rw [ht]; exact hP9, hD9⟩, hS.F ht⟩) hS.2.2 dX7_otherwise_196
  refine lv_tableOut (tgt := 197) hx hb dX7_otherwise_113 (mz_sw3 hs_0 hs_1 hs_2 hs_3) (by decide) ?_
  refine lv_aload_n hx hb dX7_otherwise_197 rfl (lv_at hl 2 rfl) ?_
  refine va_get (D := (dC, dI)) (ci := 7) (v := .ref wt) (C := RX7) (T := TX7) (N := 10) hx hb hts hiX7 hown hK hP 0 rfl rfl 3 (by decide) (hts (.fieldLink RX7 29 "MadeItSo" "weights" "LMadeItSo$Weights;") (by decide +kernel)) (fun _ h9 => h9) rfl dX7_otherwise_198 ?_
  refine lv_iload_n hx hb dX7_otherwise_201 rfl (lv_at hl 3 rfl) ?_
  have hPc := hP.sub (ws' := []) [] rfl
  refine va_calli (va_runS (As := [.int (nI i)]) (rest := [.ref wt]) ⟨hx, hb, hml, hown, hts⟩ (mz_g_bit l dC dI cI cJ cZ (nI i) H ) (va_cwS 1 hts gX7_otherwise_X7_bit rfl rfl rfl (by decide +kernel) ⟨Nat.le_of_ble_eq_true rfl, Nat.le_of_ble_eq_true rfl⟩) ⟨fun a U g mk q => mz_blP q, fun U hU hW => ⟨rfl, hU, hPc, va_K.moved hW.alike hK, mz_nw hW hN⟩⟩ rfl rfl hl.1 rfl (lv_room (Nat.le_of_ble_eq_true rfl)) dX7_otherwise_202 ⟨Nat.le_of_ble_eq_true rfl, Nat.le_of_ble_eq_true rfl⟩) hS (fun q _ h => h.elim) (fun q h => h.elim) (fun r_202 u t H1 locs ht hvm hw_202 hB hz1 hk1 hS => ?_)
  have hE : H = H1 := hB.symm.trans ht
  subst hE
  obtain rfl : r_202 = (1 <<< ((nI i) &&& 31)) := hw_202
  refine lv_iload_n hx hb dX7_otherwise_205 rfl (lv_at hl 4 rfl) ?_
  have hPc := hP.sub (ws' := []) [] rfl
  refine va_calli (va_runS (As := [.int (nI j)]) (rest := [.int (1 <<< ((nI i) &&& 31)), .ref wt]) ⟨hx, hb, hml, hown, hts⟩ (mz_g_bit l dC dI cI cJ cZ (nI j) H ) (va_cwS 1 hts gX7_otherwise_X7_bit rfl rfl rfl (by decide +kernel) ⟨Nat.le_of_ble_eq_true rfl, Nat.le_of_ble_eq_true rfl⟩) ⟨fun a U g mk q => mz_blP q, fun U hU hW => ⟨rfl, hU, hPc, va_K.moved hW.alike hK, mz_nw hW hN⟩⟩ rfl rfl hl.1 rfl (lv_room (Nat.le_of_ble_eq_true rfl)) dX7_otherwise_206 ⟨Nat.le_of_ble_eq_true rfl, Nat.le_of_ble_eq_true rfl⟩) hS (fun q _ h => h.elim) (fun q h => h.elim) (fun r_206 u t H1 locs ht hvm hw_206 hB hz1 hk1 hS => ?_)
  have hE : H = H1 := hB.symm.trans ht
  subst hE
  obtain rfl : r_206 = (1 <<< ((nI j) &&& 31)) := hw_206
  refine lv_ior hx hb dX7_otherwise_209 ?_
  refine lv_iload_n hx hb dX7_otherwise_210 rfl (lv_at hl 3 rfl) ?_
  have hPc := hP.sub (ws' := []) [] rfl
  refine va_calli (va_runS (As := [.int (nI i)]) (rest := [.int ((1 <<< ((nI i) &&& 31)) ||| (1 <<< ((nI j) &&& 31))), .ref wt]) ⟨hx, hb, hml, hown, hts⟩ (mz_g_bit l dC dI cI cJ cZ (nI i) H ) (va_cwS 1 hts gX7_otherwise_X7_bit rfl rfl rfl (by decide +kernel) ⟨Nat.le_of_ble_eq_true rfl, Nat.le_of_ble_eq_true rfl⟩) ⟨fun a U g mk q => mz_blP q, fun U hU hW => ⟨rfl, hU, hPc, va_K.moved hW.alike hK, mz_nw hW hN⟩⟩ rfl rfl hl.1 rfl (lv_room (Nat.le_of_ble_eq_true rfl)) dX7_otherwise_211 ⟨Nat.le_of_ble_eq_true rfl, Nat.le_of_ble_eq_true rfl⟩) hS (fun q _ h => h.elim) (fun q h => h.elim) (fun r_211 u t H1 locs ht hvm hw_211 hB hz1 hk1 hS => ?_)
  have hE : H = H1 := hB.symm.trans ht
  subst hE
  obtain rfl : r_211 = (1 <<< ((nI i) &&& 31)) := hw_211
  refine lv_iload_n hx hb dX7_otherwise_214 rfl (lv_at hl 4 rfl) ?_
  have hPc := hP.sub (ws' := []) [] rfl
  refine va_calli (va_runS (As := [.int (nI j)]) (rest := [.int (1 <<< ((nI i) &&& 31)), .int ((1 <<< ((nI i) &&& 31)) ||| (1 <<< ((nI j) &&& 31))), .ref wt]) ⟨hx, hb, hml, hown, hts⟩ (mz_g_bit l dC dI cI cJ cZ (nI j) H ) (va_cwS 1 hts gX7_otherwise_X7_bit rfl rfl rfl (by decide +kernel) ⟨Nat.le_of_ble_eq_true rfl, Nat.le_of_ble_eq_true rfl⟩) ⟨fun a U g mk q => mz_blP q, fun U hU hW => ⟨rfl, hU, hPc, va_K.moved hW.alike hK, mz_nw hW hN⟩⟩ rfl rfl hl.1 rfl (lv_room (Nat.le_of_ble_eq_true rfl)) dX7_otherwise_215 ⟨Nat.le_of_ble_eq_true rfl, Nat.le_of_ble_eq_true rfl⟩) hS (fun q _ h => h.elim) (fun q h => h.elim) (fun r_215 u t H1 locs ht hvm hw_215 hB hz1 hk1 hS => ?_)
  have hE : H = H1 := hB.symm.trans ht
  subst hE
  obtain rfl : r_215 = (1 <<< ((nI j) &&& 31)) := hw_215
  refine lv_ior hx hb dX7_otherwise_218 ?_
  have hPc := hP.sub (ws' := [(wt, .inr (6, [.ref wo, .int (nI ((2 ^ n - 1)))])), (wo, .inl (cJ, 256, .inr (.inl gw_109)))]) [1, 2] rfl
  refine va_calll (va_runV (As := [.int ((1 <<< ((nI i) &&& 31)) ||| (1 <<< ((nI j) &&& 31))), .int ((1 <<< ((nI i) &&& 31)) ||| (1 <<< ((nI j) &&& 31)))]) (rest := []) ⟨hx, hb, hml, hown, hts⟩ (mz_k_having l dC dI cI cJ cZ wt wo (2 ^ n - 1) gw_109 ((1 <<< ((nI i) &&& 31)) ||| (1 <<< ((nI j) &&& 31))) ((1 <<< ((nI i) &&& 31)) ||| (1 <<< ((nI j) &&& 31))) H (by have := mz_2n hn; omega)) (cwV 2 hts gX7_otherwise_X6_having rfl rfl rfl (by decide +kernel) ⟨Nat.le_of_ble_eq_true rfl, Nat.le_of_ble_eq_true rfl⟩) ⟨fun a U g mk q => mz_blP q, va_recv hK hPc (ci := 6) (q0 := 0) rfl rfl, fun U hU hW => ⟨rfl, hU, hPc, va_K.moved hW.alike hK, mz_nw hW hN⟩⟩ rfl rfl hl.1 rfl (lv_room (Nat.le_of_ble_eq_true rfl)) dX7_otherwise_219 ⟨Nat.le_of_ble_eq_true rfl, Nat.le_of_ble_eq_true rfl⟩) hS (fun q _ h => h.elim) (fun q h => h.elim) (fun r_219 u t H1 locs ht hvm hw_219 hB hz1 hk1 hS => ?_)
  have hE : H = H1 := hB.symm.trans ht
  subst hE
  obtain rfl : r_219 = (mz_hv (nI (2 ^ n - 1)) gw_109 ((1 <<< ((nI i) &&& 31)) ||| (1 <<< ((nI j) &&& 31))) ((1 <<< ((nI i) &&& 31)) ||| (1 <<< ((nI j) &&& 31)))) := hw_219
  have hP9 := hP.sub (ws' := [(mx, .inr (7, [.ref dr, .ref th, .ref bk, .ref wt, .ref tt, .ref lh, .ref la, .int sh, .long ab, .long be])), (dr, .inr (2, [.ref dp, .ref dc, .int (nI n)])), (dp, .inl (cI, 8, .inl fp)), (bk, .inr (1, [.ref bp])), (bp, .inl (cI, 1024, .inl fb)), (wt, .inr (6, [.ref wo, .int (nI ((2 ^ n - 1)))])), (wo, .inl (cJ, 256, .inr (.inl gw_109)))]) [0, 3, 4, 5, 6, 1, 2] rfl
  have hD9 := hD.sub (ws' := [(mx, .inr (7, [.ref dr, .ref th, .ref bk, .ref wt, .ref tt, .ref lh, .ref la, .int sh, .long ab, .long be])), (dr, .inr (2, [.ref dp, .ref dc, .int (nI n)])), (dp, .inl (cI, 8, .inl fp)), (bk, .inr (1, [.ref bp])), (bp, .inl (cI, 1024, .inl fb)), (wt, .inr (6, [.ref wo, .int (nI ((2 ^ n - 1)))])), (wo, .inl (cJ, 256, .inr (.inl gw_109)))]) [0, 3, 4, 5, 6, 1, 2] (by decide) rfl
  refine W.widen (k := 0) (n := 0) (Nat.le_of_ble_eq_true rfl) (Nat.le_of_ble_eq_true rfl) ?_
  exact W.lret (v := (mz_hv (nI (2 ^ n - 1)) gw_109 ((1 <<< ((nI i) &&& 31)) ||| (1 <<< ((nI j) &&& 31))) ((1 <<< ((nI i) &&& 31)) ||| (1 <<< ((nI j) &&& 31))))) hx hb hr (fun t ht hW => ⟨⟨(mz_hv (nI (2 ^ n - 1)) gw_109 ((1 <<< ((nI i) &&& 31)) ||| (1 <<< ((nI j) &&& 31))) ((1 <<< ((nI i) &&& 31)) ||| (1 <<< ((nI j) &&& 31)))), (), rfl, (by rw [mz_ow4 hs_0 hs_1 hs_2 hs_3, mz_hv_w2 hn (mz_hp_or (mz_hp_bi hi hn) (mz_hp_bi hj hn)) (mz_in_s _) hx0_109]), (nI ((2 ^ n - 1))), gw_109, by rw [ht]; exact hP9, hD9⟩, hS.F ht⟩) hS.2.2 dX7_otherwise_222
set_option maxHeartbeats 1000000 in
set_option maxRecDepth 100000 in
theorem mz_q_x_areTwo_any (l : Launch) (dC : Nat → ClassId) (dI : Nat → Nat → Nat) (cI cJ cZ : ClassId) (mx : Nat) (dr : Nat) (th : Nat) (bk : Nat) (wt : Nat) (tt : Nat) (lh : Nat) (la : Nat) (sh : Int32) (ab : Int64) (be : Int64) (dp : Nat) (dc : Nat) (n : Nat) (p0 : Int32) (p1 : Int32) (Hq : Heap) (hn : n ≤ 8) : Met l yX7_areTwo wsX7_areTwo ({ frames := 1, cells := 0, slots := 0, locals := 21 }) (va_Pc [.ref mx, .int p0, .int p1] (fun U => U.heap = Hq ∧ va_P (dC, dI) vwCl [(mx, .inr (7, [.ref dr, .ref th, .ref bk, .ref wt, .ref tt, .ref lh, .ref la, .int sh, .long ab, .long be])), (dr, .inr (2, [.ref dp, .ref dc, .int (nI n)]))] Hq ∧ va_K (dC, dI) vwCl [(cI, FieldType.int), (cJ, FieldType.long), (cZ, FieldType.boolean)] U ∧ mz_N U)) (va_Qi (fun (r : Int32) (_ : Unit) => (r = 1 ∧ ∃ i j : Nat, i < n ∧ j < n ∧ (¬ i = j) ∧ p0 = nI i ∧ p1 = nI j) ∨ r = 0) (fun _ t => t.heap = Hq) (fun _ : Nat => False)) 0 0 (fun _ : Nat => False) := by
  refine Met.ofW (cc := cX7_areTwo) (maxL := 3) (ret := (some .boolean)) (by decide) rfl ?_
  intro p e s m args below meth c s₁ B hml hv
  obtain ⟨rfl, hH, hP, hK, hN⟩ := hv
  subst hH
  have hx := B.exec
  have hb := B.bytes
  have hr := B.returns
  have hts := atoms_spec (ws := wsX7_areTwo) B.pre
  have hown : s.vm.findClass RX7 = some m.cls := findClass_of_methodNamed B.named
  have hlocks := B.notSynchronized
  have hS : va_S (fun _ : Nat => False) s.heap s.heap [] := va_S.rf
  have hiX7 : ∀ w ∈ u_ws RX7 TX7 10, w ∈ wsX7_areTwo := by decide +kernel
  have hl := lv_entry ([.ref mx, .int p0, .int p1]) (n := 3) (Nat.le_of_ble_eq_true rfl)
  rw [lg_entry_eq]
  generalize (lg_sl ([.ref mx, .int p0, .int p1]) ++ List.replicate (3 - (lg_sl ([.ref mx, .int p0, .int p1])).length) Slot.unset).toArray = ls at hl ⊢
  have hl : lv_has ls 3 [(0, .ref mx), (1, .int p0), (2, .int p1)] := hl
  refine lv_aload_n hx hb dX7_areTwo_0 rfl (lv_at hl 0 rfl) ?_
  refine va_get (D := (dC, dI)) (ci := 7) (v := .ref dr) (C := RX7) (T := TX7) (N := 10) hx hb hts hiX7 hown hK hP 0 rfl rfl 0 (by decide) (hts (.fieldLink RX7 12 "MadeItSo" "drawing" "LMadeItSo$Drawing;") (by decide +kernel)) (fun _ h9 => h9) rfl dX7_areTwo_1 ?_
  refine lv_iload_n hx hb dX7_areTwo_4 rfl (lv_at hl 1 rfl) ?_
  have hPc := hP.sub (ws' := [(dr, .inr (2, [.ref dp, .ref dc, .int (nI n)]))]) [1] rfl
  refine va_calli (va_runV (As := [.int p0]) (rest := []) ⟨hx, hb, hml, hown, hts⟩ (mz_d_has l dC dI cI cJ cZ dr dp dc n p0 s.heap (by first | assumption | omega)) (cwV 1 hts gX7_areTwo_X2_has rfl rfl rfl (by decide +kernel) ⟨Nat.le_of_ble_eq_true rfl, Nat.le_of_ble_eq_true rfl⟩) ⟨fun a U g mk q => mz_blP q, va_recv hK hPc (ci := 2) (q0 := 0) rfl rfl, fun U hU hW => ⟨rfl, hU, hPc, va_K.moved hW.alike hK, mz_nw hW hN⟩⟩ rfl rfl hl.1 rfl (lv_room (Nat.le_of_ble_eq_true rfl)) dX7_areTwo_5 ⟨Nat.le_of_ble_eq_true rfl, Nat.le_of_ble_eq_true rfl⟩) hS (fun q _ h => h.elim) (fun q h => h.elim) (fun r_5 u t H1 locs ht hvm hw_5 hB hz1 hk1 hS => ?_)
  have hE : s.heap = H1 := hB.symm.trans ht
  subst hE
  rcases (show (r_5 = 1 ∧ ∃ j : Nat, j < n ∧ p0 = nI j) ∨ r_5 = 0 from hw_5) with ⟨rfl, j_5, hj_5, he_5⟩ | rfl
  · skip
    subst he_5
    refine lv_if_eq (tgt := 31) hx hb dX7_areTwo_8 (by decide) (fun c_8 => absurd c_8 (by decide +kernel)) (fun _ => ?_)
    refine lv_aload_n hx hb dX7_areTwo_11 rfl (lv_at hl 0 rfl) ?_
    refine va_get (D := (dC, dI)) (ci := 7) (v := .ref dr) (C := RX7) (T := TX7) (N := 10) hx hb hts hiX7 hown hK hP 0 rfl rfl 0 (by decide) (hts (.fieldLink RX7 12 "MadeItSo" "drawing" "LMadeItSo$Drawing;") (by decide +kernel)) (fun _ h9 => h9) rfl dX7_areTwo_12 ?_
    refine lv_iload_n hx hb dX7_areTwo_15 rfl (lv_at hl 2 rfl) ?_
    have hPc := hP.sub (ws' := [(dr, .inr (2, [.ref dp, .ref dc, .int (nI n)]))]) [1] rfl
    refine va_calli (va_runV (As := [.int p1]) (rest := []) ⟨hx, hb, hml, hown, hts⟩ (mz_d_has l dC dI cI cJ cZ dr dp dc n p1 s.heap (by first | assumption | omega)) (cwV 1 hts gX7_areTwo_X2_has rfl rfl rfl (by decide +kernel) ⟨Nat.le_of_ble_eq_true rfl, Nat.le_of_ble_eq_true rfl⟩) ⟨fun a U g mk q => mz_blP q, va_recv hK hPc (ci := 2) (q0 := 0) rfl rfl, fun U hU hW => ⟨rfl, hU, hPc, va_K.moved hW.alike hK, mz_nw hW hN⟩⟩ rfl rfl hl.1 rfl (lv_room (Nat.le_of_ble_eq_true rfl)) dX7_areTwo_16 ⟨Nat.le_of_ble_eq_true rfl, Nat.le_of_ble_eq_true rfl⟩) hS (fun q _ h => h.elim) (fun q h => h.elim) (fun r_16 u t H1 locs ht hvm hw_16 hB hz1 hk1 hS => ?_)
    have hE : s.heap = H1 := hB.symm.trans ht
    subst hE
    rcases (show (r_16 = 1 ∧ ∃ j : Nat, j < n ∧ p1 = nI j) ∨ r_16 = 0 from hw_16) with ⟨rfl, j_16, hj_16, he_16⟩ | rfl
    · skip
      subst he_16
      refine lv_if_eq (tgt := 31) hx hb dX7_areTwo_19 (by decide) (fun c_19 => absurd c_19 (by decide +kernel)) (fun _ => ?_)
      refine lv_iload_n hx hb dX7_areTwo_22 rfl (lv_at hl 1 rfl) ?_
      refine lv_iload_n hx hb dX7_areTwo_23 rfl (lv_at hl 2 rfl) ?_
      refine lv_icmp_eq (tgt := 31) hx hb dX7_areTwo_24 (by decide) (fun c_24 => ?_) (fun c_24 => ?_)
      · skip
        have d_24 : j_5 = j_16 := (nI_eq (a := j_5) (b := j_16) (by omega) (by omega)).mp c_24
        refine lv_iconst (v := 0) hx hb dX7_areTwo_31 (by decide +kernel) ?_
        refine W.widen (k := 0) (n := 0) (Nat.le_of_ble_eq_true rfl) (Nat.le_of_ble_eq_true rfl) ?_
        exact W.zret (v := 0) hx hb hr (mz_nz (by decide +kernel)) (fun t ht hW => ⟨⟨0, (), rfl, Or.inr rfl, ht⟩, hS.F ht⟩) hS.2.2 dX7_areTwo_32
      · skip
        have d_24 : ¬ j_5 = j_16 := fun h => c_24 ((nI_eq (a := j_5) (b := j_16) (by omega) (by omega)).mpr h)
        refine lv_iconst (v := 1) hx hb dX7_areTwo_27 (by decide +kernel) ?_
        refine lv_goto (tgt := 32) hx hb dX7_areTwo_28 (by decide) ?_
        refine W.widen (k := 0) (n := 0) (Nat.le_of_ble_eq_true rfl) (Nat.le_of_ble_eq_true rfl) ?_
        exact W.zret (v := 1) hx hb hr (mz_nz (by decide +kernel)) (fun t ht hW => ⟨⟨1, (), rfl, Or.inl ⟨rfl, j_5, j_16, hj_5, hj_16, (fun e => c_24 (by rw [e])), rfl, rfl⟩, ht⟩, hS.F ht⟩) hS.2.2 dX7_areTwo_32
    · skip
      refine lv_if_eq (tgt := 31) hx hb dX7_areTwo_19 (by decide) (fun _ => ?_) (fun c_19 => absurd (by decide +kernel) c_19)
      refine lv_iconst (v := 0) hx hb dX7_areTwo_31 (by decide +kernel) ?_
      refine W.widen (k := 0) (n := 0) (Nat.le_of_ble_eq_true rfl) (Nat.le_of_ble_eq_true rfl) ?_
      exact W.zret (v := 0) hx hb hr (mz_nz (by decide +kernel)) (fun t ht hW => ⟨⟨0, (), rfl, Or.inr rfl, ht⟩, hS.F ht⟩) hS.2.2 dX7_areTwo_32
  · skip
    refine lv_if_eq (tgt := 31) hx hb dX7_areTwo_8 (by decide) (fun _ => ?_) (fun c_8 => absurd (by decide +kernel) c_8)
    refine lv_iconst (v := 0) hx hb dX7_areTwo_31 (by decide +kernel) ?_
    refine W.widen (k := 0) (n := 0) (Nat.le_of_ble_eq_true rfl) (Nat.le_of_ble_eq_true rfl) ?_
    exact W.zret (v := 0) hx hb hr (mz_nz (by decide +kernel)) (fun t ht hW => ⟨⟨0, (), rfl, Or.inr rfl, ht⟩, hS.F ht⟩) hS.2.2 dX7_areTwo_32
set_option maxHeartbeats 1000000 in
set_option maxRecDepth 100000 in
theorem mz_q_x_otherwise_out (l : Launch) (dC : Nat → ClassId) (dI : Nat → Nat → Nat) (cI cJ cZ : ClassId) (mx : Nat) (dr : Nat) (th : Nat) (bk : Nat) (wt : Nat) (tt : Nat) (lh : Nat) (la : Nat) (sh : Int32) (ab : Int64) (be : Int64) (dp : Nat) (dc : Nat) (n : Nat) (p1 : Int32) (p2 : Int32) (p3 : Int32) (Hq : Heap) (hn : n ≤ 8) (hno : ¬ ∃ i j : Nat, i < n ∧ j < n ∧ (¬ i = j) ∧ (¬ p3 < 0) ∧ p3 ≤ 4 ∧ p1 = nI i ∧ p2 = nI j) : Met l yX7_otherwise wsX7_otherwise ({ frames := 2, cells := 0, slots := 0, locals := 43 }) (va_Pc [.ref mx, .int p1, .int p2, .int p3] (fun U => U.heap = Hq ∧ va_P (dC, dI) vwCl [(mx, .inr (7, [.ref dr, .ref th, .ref bk, .ref wt, .ref tt, .ref lh, .ref la, .int sh, .long ab, .long be])), (dr, .inr (2, [.ref dp, .ref dc, .int (nI n)]))] Hq ∧ va_K (dC, dI) vwCl [(cI, FieldType.int), (cJ, FieldType.long), (cZ, FieldType.boolean)] U ∧ mz_N U)) (va_Ql (fun (r : Int64) (_ : Unit) => r = (-1)) (fun _ t => t.heap = Hq) (fun _ : Nat => False)) 0 0 (fun _ : Nat => False) := by
  refine Met.ofW (cc := cX7_otherwise) (maxL := 8) (ret := (some .long)) (by decide) rfl ?_
  intro p e s m args below meth c s₁ B hml hv
  obtain ⟨rfl, hH, hP, hK, hN⟩ := hv
  subst hH
  have hx := B.exec
  have hb := B.bytes
  have hr := B.returns
  have hts := atoms_spec (ws := wsX7_otherwise) B.pre
  have hown : s.vm.findClass RX7 = some m.cls := findClass_of_methodNamed B.named
  have hlocks := B.notSynchronized
  have hS : va_S (fun _ : Nat => False) s.heap s.heap [] := va_S.rf
  have hl := lv_entry ([.ref mx, .int p1, .int p2, .int p3]) (n := 8) (Nat.le_of_ble_eq_true rfl)
  rw [lg_entry_eq]
  generalize (lg_sl ([.ref mx, .int p1, .int p2, .int p3]) ++ List.replicate (8 - (lg_sl ([.ref mx, .int p1, .int p2, .int p3])).length) Slot.unset).toArray = ls at hl ⊢
  have hl : lv_has ls 8 [(0, .ref mx), (1, .int p1), (2, .int p2), (3, .int p3)] := hl
  refine lv_aload_n hx hb dX7_otherwise_0 rfl (lv_at hl 0 rfl) ?_
  refine lv_iload_n hx hb dX7_otherwise_1 rfl (lv_at hl 1 rfl) ?_
  refine lv_iload_n hx hb dX7_otherwise_2 rfl (lv_at hl 2 rfl) ?_
  have hPc := hP.sub (ws' := [(mx, .inr (7, [.ref dr, .ref th, .ref bk, .ref wt, .ref tt, .ref lh, .ref la, .int sh, .long ab, .long be])), (dr, .inr (2, [.ref dp, .ref dc, .int (nI n)]))]) [0, 1] rfl
  refine va_calli (va_runV (As := [.int p1, .int p2]) (rest := []) ⟨hx, hb, hml, hown, hts⟩ (mz_q_x_areTwo_any l dC dI cI cJ cZ mx dr th bk wt tt lh la sh ab be dp dc n p1 p2 s.heap (by first | assumption | omega)) (cwV 2 hts gX7_otherwise_X7_areTwo rfl rfl rfl (by decide +kernel) ⟨Nat.le_of_ble_eq_true rfl, Nat.le_of_ble_eq_true rfl⟩) ⟨fun a U g mk q => mz_blP q, va_recv hK hPc (ci := 7) (q0 := 0) rfl rfl, fun U hU hW => ⟨rfl, hU, hPc, va_K.moved hW.alike hK, mz_nw hW hN⟩⟩ rfl rfl hl.1 rfl (lv_room (Nat.le_of_ble_eq_true rfl)) dX7_otherwise_3 ⟨Nat.le_of_ble_eq_true rfl, Nat.le_of_ble_eq_true rfl⟩) hS (fun q _ h => h.elim) (fun q h => h.elim) (fun r_3 u t H1 locs ht hvm hw_3 hB hz1 hk1 hS => ?_)
  have hE : s.heap = H1 := hB.symm.trans ht
  subst hE
  rcases (show (r_3 = 1 ∧ ∃ i j : Nat, i < n ∧ j < n ∧ (¬ i = j) ∧ p1 = nI i ∧ p2 = nI j) ∨ r_3 = 0 from hw_3) with ⟨rfl, hc_3⟩ | rfl
  · skip
    refine lv_if_eq (tgt := 18) hx hb dX7_otherwise_6 (by decide) (fun c_6 => absurd c_6 (by decide +kernel)) (fun _ => ?_)
    refine lv_iload_n hx hb dX7_otherwise_9 rfl (lv_at hl 3 rfl) ?_
    refine lv_if_lt (tgt := 18) hx hb dX7_otherwise_10 (by decide) (fun c_10 => ?_) (fun c_10 => ?_)
    · skip
      refine lv_ldc2 hx hb hown (hts (.constantLong RX7 121 (-1)) (by decide +kernel)) dX7_otherwise_18 ?_
      refine W.widen (k := 0) (n := 0) (Nat.le_of_ble_eq_true rfl) (Nat.le_of_ble_eq_true rfl) ?_
      exact W.lret (v := (-1)) hx hb hr (fun t ht hW => ⟨⟨(-1), (), rfl, rfl, ht⟩, hS.F ht⟩) hS.2.2 dX7_otherwise_21
    · skip
      refine lv_iload_n hx hb dX7_otherwise_13 rfl (lv_at hl 3 rfl) ?_
      refine lv_iconst (v := 4) hx hb dX7_otherwise_14 (by decide +kernel) ?_
      refine lv_icmp_le (tgt := 22) hx hb dX7_otherwise_15 (by decide) (fun c_15 => ?_) (fun c_15 => ?_)
      · skip
        exact absurd (by obtain ⟨i, j, h1, h2, h3, h4, h5⟩ := hc_3; exact ⟨i, j, h1, h2, h3, c_10, c_15, h4, h5⟩) hno
      · skip
        refine lv_ldc2 hx hb hown (hts (.constantLong RX7 121 (-1)) (by decide +kernel)) dX7_otherwise_18 ?_
        refine W.widen (k := 0) (n := 0) (Nat.le_of_ble_eq_true rfl) (Nat.le_of_ble_eq_true rfl) ?_
        exact W.lret (v := (-1)) hx hb hr (fun t ht hW => ⟨⟨(-1), (), rfl, rfl, ht⟩, hS.F ht⟩) hS.2.2 dX7_otherwise_21
  · skip
    refine lv_if_eq (tgt := 18) hx hb dX7_otherwise_6 (by decide) (fun _ => ?_) (fun c_6 => absurd (by decide +kernel) c_6)
    refine lv_ldc2 hx hb hown (hts (.constantLong RX7 121 (-1)) (by decide +kernel)) dX7_otherwise_18 ?_
    refine W.widen (k := 0) (n := 0) (Nat.le_of_ble_eq_true rfl) (Nat.le_of_ble_eq_true rfl) ?_
    exact W.lret (v := (-1)) hx hb hr (fun t ht hW => ⟨⟨(-1), (), rfl, rfl, ht⟩, hS.F ht⟩) hS.2.2 dX7_otherwise_21
set_option maxHeartbeats 1000000 in
set_option maxRecDepth 100000 in
theorem mz_q_m_otherwise (l : Launch) (dC : Nat → ClassId) (dI : Nat → Nat → Nat) (cI cJ cZ : ClassId) (mo : Nat) (m1 : Nat) (m2 : Nat) (m3 : Nat) (m6 : Nat) (m7 : Nat) (m8 : Nat) (m9 : Nat) (m10 : Nat) (m11 : Nat) (m12 : Nat) (m13 : Nat) (m14 : Nat) (m15 : Nat) (m16 : Nat) (n : Nat) (ka : Int64) (kb : Int64) (fp : Nat → Int32) (fb : Nat → Int32) (i : Nat) (j : Nat) (p3 : Int32) (Hq : Heap) (hn : n ≤ 8) (hself : ∀ k, k < n → ∀ on, mz_rw (fp k) on 8 < 128) (hgb : ∀ k, k < n → ∀ j, j < 32 → mz_t (fp k) j = true → j < n) (hi : i < n) (hj : j < n) (hne : ¬ i = j) (hw0 : ¬ p3 < 0) (hw4 : p3 ≤ 4) : Met l yX8_otherwise wsX8_otherwise ({ frames := 3, cells := 0, slots := 0, locals := 76 }) (va_Pc [.ref mo, .int (nI i), .int (nI j), .int p3] (fun U => U.heap = Hq ∧ va_P (dC, dI) vwCl [(mo, .inr (8, [.int (nI n), .ref m1, .ref m2, .ref m3, .long ka, .long kb, .ref m6, .ref m7, .ref m8, .ref m9, .ref m10, .ref m11, .ref m12, .ref m13, .ref m14, .ref m15, .ref m16])), (m2, .inl (cI, 8, .inl fp)), (m3, .inl (cI, 1024, .inl fb))] Hq ∧ va_K (dC, dI) vwCl [(cI, FieldType.int), (cJ, FieldType.long), (cZ, FieldType.boolean)] U ∧ mz_N U)) (va_Ql (fun (r : Int64) (_ : Unit) => r = (mz_ow (mz_cs (mz_wt n fp fb (mz_so i 1)) (1 <<< ((nI j) &&& 31)) (1 <<< ((nI j) &&& 31)) n) (mz_cs (mz_wt n fp fb (mz_so i 0)) (1 <<< ((nI j) &&& 31)) (1 <<< ((nI j) &&& 31)) n) (mz_cs (mz_wt n fp fb 0) (1 <<< ((nI j) &&& 31)) (1 <<< ((nI j) &&& 31)) n) (mz_cs (mz_wt n fp fb 0) ((1 <<< ((nI i) &&& 31)) ||| (1 <<< ((nI j) &&& 31))) ((1 <<< ((nI i) &&& 31)) ||| (1 <<< ((nI j) &&& 31))) n) (mz_cs (mz_wt n fp fb 0) ((1 <<< ((nI i) &&& 31)) ||| (1 <<< ((nI j) &&& 31))) (1 <<< ((nI i) &&& 31)) n) (mz_cs (mz_wt n fp fb 0) ((1 <<< ((nI i) &&& 31)) ||| (1 <<< ((nI j) &&& 31))) (1 <<< ((nI j) &&& 31)) n) (mz_cs (mz_wt n fp fb 0) ((1 <<< ((nI i) &&& 31)) ||| (1 <<< ((nI j) &&& 31))) 0 n) (lN (100 ^ n)) p3)) (fun _ t => t.heap = Hq) (fun _ : Nat => False)) 0 0 (fun _ : Nat => False) := by
  refine Met.ofW (cc := cX8_otherwise) (maxL := 20) (ret := (some .long)) (by decide) rfl ?_
  intro p e s m args below meth c s₁ B hml hv
  obtain ⟨rfl, hH, hP, hK, hN⟩ := hv
  subst hH
  have hx := B.exec
  have hb := B.bytes
  have hr := B.returns
  have hts := atoms_spec (ws := wsX8_otherwise) B.pre
  have hown : s.vm.findClass RX8 = some m.cls := findClass_of_methodNamed B.named
  have hlocks := B.notSynchronized
  have hS : va_S (fun _ : Nat => False) s.heap s.heap [] := va_S.rf
  have hiX8 : ∀ w ∈ u_ws RX8 TX8 17, w ∈ wsX8_otherwise := by decide +kernel
  have hl := lv_entry ([.ref mo, .int (nI i), .int (nI j), .int p3]) (n := 20) (Nat.le_of_ble_eq_true rfl)
  rw [lg_entry_eq]
  generalize (lg_sl ([.ref mo, .int (nI i), .int (nI j), .int p3]) ++ List.replicate (20 - (lg_sl ([.ref mo, .int (nI i), .int (nI j), .int p3])).length) Slot.unset).toArray = ls at hl ⊢
  have hl : lv_has ls 20 [(0, .ref mo), (1, .int (nI i)), (2, .int (nI j)), (3, .int p3)] := hl
  refine lv_aload_n hx hb dX8_otherwise_0 rfl (lv_at hl 0 rfl) ?_
  refine lv_iload_n hx hb dX8_otherwise_1 rfl (lv_at hl 1 rfl) ?_
  have hPc := hP.sub (ws' := [(mo, .inr (8, [.int (nI n), .ref m1, .ref m2, .ref m3, .long ka, .long kb, .ref m6, .ref m7, .ref m8, .ref m9, .ref m10, .ref m11, .ref m12, .ref m13, .ref m14, .ref m15, .ref m16]))]) [0] rfl
  refine va_calli (va_runV (As := [.int (nI i)]) (rest := []) ⟨hx, hb, hml, hown, hts⟩ (mz_m_isThing_in l dC dI cI cJ cZ mo m1 m2 m3 m6 m7 m8 m9 m10 m11 m12 m13 m14 m15 m16 n ka kb i s.heap (by first | assumption | omega) (by first | assumption | omega)) (cwV 1 hts gX8_otherwise_X8_isThing rfl rfl rfl (by decide +kernel) ⟨Nat.le_of_ble_eq_true rfl, Nat.le_of_ble_eq_true rfl⟩) ⟨fun a U g mk q => mz_blP q, va_recv hK hPc (ci := 8) (q0 := 0) rfl rfl, fun U hU hW => ⟨rfl, hU, hPc, va_K.moved hW.alike hK, mz_nw hW hN⟩⟩ rfl rfl hl.1 rfl (lv_room (Nat.le_of_ble_eq_true rfl)) dX8_otherwise_2 ⟨Nat.le_of_ble_eq_true rfl, Nat.le_of_ble_eq_true rfl⟩) hS (fun q _ h => h.elim) (fun q h => h.elim) (fun r_2 u t H1 locs ht hvm hw_2 hB hz1 hk1 hS => ?_)
  have hE : s.heap = H1 := hB.symm.trans ht
  subst hE
  obtain rfl : r_2 = 1 := hw_2
  refine lv_if_eq (tgt := 30) hx hb dX8_otherwise_5 (by decide) (fun c_5 => absurd c_5 (by decide +kernel)) (fun _ => ?_)
  refine lv_aload_n hx hb dX8_otherwise_8 rfl (lv_at hl 0 rfl) ?_
  refine lv_iload_n hx hb dX8_otherwise_9 rfl (lv_at hl 2 rfl) ?_
  have hPc := hP.sub (ws' := [(mo, .inr (8, [.int (nI n), .ref m1, .ref m2, .ref m3, .long ka, .long kb, .ref m6, .ref m7, .ref m8, .ref m9, .ref m10, .ref m11, .ref m12, .ref m13, .ref m14, .ref m15, .ref m16]))]) [0] rfl
  refine va_calli (va_runV (As := [.int (nI j)]) (rest := []) ⟨hx, hb, hml, hown, hts⟩ (mz_m_isThing_in l dC dI cI cJ cZ mo m1 m2 m3 m6 m7 m8 m9 m10 m11 m12 m13 m14 m15 m16 n ka kb j s.heap (by first | assumption | omega) (by first | assumption | omega)) (cwV 1 hts gX8_otherwise_X8_isThing rfl rfl rfl (by decide +kernel) ⟨Nat.le_of_ble_eq_true rfl, Nat.le_of_ble_eq_true rfl⟩) ⟨fun a U g mk q => mz_blP q, va_recv hK hPc (ci := 8) (q0 := 0) rfl rfl, fun U hU hW => ⟨rfl, hU, hPc, va_K.moved hW.alike hK, mz_nw hW hN⟩⟩ rfl rfl hl.1 rfl (lv_room (Nat.le_of_ble_eq_true rfl)) dX8_otherwise_10 ⟨Nat.le_of_ble_eq_true rfl, Nat.le_of_ble_eq_true rfl⟩) hS (fun q _ h => h.elim) (fun q h => h.elim) (fun r_10 u t H1 locs ht hvm hw_10 hB hz1 hk1 hS => ?_)
  have hE : s.heap = H1 := hB.symm.trans ht
  subst hE
  obtain rfl : r_10 = 1 := hw_10
  refine lv_if_eq (tgt := 30) hx hb dX8_otherwise_13 (by decide) (fun c_13 => absurd c_13 (by decide +kernel)) (fun _ => ?_)
  refine lv_iload_n hx hb dX8_otherwise_16 rfl (lv_at hl 1 rfl) ?_
  refine lv_iload_n hx hb dX8_otherwise_17 rfl (lv_at hl 2 rfl) ?_
  refine lv_icmp_eq (tgt := 30) hx hb dX8_otherwise_18 (by decide) (fun c_18 => absurd c_18 (fun h => hne ((nI_eq (by omega) (by omega)).mp h))) (fun _ => ?_)
  refine lv_iload_n hx hb dX8_otherwise_21 rfl (lv_at hl 3 rfl) ?_
  refine lv_if_lt (tgt := 30) hx hb dX8_otherwise_22 (by decide) (fun c_22 => absurd c_22 hw0) (fun _ => ?_)
  refine lv_iload_n hx hb dX8_otherwise_25 rfl (lv_at hl 3 rfl) ?_
  refine lv_iconst (v := 4) hx hb dX8_otherwise_26 (by decide +kernel) ?_
  refine lv_icmp_le (tgt := 34) hx hb dX8_otherwise_27 (by decide) (fun _ => ?_) (fun c_27 => absurd hw4 c_27)
  refine lv_lconst (v := 1) hx hb dX8_otherwise_34 (by decide +kernel) ?_
  refine lv_lstore (lv' := [(4, .long 1), (0, .ref mo), (1, .int (nI i)), (2, .int (nI j)), (3, .int p3)]) hx hb dX8_otherwise_35 hl (by decide) rfl (fun ls hl => ?_)
  refine lv_iconst (v := 0) hx hb dX8_otherwise_37 (by decide +kernel) ?_
  refine lv_istore (lv' := [(6, .int 0), (4, .long 1), (0, .ref mo), (1, .int (nI i)), (2, .int (nI j)), (3, .int p3)]) hx hb dX8_otherwise_38 hl (by decide) rfl (fun ls hl => ?_)
  refine mz_loopU (fun k H locs ls => ∃ (i_40 : Nat), ∃ (x4_40 : Int64), i_40 ≤ n ∧ (x4_40 = lN (100 ^ i_40)) ∧ H = s.heap ∧ va_S (fun _ : Nat => False) s.heap H locs ∧ lv_has ls 20 [(6, .int (nI i_40)), (4, .long x4_40), (0, .ref mo), (1, .int (nI i)), (2, .int (nI j)), (3, .int p3)] ∧ k = n - i_40) ?_ _ _ _ _ ⟨0, 1, by omega, rfl, rfl, hS, lv_sub hl [0, 1, 2, 3, 4, 5] rfl, rfl⟩
  intro k_40 H locs ls hI_40 ih_40
  obtain ⟨i_40, x4_40, hi_40, hl_40, hH_40, hS, hl, hk_40⟩ := hI_40
  subst hH_40
  refine lv_iload hx hb dX8_otherwise_40 (lv_at hl 0 rfl) ?_
  refine lv_aload_n hx hb dX8_otherwise_42 rfl (lv_at hl 2 rfl) ?_
  refine va_get (D := (dC, dI)) (ci := 8) (v := .int (nI n)) (C := RX8) (T := TX8) (N := 17) hx hb hts hiX8 hown hK hP 0 rfl rfl 0 (by decide) (hts (.fieldLink RX8 58 "MadeItSoModel" "many" "I") (by decide +kernel)) (fun _ h9 => h9) rfl dX8_otherwise_43 ?_
  refine lv_icmp_ge (tgt := 63) hx hb dX8_otherwise_46 (by decide) (fun c_46 => ?_) (fun c_46 => ?_)
  · skip
    have d_46 : n ≤ i_40 := (nI_leI (a := n) (b := i_40) (by omega) (by omega)).mp c_46
    refine lv_aload_n hx hb dX8_otherwise_63 rfl (lv_at hl 2 rfl) ?_
    refine lv_iconst (v := 0) hx hb dX8_otherwise_64 (by decide +kernel) ?_
    refine lv_iload_n hx hb dX8_otherwise_65 rfl (lv_at hl 4 rfl) ?_
    refine lv_iconst (v := 1) hx hb dX8_otherwise_66 (by decide +kernel) ?_
    have hPc := hP.sub (ws' := []) [] rfl
    refine va_calli (va_runS (As := [.int 0, .int (nI j), .int 1]) (rest := [.ref mo]) ⟨hx, hb, hml, hown, hts⟩ (mz_q_withOne0 l dC dI cI cJ cZ j 1 s.heap ) (va_cwS 3 hts gX8_otherwise_X8_withOne rfl rfl rfl (by decide +kernel) ⟨Nat.le_of_ble_eq_true rfl, Nat.le_of_ble_eq_true rfl⟩) ⟨fun a U g mk q => mz_blP q, fun U hU hW => ⟨rfl, hU, hPc, va_K.moved hW.alike hK, mz_nw hW hN⟩⟩ rfl rfl hl.1 rfl (lv_room (Nat.le_of_ble_eq_true rfl)) dX8_otherwise_67 ⟨Nat.le_of_ble_eq_true rfl, Nat.le_of_ble_eq_true rfl⟩) hS (fun q _ h => h.elim) (fun q h => h.elim) (fun r_67 u t H1 locs ht hvm hw_67 hB hz1 hk1 hS => ?_)
    have hE : s.heap = H1 := hB.symm.trans ht
    subst hE
    obtain rfl : r_67 = (mz_so j (1 : Int32)) := hw_67
    refine lv_iconst (v := 0) hx hb dX8_otherwise_70 (by decide +kernel) ?_
    refine lv_iload_n hx hb dX8_otherwise_71 rfl (lv_at hl 3 rfl) ?_
    refine lv_iconst (v := 1) hx hb dX8_otherwise_72 (by decide +kernel) ?_
    have hPc := hP.sub (ws' := []) [] rfl
    refine va_calli (va_runS (As := [.int 0, .int (nI i), .int 1]) (rest := [.int (mz_so j 1), .ref mo]) ⟨hx, hb, hml, hown, hts⟩ (mz_q_withOne0 l dC dI cI cJ cZ i 1 s.heap ) (va_cwS 3 hts gX8_otherwise_X8_withOne rfl rfl rfl (by decide +kernel) ⟨Nat.le_of_ble_eq_true rfl, Nat.le_of_ble_eq_true rfl⟩) ⟨fun a U g mk q => mz_blP q, fun U hU hW => ⟨rfl, hU, hPc, va_K.moved hW.alike hK, mz_nw hW hN⟩⟩ rfl rfl hl.1 rfl (lv_room (Nat.le_of_ble_eq_true rfl)) dX8_otherwise_73 ⟨Nat.le_of_ble_eq_true rfl, Nat.le_of_ble_eq_true rfl⟩) hS (fun q _ h => h.elim) (fun q h => h.elim) (fun r_73 u t H1 locs ht hvm hw_73 hB hz1 hk1 hS => ?_)
    have hE : s.heap = H1 := hB.symm.trans ht
    subst hE
    obtain rfl : r_73 = (mz_so i (1 : Int32)) := hw_73
    have hPc := hP.sub (ws' := [(mo, .inr (8, [.int (nI n), .ref m1, .ref m2, .ref m3, .long ka, .long kb, .ref m6, .ref m7, .ref m8, .ref m9, .ref m10, .ref m11, .ref m12, .ref m13, .ref m14, .ref m15, .ref m16])), (m2, .inl (cI, 8, .inl fp)), (m3, .inl (cI, 1024, .inl fb))]) [0, 1, 2] rfl
    refine va_calll (va_runV (As := [.int (mz_so j 1), .int (mz_so i 1)]) (rest := []) ⟨hx, hb, hml, hown, hts⟩ (mz_k_m_sum l dC dI cI cJ cZ mo m1 m2 m3 m6 m7 m8 m9 m10 m11 m12 m13 m14 m15 m16 n ka kb fp fb (mz_so j 1) (mz_so i 1) s.heap (by first | assumption | omega) (by first | assumption | omega) (by first | assumption | omega) (mz_so_st hn hj (Or.inr rfl)) (mz_so_st hn hi (Or.inr rfl))) (cwV 2 hts gX8_otherwise_X8_sum rfl rfl rfl (by decide +kernel) ⟨Nat.le_of_ble_eq_true rfl, Nat.le_of_ble_eq_true rfl⟩) ⟨fun a U g mk q => mz_blP q, va_recv hK hPc (ci := 8) (q0 := 0) rfl rfl, fun U hU hW => ⟨rfl, hU, hPc, va_K.moved hW.alike hK, mz_nw hW hN⟩⟩ rfl rfl hl.1 rfl (lv_room (Nat.le_of_ble_eq_true rfl)) dX8_otherwise_76 ⟨Nat.le_of_ble_eq_true rfl, Nat.le_of_ble_eq_true rfl⟩) hS (fun q _ h => h.elim) (fun q h => h.elim) (fun r_76 u t H1 locs ht hvm hw_76 hB hz1 hk1 hS => ?_)
    have hE : s.heap = H1 := hB.symm.trans ht
    subst hE
    obtain rfl : r_76 = (mz_cs (mz_wt n fp fb (mz_so i 1)) ((mz_so j 1) &&& 255) (((mz_so j 1) >>> (8 &&& 31)) &&& 255) n) := hw_76
    refine mz_tl (y := (mz_cs (mz_wt n fp fb (mz_so i 1)) (1 <<< ((nI j) &&& 31)) (1 <<< ((nI j) &&& 31)) n)) (by rw [(mz_so_h j (by omega)).1, (mz_so_h j (by omega)).2]) ?_
    refine lv_lstore (lv' := [(6, .long (mz_cs (mz_wt n fp fb (mz_so i 1)) (1 <<< ((nI j) &&& 31)) (1 <<< ((nI j) &&& 31)) n)), (4, .long x4_40), (0, .ref mo), (1, .int (nI i)), (2, .int (nI j)), (3, .int p3)]) hx hb dX8_otherwise_79 hl (by decide) rfl (fun ls hl => ?_)
    refine lv_aload_n hx hb dX8_otherwise_81 rfl (lv_at hl 2 rfl) ?_
    refine lv_iconst (v := 0) hx hb dX8_otherwise_82 (by decide +kernel) ?_
    refine lv_iload_n hx hb dX8_otherwise_83 rfl (lv_at hl 4 rfl) ?_
    refine lv_iconst (v := 1) hx hb dX8_otherwise_84 (by decide +kernel) ?_
    have hPc := hP.sub (ws' := []) [] rfl
    refine va_calli (va_runS (As := [.int 0, .int (nI j), .int 1]) (rest := [.ref mo]) ⟨hx, hb, hml, hown, hts⟩ (mz_q_withOne0 l dC dI cI cJ cZ j 1 s.heap ) (va_cwS 3 hts gX8_otherwise_X8_withOne rfl rfl rfl (by decide +kernel) ⟨Nat.le_of_ble_eq_true rfl, Nat.le_of_ble_eq_true rfl⟩) ⟨fun a U g mk q => mz_blP q, fun U hU hW => ⟨rfl, hU, hPc, va_K.moved hW.alike hK, mz_nw hW hN⟩⟩ rfl rfl hl.1 rfl (lv_room (Nat.le_of_ble_eq_true rfl)) dX8_otherwise_85 ⟨Nat.le_of_ble_eq_true rfl, Nat.le_of_ble_eq_true rfl⟩) hS (fun q _ h => h.elim) (fun q h => h.elim) (fun r_85 u t H1 locs ht hvm hw_85 hB hz1 hk1 hS => ?_)
    have hE : s.heap = H1 := hB.symm.trans ht
    subst hE
    obtain rfl : r_85 = (mz_so j (1 : Int32)) := hw_85
    refine lv_iconst (v := 0) hx hb dX8_otherwise_88 (by decide +kernel) ?_
    refine lv_iload_n hx hb dX8_otherwise_89 rfl (lv_at hl 3 rfl) ?_
    refine lv_iconst (v := 0) hx hb dX8_otherwise_90 (by decide +kernel) ?_
    have hPc := hP.sub (ws' := []) [] rfl
    refine va_calli (va_runS (As := [.int 0, .int (nI i), .int 0]) (rest := [.int (mz_so j 1), .ref mo]) ⟨hx, hb, hml, hown, hts⟩ (mz_q_withOne0 l dC dI cI cJ cZ i 0 s.heap ) (va_cwS 3 hts gX8_otherwise_X8_withOne rfl rfl rfl (by decide +kernel) ⟨Nat.le_of_ble_eq_true rfl, Nat.le_of_ble_eq_true rfl⟩) ⟨fun a U g mk q => mz_blP q, fun U hU hW => ⟨rfl, hU, hPc, va_K.moved hW.alike hK, mz_nw hW hN⟩⟩ rfl rfl hl.1 rfl (lv_room (Nat.le_of_ble_eq_true rfl)) dX8_otherwise_91 ⟨Nat.le_of_ble_eq_true rfl, Nat.le_of_ble_eq_true rfl⟩) hS (fun q _ h => h.elim) (fun q h => h.elim) (fun r_91 u t H1 locs ht hvm hw_91 hB hz1 hk1 hS => ?_)
    have hE : s.heap = H1 := hB.symm.trans ht
    subst hE
    obtain rfl : r_91 = (mz_so i (0 : Int32)) := hw_91
    have hPc := hP.sub (ws' := [(mo, .inr (8, [.int (nI n), .ref m1, .ref m2, .ref m3, .long ka, .long kb, .ref m6, .ref m7, .ref m8, .ref m9, .ref m10, .ref m11, .ref m12, .ref m13, .ref m14, .ref m15, .ref m16])), (m2, .inl (cI, 8, .inl fp)), (m3, .inl (cI, 1024, .inl fb))]) [0, 1, 2] rfl
    refine va_calll (va_runV (As := [.int (mz_so j 1), .int (mz_so i 0)]) (rest := []) ⟨hx, hb, hml, hown, hts⟩ (mz_k_m_sum l dC dI cI cJ cZ mo m1 m2 m3 m6 m7 m8 m9 m10 m11 m12 m13 m14 m15 m16 n ka kb fp fb (mz_so j 1) (mz_so i 0) s.heap (by first | assumption | omega) (by first | assumption | omega) (by first | assumption | omega) (mz_so_st hn hj (Or.inr rfl)) (mz_so_st hn hi (Or.inl rfl))) (cwV 2 hts gX8_otherwise_X8_sum rfl rfl rfl (by decide +kernel) ⟨Nat.le_of_ble_eq_true rfl, Nat.le_of_ble_eq_true rfl⟩) ⟨fun a U g mk q => mz_blP q, va_recv hK hPc (ci := 8) (q0 := 0) rfl rfl, fun U hU hW => ⟨rfl, hU, hPc, va_K.moved hW.alike hK, mz_nw hW hN⟩⟩ rfl rfl hl.1 rfl (lv_room (Nat.le_of_ble_eq_true rfl)) dX8_otherwise_94 ⟨Nat.le_of_ble_eq_true rfl, Nat.le_of_ble_eq_true rfl⟩) hS (fun q _ h => h.elim) (fun q h => h.elim) (fun r_94 u t H1 locs ht hvm hw_94 hB hz1 hk1 hS => ?_)
    have hE : s.heap = H1 := hB.symm.trans ht
    subst hE
    obtain rfl : r_94 = (mz_cs (mz_wt n fp fb (mz_so i 0)) ((mz_so j 1) &&& 255) (((mz_so j 1) >>> (8 &&& 31)) &&& 255) n) := hw_94
    refine mz_tl (y := (mz_cs (mz_wt n fp fb (mz_so i 0)) (1 <<< ((nI j) &&& 31)) (1 <<< ((nI j) &&& 31)) n)) (by rw [(mz_so_h j (by omega)).1, (mz_so_h j (by omega)).2]) ?_
    refine lv_lstore (lv' := [(8, .long (mz_cs (mz_wt n fp fb (mz_so i 0)) (1 <<< ((nI j) &&& 31)) (1 <<< ((nI j) &&& 31)) n)), (6, .long (mz_cs (mz_wt n fp fb (mz_so i 1)) (1 <<< ((nI j) &&& 31)) (1 <<< ((nI j) &&& 31)) n)), (4, .long x4_40), (0, .ref mo), (1, .int (nI i)), (2, .int (nI j)), (3, .int p3)]) hx hb dX8_otherwise_97 hl (by decide) rfl (fun ls hl => ?_)
    refine lv_aload_n hx hb dX8_otherwise_99 rfl (lv_at hl 3 rfl) ?_
    refine lv_iconst (v := 0) hx hb dX8_otherwise_100 (by decide +kernel) ?_
    refine lv_iload_n hx hb dX8_otherwise_101 rfl (lv_at hl 5 rfl) ?_
    refine lv_iconst (v := 1) hx hb dX8_otherwise_102 (by decide +kernel) ?_
    have hPc := hP.sub (ws' := []) [] rfl
    refine va_calli (va_runS (As := [.int 0, .int (nI j), .int 1]) (rest := [.ref mo]) ⟨hx, hb, hml, hown, hts⟩ (mz_q_withOne0 l dC dI cI cJ cZ j 1 s.heap ) (va_cwS 3 hts gX8_otherwise_X8_withOne rfl rfl rfl (by decide +kernel) ⟨Nat.le_of_ble_eq_true rfl, Nat.le_of_ble_eq_true rfl⟩) ⟨fun a U g mk q => mz_blP q, fun U hU hW => ⟨rfl, hU, hPc, va_K.moved hW.alike hK, mz_nw hW hN⟩⟩ rfl rfl hl.1 rfl (lv_room (Nat.le_of_ble_eq_true rfl)) dX8_otherwise_103 ⟨Nat.le_of_ble_eq_true rfl, Nat.le_of_ble_eq_true rfl⟩) hS (fun q _ h => h.elim) (fun q h => h.elim) (fun r_103 u t H1 locs ht hvm hw_103 hB hz1 hk1 hS => ?_)
    have hE : s.heap = H1 := hB.symm.trans ht
    subst hE
    obtain rfl : r_103 = (mz_so j (1 : Int32)) := hw_103
    refine lv_iconst (v := 0) hx hb dX8_otherwise_106 (by decide +kernel) ?_
    have hPc := hP.sub (ws' := [(mo, .inr (8, [.int (nI n), .ref m1, .ref m2, .ref m3, .long ka, .long kb, .ref m6, .ref m7, .ref m8, .ref m9, .ref m10, .ref m11, .ref m12, .ref m13, .ref m14, .ref m15, .ref m16])), (m2, .inl (cI, 8, .inl fp)), (m3, .inl (cI, 1024, .inl fb))]) [0, 1, 2] rfl
    refine va_calll (va_runV (As := [.int (mz_so j 1), .int 0]) (rest := []) ⟨hx, hb, hml, hown, hts⟩ (mz_k_m_sum l dC dI cI cJ cZ mo m1 m2 m3 m6 m7 m8 m9 m10 m11 m12 m13 m14 m15 m16 n ka kb fp fb (mz_so j 1) 0 s.heap (by first | assumption | omega) (by first | assumption | omega) (by first | assumption | omega) (mz_so_st hn hj (Or.inr rfl)) mz_st_0) (cwV 2 hts gX8_otherwise_X8_sum rfl rfl rfl (by decide +kernel) ⟨Nat.le_of_ble_eq_true rfl, Nat.le_of_ble_eq_true rfl⟩) ⟨fun a U g mk q => mz_blP q, va_recv hK hPc (ci := 8) (q0 := 0) rfl rfl, fun U hU hW => ⟨rfl, hU, hPc, va_K.moved hW.alike hK, mz_nw hW hN⟩⟩ rfl rfl hl.1 rfl (lv_room (Nat.le_of_ble_eq_true rfl)) dX8_otherwise_107 ⟨Nat.le_of_ble_eq_true rfl, Nat.le_of_ble_eq_true rfl⟩) hS (fun q _ h => h.elim) (fun q h => h.elim) (fun r_107 u t H1 locs ht hvm hw_107 hB hz1 hk1 hS => ?_)
    have hE : s.heap = H1 := hB.symm.trans ht
    subst hE
    obtain rfl : r_107 = (mz_cs (mz_wt n fp fb (0 : Int32)) ((mz_so j 1) &&& 255) (((mz_so j 1) >>> (8 &&& 31)) &&& 255) n) := hw_107
    refine mz_tl (y := (mz_cs (mz_wt n fp fb 0) (1 <<< ((nI j) &&& 31)) (1 <<< ((nI j) &&& 31)) n)) (by rw [(mz_so_h j (by omega)).1, (mz_so_h j (by omega)).2]) ?_
    refine lv_lstore (lv' := [(10, .long (mz_cs (mz_wt n fp fb 0) (1 <<< ((nI j) &&& 31)) (1 <<< ((nI j) &&& 31)) n)), (8, .long (mz_cs (mz_wt n fp fb (mz_so i 0)) (1 <<< ((nI j) &&& 31)) (1 <<< ((nI j) &&& 31)) n)), (6, .long (mz_cs (mz_wt n fp fb (mz_so i 1)) (1 <<< ((nI j) &&& 31)) (1 <<< ((nI j) &&& 31)) n)), (4, .long x4_40), (0, .ref mo), (1, .int (nI i)), (2, .int (nI j)), (3, .int p3)]) hx hb dX8_otherwise_110 hl (by decide) rfl (fun ls hl => ?_)
    refine lv_aload_n hx hb dX8_otherwise_112 rfl (lv_at hl 4 rfl) ?_
    refine lv_iconst (v := 0) hx hb dX8_otherwise_113 (by decide +kernel) ?_
    refine lv_iload_n hx hb dX8_otherwise_114 rfl (lv_at hl 5 rfl) ?_
    refine lv_iconst (v := 1) hx hb dX8_otherwise_115 (by decide +kernel) ?_
    have hPc := hP.sub (ws' := []) [] rfl
    refine va_calli (va_runS (As := [.int 0, .int (nI i), .int 1]) (rest := [.ref mo]) ⟨hx, hb, hml, hown, hts⟩ (mz_q_withOne0 l dC dI cI cJ cZ i 1 s.heap ) (va_cwS 3 hts gX8_otherwise_X8_withOne rfl rfl rfl (by decide +kernel) ⟨Nat.le_of_ble_eq_true rfl, Nat.le_of_ble_eq_true rfl⟩) ⟨fun a U g mk q => mz_blP q, fun U hU hW => ⟨rfl, hU, hPc, va_K.moved hW.alike hK, mz_nw hW hN⟩⟩ rfl rfl hl.1 rfl (lv_room (Nat.le_of_ble_eq_true rfl)) dX8_otherwise_116 ⟨Nat.le_of_ble_eq_true rfl, Nat.le_of_ble_eq_true rfl⟩) hS (fun q _ h => h.elim) (fun q h => h.elim) (fun r_116 u t H1 locs ht hvm hw_116 hB hz1 hk1 hS => ?_)
    have hE : s.heap = H1 := hB.symm.trans ht
    subst hE
    obtain rfl : r_116 = (mz_so i (1 : Int32)) := hw_116
    refine lv_iload_n hx hb dX8_otherwise_119 rfl (lv_at hl 6 rfl) ?_
    refine lv_iconst (v := 1) hx hb dX8_otherwise_120 (by decide +kernel) ?_
    have hPc := hP.sub (ws' := []) [] rfl
    refine va_calli (va_runS (As := [.int (mz_so i 1), .int (nI j), .int 1]) (rest := [.ref mo]) ⟨hx, hb, hml, hown, hts⟩ (mz_q_withOne l dC dI cI cJ cZ (mz_so i 1) j 1 s.heap ) (va_cwS 3 hts gX8_otherwise_X8_withOne rfl rfl rfl (by decide +kernel) ⟨Nat.le_of_ble_eq_true rfl, Nat.le_of_ble_eq_true rfl⟩) ⟨fun a U g mk q => mz_blP q, fun U hU hW => ⟨rfl, hU, hPc, va_K.moved hW.alike hK, mz_nw hW hN⟩⟩ rfl rfl hl.1 rfl (lv_room (Nat.le_of_ble_eq_true rfl)) dX8_otherwise_121 ⟨Nat.le_of_ble_eq_true rfl, Nat.le_of_ble_eq_true rfl⟩) hS (fun q _ h => h.elim) (fun q h => h.elim) (fun r_121 u t H1 locs ht hvm hw_121 hB hz1 hk1 hS => ?_)
    have hE : s.heap = H1 := hB.symm.trans ht
    subst hE
    obtain rfl : r_121 = (mz_s2 (mz_so i 1) j (1 : Int32)) := hw_121
    refine lv_iconst (v := 0) hx hb dX8_otherwise_124 (by decide +kernel) ?_
    have hPc := hP.sub (ws' := [(mo, .inr (8, [.int (nI n), .ref m1, .ref m2, .ref m3, .long ka, .long kb, .ref m6, .ref m7, .ref m8, .ref m9, .ref m10, .ref m11, .ref m12, .ref m13, .ref m14, .ref m15, .ref m16])), (m2, .inl (cI, 8, .inl fp)), (m3, .inl (cI, 1024, .inl fb))]) [0, 1, 2] rfl
    refine va_calll (va_runV (As := [.int (mz_s2 (mz_so i 1) j 1), .int 0]) (rest := []) ⟨hx, hb, hml, hown, hts⟩ (mz_k_m_sum l dC dI cI cJ cZ mo m1 m2 m3 m6 m7 m8 m9 m10 m11 m12 m13 m14 m15 m16 n ka kb fp fb (mz_s2 (mz_so i 1) j 1) 0 s.heap (by first | assumption | omega) (by first | assumption | omega) (by first | assumption | omega) (mz_s2_st hn hj (mz_so_st hn hi (Or.inr rfl)) (Or.inr rfl)) mz_st_0) (cwV 2 hts gX8_otherwise_X8_sum rfl rfl rfl (by decide +kernel) ⟨Nat.le_of_ble_eq_true rfl, Nat.le_of_ble_eq_true rfl⟩) ⟨fun a U g mk q => mz_blP q, va_recv hK hPc (ci := 8) (q0 := 0) rfl rfl, fun U hU hW => ⟨rfl, hU, hPc, va_K.moved hW.alike hK, mz_nw hW hN⟩⟩ rfl rfl hl.1 rfl (lv_room (Nat.le_of_ble_eq_true rfl)) dX8_otherwise_125 ⟨Nat.le_of_ble_eq_true rfl, Nat.le_of_ble_eq_true rfl⟩) hS (fun q _ h => h.elim) (fun q h => h.elim) (fun r_125 u t H1 locs ht hvm hw_125 hB hz1 hk1 hS => ?_)
    have hE : s.heap = H1 := hB.symm.trans ht
    subst hE
    obtain rfl : r_125 = (mz_cs (mz_wt n fp fb (0 : Int32)) ((mz_s2 (mz_so i 1) j 1) &&& 255) (((mz_s2 (mz_so i 1) j 1) >>> (8 &&& 31)) &&& 255) n) := hw_125
    refine mz_tl (y := (mz_cs (mz_wt n fp fb 0) ((1 <<< ((nI i) &&& 31)) ||| (1 <<< ((nI j) &&& 31))) ((1 <<< ((nI i) &&& 31)) ||| (1 <<< ((nI j) &&& 31))) n)) (by rw [(mz_s2_11 i (by omega) j (by omega)).1, (mz_s2_11 i (by omega) j (by omega)).2]) ?_
    refine lv_lstore (lv' := [(12, .long (mz_cs (mz_wt n fp fb 0) ((1 <<< ((nI i) &&& 31)) ||| (1 <<< ((nI j) &&& 31))) ((1 <<< ((nI i) &&& 31)) ||| (1 <<< ((nI j) &&& 31))) n)), (10, .long (mz_cs (mz_wt n fp fb 0) (1 <<< ((nI j) &&& 31)) (1 <<< ((nI j) &&& 31)) n)), (8, .long (mz_cs (mz_wt n fp fb (mz_so i 0)) (1 <<< ((nI j) &&& 31)) (1 <<< ((nI j) &&& 31)) n)), (6, .long (mz_cs (mz_wt n fp fb (mz_so i 1)) (1 <<< ((nI j) &&& 31)) (1 <<< ((nI j) &&& 31)) n)), (4, .long x4_40), (0, .ref mo), (1, .int (nI i)), (2, .int (nI j)), (3, .int p3)]) hx hb dX8_otherwise_128 hl (by decide) rfl (fun ls hl => ?_)
    refine lv_aload_n hx hb dX8_otherwise_130 rfl (lv_at hl 5 rfl) ?_
    refine lv_iconst (v := 0) hx hb dX8_otherwise_131 (by decide +kernel) ?_
    refine lv_iload_n hx hb dX8_otherwise_132 rfl (lv_at hl 6 rfl) ?_
    refine lv_iconst (v := 1) hx hb dX8_otherwise_133 (by decide +kernel) ?_
    have hPc := hP.sub (ws' := []) [] rfl
    refine va_calli (va_runS (As := [.int 0, .int (nI i), .int 1]) (rest := [.ref mo]) ⟨hx, hb, hml, hown, hts⟩ (mz_q_withOne0 l dC dI cI cJ cZ i 1 s.heap ) (va_cwS 3 hts gX8_otherwise_X8_withOne rfl rfl rfl (by decide +kernel) ⟨Nat.le_of_ble_eq_true rfl, Nat.le_of_ble_eq_true rfl⟩) ⟨fun a U g mk q => mz_blP q, fun U hU hW => ⟨rfl, hU, hPc, va_K.moved hW.alike hK, mz_nw hW hN⟩⟩ rfl rfl hl.1 rfl (lv_room (Nat.le_of_ble_eq_true rfl)) dX8_otherwise_134 ⟨Nat.le_of_ble_eq_true rfl, Nat.le_of_ble_eq_true rfl⟩) hS (fun q _ h => h.elim) (fun q h => h.elim) (fun r_134 u t H1 locs ht hvm hw_134 hB hz1 hk1 hS => ?_)
    have hE : s.heap = H1 := hB.symm.trans ht
    subst hE
    obtain rfl : r_134 = (mz_so i (1 : Int32)) := hw_134
    refine lv_iload_n hx hb dX8_otherwise_137 rfl (lv_at hl 7 rfl) ?_
    refine lv_iconst (v := 0) hx hb dX8_otherwise_138 (by decide +kernel) ?_
    have hPc := hP.sub (ws' := []) [] rfl
    refine va_calli (va_runS (As := [.int (mz_so i 1), .int (nI j), .int 0]) (rest := [.ref mo]) ⟨hx, hb, hml, hown, hts⟩ (mz_q_withOne l dC dI cI cJ cZ (mz_so i 1) j 0 s.heap ) (va_cwS 3 hts gX8_otherwise_X8_withOne rfl rfl rfl (by decide +kernel) ⟨Nat.le_of_ble_eq_true rfl, Nat.le_of_ble_eq_true rfl⟩) ⟨fun a U g mk q => mz_blP q, fun U hU hW => ⟨rfl, hU, hPc, va_K.moved hW.alike hK, mz_nw hW hN⟩⟩ rfl rfl hl.1 rfl (lv_room (Nat.le_of_ble_eq_true rfl)) dX8_otherwise_139 ⟨Nat.le_of_ble_eq_true rfl, Nat.le_of_ble_eq_true rfl⟩) hS (fun q _ h => h.elim) (fun q h => h.elim) (fun r_139 u t H1 locs ht hvm hw_139 hB hz1 hk1 hS => ?_)
    have hE : s.heap = H1 := hB.symm.trans ht
    subst hE
    obtain rfl : r_139 = (mz_s2 (mz_so i 1) j (0 : Int32)) := hw_139
    refine lv_iconst (v := 0) hx hb dX8_otherwise_142 (by decide +kernel) ?_
    have hPc := hP.sub (ws' := [(mo, .inr (8, [.int (nI n), .ref m1, .ref m2, .ref m3, .long ka, .long kb, .ref m6, .ref m7, .ref m8, .ref m9, .ref m10, .ref m11, .ref m12, .ref m13, .ref m14, .ref m15, .ref m16])), (m2, .inl (cI, 8, .inl fp)), (m3, .inl (cI, 1024, .inl fb))]) [0, 1, 2] rfl
    refine va_calll (va_runV (As := [.int (mz_s2 (mz_so i 1) j 0), .int 0]) (rest := []) ⟨hx, hb, hml, hown, hts⟩ (mz_k_m_sum l dC dI cI cJ cZ mo m1 m2 m3 m6 m7 m8 m9 m10 m11 m12 m13 m14 m15 m16 n ka kb fp fb (mz_s2 (mz_so i 1) j 0) 0 s.heap (by first | assumption | omega) (by first | assumption | omega) (by first | assumption | omega) (mz_s2_st hn hj (mz_so_st hn hi (Or.inr rfl)) (Or.inl rfl)) mz_st_0) (cwV 2 hts gX8_otherwise_X8_sum rfl rfl rfl (by decide +kernel) ⟨Nat.le_of_ble_eq_true rfl, Nat.le_of_ble_eq_true rfl⟩) ⟨fun a U g mk q => mz_blP q, va_recv hK hPc (ci := 8) (q0 := 0) rfl rfl, fun U hU hW => ⟨rfl, hU, hPc, va_K.moved hW.alike hK, mz_nw hW hN⟩⟩ rfl rfl hl.1 rfl (lv_room (Nat.le_of_ble_eq_true rfl)) dX8_otherwise_143 ⟨Nat.le_of_ble_eq_true rfl, Nat.le_of_ble_eq_true rfl⟩) hS (fun q _ h => h.elim) (fun q h => h.elim) (fun r_143 u t H1 locs ht hvm hw_143 hB hz1 hk1 hS => ?_)
    have hE : s.heap = H1 := hB.symm.trans ht
    subst hE
    obtain rfl : r_143 = (mz_cs (mz_wt n fp fb (0 : Int32)) ((mz_s2 (mz_so i 1) j 0) &&& 255) (((mz_s2 (mz_so i 1) j 0) >>> (8 &&& 31)) &&& 255) n) := hw_143
    refine mz_tl (y := (mz_cs (mz_wt n fp fb 0) ((1 <<< ((nI i) &&& 31)) ||| (1 <<< ((nI j) &&& 31))) (1 <<< ((nI i) &&& 31)) n)) (by rw [(mz_s2_10 i (by omega) j (by omega)).1, (mz_s2_10 i (by omega) j (by omega)).2]) ?_
    refine lv_lstore (lv' := [(14, .long (mz_cs (mz_wt n fp fb 0) ((1 <<< ((nI i) &&& 31)) ||| (1 <<< ((nI j) &&& 31))) (1 <<< ((nI i) &&& 31)) n)), (12, .long (mz_cs (mz_wt n fp fb 0) ((1 <<< ((nI i) &&& 31)) ||| (1 <<< ((nI j) &&& 31))) ((1 <<< ((nI i) &&& 31)) ||| (1 <<< ((nI j) &&& 31))) n)), (10, .long (mz_cs (mz_wt n fp fb 0) (1 <<< ((nI j) &&& 31)) (1 <<< ((nI j) &&& 31)) n)), (8, .long (mz_cs (mz_wt n fp fb (mz_so i 0)) (1 <<< ((nI j) &&& 31)) (1 <<< ((nI j) &&& 31)) n)), (6, .long (mz_cs (mz_wt n fp fb (mz_so i 1)) (1 <<< ((nI j) &&& 31)) (1 <<< ((nI j) &&& 31)) n)), (4, .long x4_40), (0, .ref mo), (1, .int (nI i)), (2, .int (nI j)), (3, .int p3)]) hx hb dX8_otherwise_146 hl (by decide) rfl (fun ls hl => ?_)
    refine lv_aload_n hx hb dX8_otherwise_148 rfl (lv_at hl 6 rfl) ?_
    refine lv_iconst (v := 0) hx hb dX8_otherwise_149 (by decide +kernel) ?_
    refine lv_iload_n hx hb dX8_otherwise_150 rfl (lv_at hl 7 rfl) ?_
    refine lv_iconst (v := 0) hx hb dX8_otherwise_151 (by decide +kernel) ?_
    have hPc := hP.sub (ws' := []) [] rfl
    refine va_calli (va_runS (As := [.int 0, .int (nI i), .int 0]) (rest := [.ref mo]) ⟨hx, hb, hml, hown, hts⟩ (mz_q_withOne0 l dC dI cI cJ cZ i 0 s.heap ) (va_cwS 3 hts gX8_otherwise_X8_withOne rfl rfl rfl (by decide +kernel) ⟨Nat.le_of_ble_eq_true rfl, Nat.le_of_ble_eq_true rfl⟩) ⟨fun a U g mk q => mz_blP q, fun U hU hW => ⟨rfl, hU, hPc, va_K.moved hW.alike hK, mz_nw hW hN⟩⟩ rfl rfl hl.1 rfl (lv_room (Nat.le_of_ble_eq_true rfl)) dX8_otherwise_152 ⟨Nat.le_of_ble_eq_true rfl, Nat.le_of_ble_eq_true rfl⟩) hS (fun q _ h => h.elim) (fun q h => h.elim) (fun r_152 u t H1 locs ht hvm hw_152 hB hz1 hk1 hS => ?_)
    have hE : s.heap = H1 := hB.symm.trans ht
    subst hE
    obtain rfl : r_152 = (mz_so i (0 : Int32)) := hw_152
    refine lv_iload_n hx hb dX8_otherwise_155 rfl (lv_at hl 8 rfl) ?_
    refine lv_iconst (v := 1) hx hb dX8_otherwise_156 (by decide +kernel) ?_
    have hPc := hP.sub (ws' := []) [] rfl
    refine va_calli (va_runS (As := [.int (mz_so i 0), .int (nI j), .int 1]) (rest := [.ref mo]) ⟨hx, hb, hml, hown, hts⟩ (mz_q_withOne l dC dI cI cJ cZ (mz_so i 0) j 1 s.heap ) (va_cwS 3 hts gX8_otherwise_X8_withOne rfl rfl rfl (by decide +kernel) ⟨Nat.le_of_ble_eq_true rfl, Nat.le_of_ble_eq_true rfl⟩) ⟨fun a U g mk q => mz_blP q, fun U hU hW => ⟨rfl, hU, hPc, va_K.moved hW.alike hK, mz_nw hW hN⟩⟩ rfl rfl hl.1 rfl (lv_room (Nat.le_of_ble_eq_true rfl)) dX8_otherwise_157 ⟨Nat.le_of_ble_eq_true rfl, Nat.le_of_ble_eq_true rfl⟩) hS (fun q _ h => h.elim) (fun q h => h.elim) (fun r_157 u t H1 locs ht hvm hw_157 hB hz1 hk1 hS => ?_)
    have hE : s.heap = H1 := hB.symm.trans ht
    subst hE
    obtain rfl : r_157 = (mz_s2 (mz_so i 0) j (1 : Int32)) := hw_157
    refine lv_iconst (v := 0) hx hb dX8_otherwise_160 (by decide +kernel) ?_
    have hPc := hP.sub (ws' := [(mo, .inr (8, [.int (nI n), .ref m1, .ref m2, .ref m3, .long ka, .long kb, .ref m6, .ref m7, .ref m8, .ref m9, .ref m10, .ref m11, .ref m12, .ref m13, .ref m14, .ref m15, .ref m16])), (m2, .inl (cI, 8, .inl fp)), (m3, .inl (cI, 1024, .inl fb))]) [0, 1, 2] rfl
    refine va_calll (va_runV (As := [.int (mz_s2 (mz_so i 0) j 1), .int 0]) (rest := []) ⟨hx, hb, hml, hown, hts⟩ (mz_k_m_sum l dC dI cI cJ cZ mo m1 m2 m3 m6 m7 m8 m9 m10 m11 m12 m13 m14 m15 m16 n ka kb fp fb (mz_s2 (mz_so i 0) j 1) 0 s.heap (by first | assumption | omega) (by first | assumption | omega) (by first | assumption | omega) (mz_s2_st hn hj (mz_so_st hn hi (Or.inl rfl)) (Or.inr rfl)) mz_st_0) (cwV 2 hts gX8_otherwise_X8_sum rfl rfl rfl (by decide +kernel) ⟨Nat.le_of_ble_eq_true rfl, Nat.le_of_ble_eq_true rfl⟩) ⟨fun a U g mk q => mz_blP q, va_recv hK hPc (ci := 8) (q0 := 0) rfl rfl, fun U hU hW => ⟨rfl, hU, hPc, va_K.moved hW.alike hK, mz_nw hW hN⟩⟩ rfl rfl hl.1 rfl (lv_room (Nat.le_of_ble_eq_true rfl)) dX8_otherwise_161 ⟨Nat.le_of_ble_eq_true rfl, Nat.le_of_ble_eq_true rfl⟩) hS (fun q _ h => h.elim) (fun q h => h.elim) (fun r_161 u t H1 locs ht hvm hw_161 hB hz1 hk1 hS => ?_)
    have hE : s.heap = H1 := hB.symm.trans ht
    subst hE
    obtain rfl : r_161 = (mz_cs (mz_wt n fp fb (0 : Int32)) ((mz_s2 (mz_so i 0) j 1) &&& 255) (((mz_s2 (mz_so i 0) j 1) >>> (8 &&& 31)) &&& 255) n) := hw_161
    refine mz_tl (y := (mz_cs (mz_wt n fp fb 0) ((1 <<< ((nI i) &&& 31)) ||| (1 <<< ((nI j) &&& 31))) (1 <<< ((nI j) &&& 31)) n)) (by rw [(mz_s2_01 i (by omega) j (by omega)).1, (mz_s2_01 i (by omega) j (by omega)).2]) ?_
    refine lv_lstore (lv' := [(16, .long (mz_cs (mz_wt n fp fb 0) ((1 <<< ((nI i) &&& 31)) ||| (1 <<< ((nI j) &&& 31))) (1 <<< ((nI j) &&& 31)) n)), (14, .long (mz_cs (mz_wt n fp fb 0) ((1 <<< ((nI i) &&& 31)) ||| (1 <<< ((nI j) &&& 31))) (1 <<< ((nI i) &&& 31)) n)), (12, .long (mz_cs (mz_wt n fp fb 0) ((1 <<< ((nI i) &&& 31)) ||| (1 <<< ((nI j) &&& 31))) ((1 <<< ((nI i) &&& 31)) ||| (1 <<< ((nI j) &&& 31))) n)), (10, .long (mz_cs (mz_wt n fp fb 0) (1 <<< ((nI j) &&& 31)) (1 <<< ((nI j) &&& 31)) n)), (8, .long (mz_cs (mz_wt n fp fb (mz_so i 0)) (1 <<< ((nI j) &&& 31)) (1 <<< ((nI j) &&& 31)) n)), (6, .long (mz_cs (mz_wt n fp fb (mz_so i 1)) (1 <<< ((nI j) &&& 31)) (1 <<< ((nI j) &&& 31)) n)), (4, .long x4_40), (0, .ref mo), (1, .int (nI i)), (2, .int (nI j)), (3, .int p3)]) hx hb dX8_otherwise_164 hl (by decide) rfl (fun ls hl => ?_)
    refine lv_aload_n hx hb dX8_otherwise_166 rfl (lv_at hl 7 rfl) ?_
    refine lv_iconst (v := 0) hx hb dX8_otherwise_167 (by decide +kernel) ?_
    refine lv_iload_n hx hb dX8_otherwise_168 rfl (lv_at hl 8 rfl) ?_
    refine lv_iconst (v := 0) hx hb dX8_otherwise_169 (by decide +kernel) ?_
    have hPc := hP.sub (ws' := []) [] rfl
    refine va_calli (va_runS (As := [.int 0, .int (nI i), .int 0]) (rest := [.ref mo]) ⟨hx, hb, hml, hown, hts⟩ (mz_q_withOne0 l dC dI cI cJ cZ i 0 s.heap ) (va_cwS 3 hts gX8_otherwise_X8_withOne rfl rfl rfl (by decide +kernel) ⟨Nat.le_of_ble_eq_true rfl, Nat.le_of_ble_eq_true rfl⟩) ⟨fun a U g mk q => mz_blP q, fun U hU hW => ⟨rfl, hU, hPc, va_K.moved hW.alike hK, mz_nw hW hN⟩⟩ rfl rfl hl.1 rfl (lv_room (Nat.le_of_ble_eq_true rfl)) dX8_otherwise_170 ⟨Nat.le_of_ble_eq_true rfl, Nat.le_of_ble_eq_true rfl⟩) hS (fun q _ h => h.elim) (fun q h => h.elim) (fun r_170 u t H1 locs ht hvm hw_170 hB hz1 hk1 hS => ?_)
    have hE : s.heap = H1 := hB.symm.trans ht
    subst hE
    obtain rfl : r_170 = (mz_so i (0 : Int32)) := hw_170
    refine lv_iload_n hx hb dX8_otherwise_173 rfl (lv_at hl 9 rfl) ?_
    refine lv_iconst (v := 0) hx hb dX8_otherwise_174 (by decide +kernel) ?_
    have hPc := hP.sub (ws' := []) [] rfl
    refine va_calli (va_runS (As := [.int (mz_so i 0), .int (nI j), .int 0]) (rest := [.ref mo]) ⟨hx, hb, hml, hown, hts⟩ (mz_q_withOne l dC dI cI cJ cZ (mz_so i 0) j 0 s.heap ) (va_cwS 3 hts gX8_otherwise_X8_withOne rfl rfl rfl (by decide +kernel) ⟨Nat.le_of_ble_eq_true rfl, Nat.le_of_ble_eq_true rfl⟩) ⟨fun a U g mk q => mz_blP q, fun U hU hW => ⟨rfl, hU, hPc, va_K.moved hW.alike hK, mz_nw hW hN⟩⟩ rfl rfl hl.1 rfl (lv_room (Nat.le_of_ble_eq_true rfl)) dX8_otherwise_175 ⟨Nat.le_of_ble_eq_true rfl, Nat.le_of_ble_eq_true rfl⟩) hS (fun q _ h => h.elim) (fun q h => h.elim) (fun r_175 u t H1 locs ht hvm hw_175 hB hz1 hk1 hS => ?_)
    have hE : s.heap = H1 := hB.symm.trans ht
    subst hE
    obtain rfl : r_175 = (mz_s2 (mz_so i 0) j (0 : Int32)) := hw_175
    refine lv_iconst (v := 0) hx hb dX8_otherwise_178 (by decide +kernel) ?_
    have hPc := hP.sub (ws' := [(mo, .inr (8, [.int (nI n), .ref m1, .ref m2, .ref m3, .long ka, .long kb, .ref m6, .ref m7, .ref m8, .ref m9, .ref m10, .ref m11, .ref m12, .ref m13, .ref m14, .ref m15, .ref m16])), (m2, .inl (cI, 8, .inl fp)), (m3, .inl (cI, 1024, .inl fb))]) [0, 1, 2] rfl
    refine va_calll (va_runV (As := [.int (mz_s2 (mz_so i 0) j 0), .int 0]) (rest := []) ⟨hx, hb, hml, hown, hts⟩ (mz_k_m_sum l dC dI cI cJ cZ mo m1 m2 m3 m6 m7 m8 m9 m10 m11 m12 m13 m14 m15 m16 n ka kb fp fb (mz_s2 (mz_so i 0) j 0) 0 s.heap (by first | assumption | omega) (by first | assumption | omega) (by first | assumption | omega) (mz_s2_st hn hj (mz_so_st hn hi (Or.inl rfl)) (Or.inl rfl)) mz_st_0) (cwV 2 hts gX8_otherwise_X8_sum rfl rfl rfl (by decide +kernel) ⟨Nat.le_of_ble_eq_true rfl, Nat.le_of_ble_eq_true rfl⟩) ⟨fun a U g mk q => mz_blP q, va_recv hK hPc (ci := 8) (q0 := 0) rfl rfl, fun U hU hW => ⟨rfl, hU, hPc, va_K.moved hW.alike hK, mz_nw hW hN⟩⟩ rfl rfl hl.1 rfl (lv_room (Nat.le_of_ble_eq_true rfl)) dX8_otherwise_179 ⟨Nat.le_of_ble_eq_true rfl, Nat.le_of_ble_eq_true rfl⟩) hS (fun q _ h => h.elim) (fun q h => h.elim) (fun r_179 u t H1 locs ht hvm hw_179 hB hz1 hk1 hS => ?_)
    have hE : s.heap = H1 := hB.symm.trans ht
    subst hE
    obtain rfl : r_179 = (mz_cs (mz_wt n fp fb (0 : Int32)) ((mz_s2 (mz_so i 0) j 0) &&& 255) (((mz_s2 (mz_so i 0) j 0) >>> (8 &&& 31)) &&& 255) n) := hw_179
    refine mz_tl (y := (mz_cs (mz_wt n fp fb 0) ((1 <<< ((nI i) &&& 31)) ||| (1 <<< ((nI j) &&& 31))) 0 n)) (by rw [(mz_s2_00 i (by omega) j (by omega)).1, (mz_s2_00 i (by omega) j (by omega)).2]) ?_
    refine lv_lstore (lv' := [(18, .long (mz_cs (mz_wt n fp fb 0) ((1 <<< ((nI i) &&& 31)) ||| (1 <<< ((nI j) &&& 31))) 0 n)), (16, .long (mz_cs (mz_wt n fp fb 0) ((1 <<< ((nI i) &&& 31)) ||| (1 <<< ((nI j) &&& 31))) (1 <<< ((nI j) &&& 31)) n)), (14, .long (mz_cs (mz_wt n fp fb 0) ((1 <<< ((nI i) &&& 31)) ||| (1 <<< ((nI j) &&& 31))) (1 <<< ((nI i) &&& 31)) n)), (12, .long (mz_cs (mz_wt n fp fb 0) ((1 <<< ((nI i) &&& 31)) ||| (1 <<< ((nI j) &&& 31))) ((1 <<< ((nI i) &&& 31)) ||| (1 <<< ((nI j) &&& 31))) n)), (10, .long (mz_cs (mz_wt n fp fb 0) (1 <<< ((nI j) &&& 31)) (1 <<< ((nI j) &&& 31)) n)), (8, .long (mz_cs (mz_wt n fp fb (mz_so i 0)) (1 <<< ((nI j) &&& 31)) (1 <<< ((nI j) &&& 31)) n)), (6, .long (mz_cs (mz_wt n fp fb (mz_so i 1)) (1 <<< ((nI j) &&& 31)) (1 <<< ((nI j) &&& 31)) n)), (4, .long x4_40), (0, .ref mo), (1, .int (nI i)), (2, .int (nI j)), (3, .int p3)]) hx hb dX8_otherwise_182 hl (by decide) rfl (fun ls hl => ?_)
    refine lv_iload_n hx hb dX8_otherwise_184 rfl (lv_at hl 11 rfl) ?_
    by_cases hs_0 : p3 = 0
    · refine mz_ti (y := 0) hs_0 ?_
      refine lv_tableIn (tgt := 216) (off := 31) hx hb dX8_otherwise_185 (by decide +kernel) (by decide +kernel) (by decide +kernel) (by decide) ?_
      refine lv_lconst (v := 0) hx hb dX8_otherwise_216 (by decide +kernel) ?_
      refine lv_lload hx hb dX8_otherwise_217 (lv_at hl 6 rfl) ?_
      refine lv_lload hx hb dX8_otherwise_219 (lv_at hl 5 rfl) ?_
      refine lv_lsub hx hb dX8_otherwise_221 ?_
      refine lv_topl (fun v_221 ev_221 => ?_)
      have hPc := hP.sub (ws' := []) [] rfl
      refine va_calll (va_runS (As := [.long 0, .long v_221]) (rest := []) ⟨hx, hb, hml, hown, hts⟩ (mz_q_most l dC dI cI cJ cZ 0 v_221 s.heap ) (va_cwS 2 hts gX8_otherwise_X8_most rfl rfl rfl (by decide +kernel) ⟨Nat.le_of_ble_eq_true rfl, Nat.le_of_ble_eq_true rfl⟩) ⟨fun a U g mk q => mz_blP q, fun U hU hW => ⟨rfl, hU, hPc, va_K.moved hW.alike hK, mz_nw hW hN⟩⟩ rfl rfl hl.1 rfl (lv_room (Nat.le_of_ble_eq_true rfl)) dX8_otherwise_222 ⟨Nat.le_of_ble_eq_true rfl, Nat.le_of_ble_eq_true rfl⟩) hS (fun q _ h => h.elim) (fun q h => h.elim) (fun r_222 u t H1 locs ht hvm hw_222 hB hz1 hk1 hS => ?_)
      have hE : s.heap = H1 := hB.symm.trans ht
      subst hE
      obtain rfl : r_222 = (mz_mx (0 : Int64) v_221) := hw_222
      refine lv_lload hx hb dX8_otherwise_225 (lv_at hl 4 rfl) ?_
      refine lv_lload hx hb dX8_otherwise_227 (lv_at hl 5 rfl) ?_
      refine lv_lsub hx hb dX8_otherwise_229 ?_
      refine lv_topl (fun v_229 ev_229 => ?_)
      refine lv_lload hx hb dX8_otherwise_230 (lv_at hl 6 rfl) ?_
      refine lv_lload hx hb dX8_otherwise_232 (lv_at hl 4 rfl) ?_
      refine lv_lsub hx hb dX8_otherwise_234 ?_
      refine lv_topl (fun v_234 ev_234 => ?_)
      have hPc := hP.sub (ws' := []) [] rfl
      refine va_calll (va_runS (As := [.long v_229, .long v_234]) (rest := [.long (mz_mx 0 v_221)]) ⟨hx, hb, hml, hown, hts⟩ (mz_q_most l dC dI cI cJ cZ v_229 v_234 s.heap ) (va_cwS 2 hts gX8_otherwise_X8_most rfl rfl rfl (by decide +kernel) ⟨Nat.le_of_ble_eq_true rfl, Nat.le_of_ble_eq_true rfl⟩) ⟨fun a U g mk q => mz_blP q, fun U hU hW => ⟨rfl, hU, hPc, va_K.moved hW.alike hK, mz_nw hW hN⟩⟩ rfl rfl hl.1 rfl (lv_room (Nat.le_of_ble_eq_true rfl)) dX8_otherwise_235 ⟨Nat.le_of_ble_eq_true rfl, Nat.le_of_ble_eq_true rfl⟩) hS (fun q _ h => h.elim) (fun q h => h.elim) (fun r_235 u t H1 locs ht hvm hw_235 hB hz1 hk1 hS => ?_)
      have hE : s.heap = H1 := hB.symm.trans ht
      subst hE
      obtain rfl : r_235 = (mz_mx v_229 v_234) := hw_235
      have hPc := hP.sub (ws' := []) [] rfl
      refine va_calll (va_runS (As := [.long (mz_mx 0 v_221), .long (mz_mx v_229 v_234)]) (rest := []) ⟨hx, hb, hml, hown, hts⟩ (mz_q_most l dC dI cI cJ cZ (mz_mx 0 v_221) (mz_mx v_229 v_234) s.heap ) (va_cwS 2 hts gX8_otherwise_X8_most rfl rfl rfl (by decide +kernel) ⟨Nat.le_of_ble_eq_true rfl, Nat.le_of_ble_eq_true rfl⟩) ⟨fun a U g mk q => mz_blP q, fun U hU hW => ⟨rfl, hU, hPc, va_K.moved hW.alike hK, mz_nw hW hN⟩⟩ rfl rfl hl.1 rfl (lv_room (Nat.le_of_ble_eq_true rfl)) dX8_otherwise_238 ⟨Nat.le_of_ble_eq_true rfl, Nat.le_of_ble_eq_true rfl⟩) hS (fun q _ h => h.elim) (fun q h => h.elim) (fun r_238 u t H1 locs ht hvm hw_238 hB hz1 hk1 hS => ?_)
      have hE : s.heap = H1 := hB.symm.trans ht
      subst hE
      obtain rfl : r_238 = (mz_mx (mz_mx 0 v_221) (mz_mx v_229 v_234)) := hw_238
      refine W.widen (k := 0) (n := 0) (Nat.le_of_ble_eq_true rfl) (Nat.le_of_ble_eq_true rfl) ?_
      exact W.lret (v := (mz_mx (mz_mx 0 v_221) (mz_mx v_229 v_234))) hx hb hr (fun t ht hW => ⟨⟨(mz_mx (mz_mx 0 v_221) (mz_mx v_229 v_234)), (), rfl, (by rw [mz_ow0 hs_0, ev_221, ev_229, ev_234]), ht⟩, hS.F ht⟩) hS.2.2 dX8_otherwise_241
    by_cases hs_1 : p3 = 1
    · refine mz_ti (y := 1) hs_1 ?_
      refine lv_tableIn (tgt := 242) (off := 57) hx hb dX8_otherwise_185 (by decide +kernel) (by decide +kernel) (by decide +kernel) (by decide) ?_
      refine lv_lload hx hb dX8_otherwise_242 (lv_at hl 6 rfl) ?_
      refine lv_lload hx hb dX8_otherwise_244 (lv_at hl 7 rfl) ?_
      refine lv_lload hx hb dX8_otherwise_246 (lv_at hl 5 rfl) ?_
      refine lv_lsub hx hb dX8_otherwise_248 ?_
      refine lv_topl (fun v_248 ev_248 => ?_)
      have hPc := hP.sub (ws' := []) [] rfl
      refine va_calll (va_runS (As := [.long (mz_cs (mz_wt n fp fb (mz_so i 1)) (1 <<< ((nI j) &&& 31)) (1 <<< ((nI j) &&& 31)) n), .long v_248]) (rest := []) ⟨hx, hb, hml, hown, hts⟩ (mz_q_lesser l dC dI cI cJ cZ (mz_cs (mz_wt n fp fb (mz_so i 1)) (1 <<< ((nI j) &&& 31)) (1 <<< ((nI j) &&& 31)) n) v_248 s.heap ) (va_cwS 2 hts gX8_otherwise_X8_lesser rfl rfl rfl (by decide +kernel) ⟨Nat.le_of_ble_eq_true rfl, Nat.le_of_ble_eq_true rfl⟩) ⟨fun a U g mk q => mz_blP q, fun U hU hW => ⟨rfl, hU, hPc, va_K.moved hW.alike hK, mz_nw hW hN⟩⟩ rfl rfl hl.1 rfl (lv_room (Nat.le_of_ble_eq_true rfl)) dX8_otherwise_249 ⟨Nat.le_of_ble_eq_true rfl, Nat.le_of_ble_eq_true rfl⟩) hS (fun q _ h => h.elim) (fun q h => h.elim) (fun r_249 u t H1 locs ht hvm hw_249 hB hz1 hk1 hS => ?_)
      have hE : s.heap = H1 := hB.symm.trans ht
      subst hE
      obtain rfl : r_249 = (mz_mn (mz_cs (mz_wt n fp fb (mz_so i 1)) (1 <<< ((nI j) &&& 31)) (1 <<< ((nI j) &&& 31)) n) v_248) := hw_249
      refine lv_lload hx hb dX8_otherwise_252 (lv_at hl 3 rfl) ?_
      refine lv_lload hx hb dX8_otherwise_254 (lv_at hl 0 rfl) ?_
      refine lv_ladd hx hb dX8_otherwise_256 ?_
      refine lv_topl (fun v_256 ev_256 => ?_)
      refine lv_lload hx hb dX8_otherwise_257 (lv_at hl 6 rfl) ?_
      refine lv_lload hx hb dX8_otherwise_259 (lv_at hl 5 rfl) ?_
      refine lv_lsub hx hb dX8_otherwise_261 ?_
      refine lv_topl (fun v_261 ev_261 => ?_)
      refine lv_lload hx hb dX8_otherwise_262 (lv_at hl 2 rfl) ?_
      refine lv_ladd hx hb dX8_otherwise_264 ?_
      refine lv_topl (fun v_264 ev_264 => ?_)
      refine lv_lload hx hb dX8_otherwise_265 (lv_at hl 1 rfl) ?_
      refine lv_ladd hx hb dX8_otherwise_267 ?_
      refine lv_topl (fun v_267 ev_267 => ?_)
      have hPc := hP.sub (ws' := []) [] rfl
      refine va_calll (va_runS (As := [.long v_256, .long v_267]) (rest := [.long (mz_mn (mz_cs (mz_wt n fp fb (mz_so i 1)) (1 <<< ((nI j) &&& 31)) (1 <<< ((nI j) &&& 31)) n) v_248)]) ⟨hx, hb, hml, hown, hts⟩ (mz_q_lesser l dC dI cI cJ cZ v_256 v_267 s.heap ) (va_cwS 2 hts gX8_otherwise_X8_lesser rfl rfl rfl (by decide +kernel) ⟨Nat.le_of_ble_eq_true rfl, Nat.le_of_ble_eq_true rfl⟩) ⟨fun a U g mk q => mz_blP q, fun U hU hW => ⟨rfl, hU, hPc, va_K.moved hW.alike hK, mz_nw hW hN⟩⟩ rfl rfl hl.1 rfl (lv_room (Nat.le_of_ble_eq_true rfl)) dX8_otherwise_268 ⟨Nat.le_of_ble_eq_true rfl, Nat.le_of_ble_eq_true rfl⟩) hS (fun q _ h => h.elim) (fun q h => h.elim) (fun r_268 u t H1 locs ht hvm hw_268 hB hz1 hk1 hS => ?_)
      have hE : s.heap = H1 := hB.symm.trans ht
      subst hE
      obtain rfl : r_268 = (mz_mn v_256 v_267) := hw_268
      have hPc := hP.sub (ws' := []) [] rfl
      refine va_calll (va_runS (As := [.long (mz_mn (mz_cs (mz_wt n fp fb (mz_so i 1)) (1 <<< ((nI j) &&& 31)) (1 <<< ((nI j) &&& 31)) n) v_248), .long (mz_mn v_256 v_267)]) (rest := []) ⟨hx, hb, hml, hown, hts⟩ (mz_q_lesser l dC dI cI cJ cZ (mz_mn (mz_cs (mz_wt n fp fb (mz_so i 1)) (1 <<< ((nI j) &&& 31)) (1 <<< ((nI j) &&& 31)) n) v_248) (mz_mn v_256 v_267) s.heap ) (va_cwS 2 hts gX8_otherwise_X8_lesser rfl rfl rfl (by decide +kernel) ⟨Nat.le_of_ble_eq_true rfl, Nat.le_of_ble_eq_true rfl⟩) ⟨fun a U g mk q => mz_blP q, fun U hU hW => ⟨rfl, hU, hPc, va_K.moved hW.alike hK, mz_nw hW hN⟩⟩ rfl rfl hl.1 rfl (lv_room (Nat.le_of_ble_eq_true rfl)) dX8_otherwise_271 ⟨Nat.le_of_ble_eq_true rfl, Nat.le_of_ble_eq_true rfl⟩) hS (fun q _ h => h.elim) (fun q h => h.elim) (fun r_271 u t H1 locs ht hvm hw_271 hB hz1 hk1 hS => ?_)
      have hE : s.heap = H1 := hB.symm.trans ht
      subst hE
      obtain rfl : r_271 = (mz_mn (mz_mn (mz_cs (mz_wt n fp fb (mz_so i 1)) (1 <<< ((nI j) &&& 31)) (1 <<< ((nI j) &&& 31)) n) v_248) (mz_mn v_256 v_267)) := hw_271
      refine W.widen (k := 0) (n := 0) (Nat.le_of_ble_eq_true rfl) (Nat.le_of_ble_eq_true rfl) ?_
      exact W.lret (v := (mz_mn (mz_mn (mz_cs (mz_wt n fp fb (mz_so i 1)) (1 <<< ((nI j) &&& 31)) (1 <<< ((nI j) &&& 31)) n) v_248) (mz_mn v_256 v_267))) hx hb hr (fun t ht hW => ⟨⟨(mz_mn (mz_mn (mz_cs (mz_wt n fp fb (mz_so i 1)) (1 <<< ((nI j) &&& 31)) (1 <<< ((nI j) &&& 31)) n) v_248) (mz_mn v_256 v_267)), (), rfl, (by rw [mz_ow1 hs_1, ev_248, ev_256, ev_267, ev_264, ev_261, hl_40, show i_40 = n by omega]), ht⟩, hS.F ht⟩) hS.2.2 dX8_otherwise_274
    by_cases hs_2 : p3 = 2
    · refine mz_ti (y := 2) hs_2 ?_
      refine lv_tableIn (tgt := 275) (off := 90) hx hb dX8_otherwise_185 (by decide +kernel) (by decide +kernel) (by decide +kernel) (by decide) ?_
      refine lv_lconst (v := 0) hx hb dX8_otherwise_275 (by decide +kernel) ?_
      refine lv_lload hx hb dX8_otherwise_276 (lv_at hl 4 rfl) ?_
      refine lv_lload hx hb dX8_otherwise_278 (lv_at hl 5 rfl) ?_
      refine lv_lsub hx hb dX8_otherwise_280 ?_
      refine lv_topl (fun v_280 ev_280 => ?_)
      have hPc := hP.sub (ws' := []) [] rfl
      refine va_calll (va_runS (As := [.long 0, .long v_280]) (rest := []) ⟨hx, hb, hml, hown, hts⟩ (mz_q_most l dC dI cI cJ cZ 0 v_280 s.heap ) (va_cwS 2 hts gX8_otherwise_X8_most rfl rfl rfl (by decide +kernel) ⟨Nat.le_of_ble_eq_true rfl, Nat.le_of_ble_eq_true rfl⟩) ⟨fun a U g mk q => mz_blP q, fun U hU hW => ⟨rfl, hU, hPc, va_K.moved hW.alike hK, mz_nw hW hN⟩⟩ rfl rfl hl.1 rfl (lv_room (Nat.le_of_ble_eq_true rfl)) dX8_otherwise_281 ⟨Nat.le_of_ble_eq_true rfl, Nat.le_of_ble_eq_true rfl⟩) hS (fun q _ h => h.elim) (fun q h => h.elim) (fun r_281 u t H1 locs ht hvm hw_281 hB hz1 hk1 hS => ?_)
      have hE : s.heap = H1 := hB.symm.trans ht
      subst hE
      obtain rfl : r_281 = (mz_mx (0 : Int64) v_280) := hw_281
      refine W.widen (k := 0) (n := 0) (Nat.le_of_ble_eq_true rfl) (Nat.le_of_ble_eq_true rfl) ?_
      exact W.lret (v := (mz_mx 0 v_280)) hx hb hr (fun t ht hW => ⟨⟨(mz_mx 0 v_280), (), rfl, (by rw [mz_ow2 hs_2, ev_280]), ht⟩, hS.F ht⟩) hS.2.2 dX8_otherwise_284
    by_cases hs_3 : p3 = 3
    · refine mz_ti (y := 3) hs_3 ?_
      refine lv_tableIn (tgt := 285) (off := 100) hx hb dX8_otherwise_185 (by decide +kernel) (by decide +kernel) (by decide +kernel) (by decide) ?_
      refine lv_lload hx hb dX8_otherwise_285 (lv_at hl 3 rfl) ?_
      refine lv_lload hx hb dX8_otherwise_287 (lv_at hl 7 rfl) ?_
      refine lv_lload hx hb dX8_otherwise_289 (lv_at hl 5 rfl) ?_
      refine lv_lsub hx hb dX8_otherwise_291 ?_
      refine lv_topl (fun v_291 ev_291 => ?_)
      refine lv_lload hx hb dX8_otherwise_292 (lv_at hl 0 rfl) ?_
      refine lv_lsub hx hb dX8_otherwise_294 ?_
      refine lv_topl (fun v_294 ev_294 => ?_)
      have hPc := hP.sub (ws' := []) [] rfl
      refine va_calll (va_runS (As := [.long (mz_cs (mz_wt n fp fb 0) ((1 <<< ((nI i) &&& 31)) ||| (1 <<< ((nI j) &&& 31))) ((1 <<< ((nI i) &&& 31)) ||| (1 <<< ((nI j) &&& 31))) n), .long v_294]) (rest := []) ⟨hx, hb, hml, hown, hts⟩ (mz_q_lesser l dC dI cI cJ cZ (mz_cs (mz_wt n fp fb 0) ((1 <<< ((nI i) &&& 31)) ||| (1 <<< ((nI j) &&& 31))) ((1 <<< ((nI i) &&& 31)) ||| (1 <<< ((nI j) &&& 31))) n) v_294 s.heap ) (va_cwS 2 hts gX8_otherwise_X8_lesser rfl rfl rfl (by decide +kernel) ⟨Nat.le_of_ble_eq_true rfl, Nat.le_of_ble_eq_true rfl⟩) ⟨fun a U g mk q => mz_blP q, fun U hU hW => ⟨rfl, hU, hPc, va_K.moved hW.alike hK, mz_nw hW hN⟩⟩ rfl rfl hl.1 rfl (lv_room (Nat.le_of_ble_eq_true rfl)) dX8_otherwise_295 ⟨Nat.le_of_ble_eq_true rfl, Nat.le_of_ble_eq_true rfl⟩) hS (fun q _ h => h.elim) (fun q h => h.elim) (fun r_295 u t H1 locs ht hvm hw_295 hB hz1 hk1 hS => ?_)
      have hE : s.heap = H1 := hB.symm.trans ht
      subst hE
      obtain rfl : r_295 = (mz_mn (mz_cs (mz_wt n fp fb 0) ((1 <<< ((nI i) &&& 31)) ||| (1 <<< ((nI j) &&& 31))) ((1 <<< ((nI i) &&& 31)) ||| (1 <<< ((nI j) &&& 31))) n) v_294) := hw_295
      refine W.widen (k := 0) (n := 0) (Nat.le_of_ble_eq_true rfl) (Nat.le_of_ble_eq_true rfl) ?_
      exact W.lret (v := (mz_mn (mz_cs (mz_wt n fp fb 0) ((1 <<< ((nI i) &&& 31)) ||| (1 <<< ((nI j) &&& 31))) ((1 <<< ((nI i) &&& 31)) ||| (1 <<< ((nI j) &&& 31))) n) v_294)) hx hb hr (fun t ht hW => ⟨⟨(mz_mn (mz_cs (mz_wt n fp fb 0) ((1 <<< ((nI i) &&& 31)) ||| (1 <<< ((nI j) &&& 31))) ((1 <<< ((nI i) &&& 31)) ||| (1 <<< ((nI j) &&& 31))) n) v_294), (), rfl, (by rw [mz_ow3 hs_3, ev_294, ev_291, hl_40, show i_40 = n by omega]), ht⟩, hS.F ht⟩) hS.2.2 dX8_otherwise_298
    refine lv_tableOut (tgt := 299) hx hb dX8_otherwise_185 (mz_sw3 hs_0 hs_1 hs_2 hs_3) (by decide) ?_
    refine lv_lload hx hb dX8_otherwise_299 (lv_at hl 3 rfl) ?_
    refine W.widen (k := 0) (n := 0) (Nat.le_of_ble_eq_true rfl) (Nat.le_of_ble_eq_true rfl) ?_
    exact W.lret (v := (mz_cs (mz_wt n fp fb 0) ((1 <<< ((nI i) &&& 31)) ||| (1 <<< ((nI j) &&& 31))) ((1 <<< ((nI i) &&& 31)) ||| (1 <<< ((nI j) &&& 31))) n)) hx hb hr (fun t ht hW => ⟨⟨(mz_cs (mz_wt n fp fb 0) ((1 <<< ((nI i) &&& 31)) ||| (1 <<< ((nI j) &&& 31))) ((1 <<< ((nI i) &&& 31)) ||| (1 <<< ((nI j) &&& 31))) n), (), rfl, (by rw [mz_ow4 hs_0 hs_1 hs_2 hs_3]), ht⟩, hS.F ht⟩) hS.2.2 dX8_otherwise_301
  · skip
    have d_46 : ¬ n ≤ i_40 := fun h => c_46 ((nI_leI (a := n) (b := i_40) (by omega) (by omega)).mpr h)
    refine lv_lload hx hb dX8_otherwise_49 (lv_at hl 1 rfl) ?_
    refine lv_ldc2 hx hb hown (hts (.constantLong RX8 96 (100)) (by decide +kernel)) dX8_otherwise_51 ?_
    refine lv_lmul hx hb dX8_otherwise_54 ?_
    refine lv_topl (fun v_54 ev_54 => ?_)
    refine lv_lstore (lv' := [(4, .long v_54), (6, .int (nI i_40)), (0, .ref mo), (1, .int (nI i)), (2, .int (nI j)), (3, .int p3)]) hx hb dX8_otherwise_55 hl (by decide) rfl (fun ls hl => ?_)
    refine lv_iinc (v := (nI (i_40 + 1))) (lv' := [(6, .int (nI (i_40 + 1))), (4, .long v_54), (0, .ref mo), (1, .int (nI i)), (2, .int (nI j)), (3, .int p3)]) hx hb dX8_otherwise_57 hl (k := 1) rfl (nI_1 _) (by decide) rfl (fun ls hl => ?_)
    refine lv_goto (tgt := 40) hx hb dX8_otherwise_60 (by decide) ?_
    exact ih_40 _ (by omega) _ _ _ ⟨(i_40 + 1), v_54, by omega, (by rw [ev_54]; exact mz_pw hl_40), rfl, hS, lv_sub hl [0, 1, 2, 3, 4, 5] rfl, rfl⟩
set_option maxHeartbeats 1000000 in
set_option maxRecDepth 100000 in
theorem mz_q_m_otherwise_out (l : Launch) (dC : Nat → ClassId) (dI : Nat → Nat → Nat) (cI cJ cZ : ClassId) (mo : Nat) (m1 : Nat) (m2 : Nat) (m3 : Nat) (m6 : Nat) (m7 : Nat) (m8 : Nat) (m9 : Nat) (m10 : Nat) (m11 : Nat) (m12 : Nat) (m13 : Nat) (m14 : Nat) (m15 : Nat) (m16 : Nat) (n : Nat) (ka : Int64) (kb : Int64) (p1 : Int32) (p2 : Int32) (p3 : Int32) (Hq : Heap) (hn : n ≤ 8) (hno : ¬ ∃ i j : Nat, i < n ∧ j < n ∧ (¬ i = j) ∧ (¬ p3 < 0) ∧ p3 ≤ 4 ∧ p1 = nI i ∧ p2 = nI j) : Met l yX8_otherwise wsX8_otherwise ({ frames := 1, cells := 0, slots := 0, locals := 21 }) (va_Pc [.ref mo, .int p1, .int p2, .int p3] (fun U => U.heap = Hq ∧ va_P (dC, dI) vwCl [(mo, .inr (8, [.int (nI n), .ref m1, .ref m2, .ref m3, .long ka, .long kb, .ref m6, .ref m7, .ref m8, .ref m9, .ref m10, .ref m11, .ref m12, .ref m13, .ref m14, .ref m15, .ref m16]))] Hq ∧ va_K (dC, dI) vwCl [(cI, FieldType.int), (cJ, FieldType.long), (cZ, FieldType.boolean)] U ∧ mz_N U)) (va_Ql (fun (r : Int64) (_ : Unit) => r = (-1)) (fun _ t => t.heap = Hq) (fun _ : Nat => False)) 0 0 (fun _ : Nat => False) := by
  refine Met.ofW (cc := cX8_otherwise) (maxL := 20) (ret := (some .long)) (by decide) rfl ?_
  intro p e s m args below meth c s₁ B hml hv
  obtain ⟨rfl, hH, hP, hK, hN⟩ := hv
  subst hH
  have hx := B.exec
  have hb := B.bytes
  have hr := B.returns
  have hts := atoms_spec (ws := wsX8_otherwise) B.pre
  have hown : s.vm.findClass RX8 = some m.cls := findClass_of_methodNamed B.named
  have hlocks := B.notSynchronized
  have hS : va_S (fun _ : Nat => False) s.heap s.heap [] := va_S.rf
  have hl := lv_entry ([.ref mo, .int p1, .int p2, .int p3]) (n := 20) (Nat.le_of_ble_eq_true rfl)
  rw [lg_entry_eq]
  generalize (lg_sl ([.ref mo, .int p1, .int p2, .int p3]) ++ List.replicate (20 - (lg_sl ([.ref mo, .int p1, .int p2, .int p3])).length) Slot.unset).toArray = ls at hl ⊢
  have hl : lv_has ls 20 [(0, .ref mo), (1, .int p1), (2, .int p2), (3, .int p3)] := hl
  refine lv_aload_n hx hb dX8_otherwise_0 rfl (lv_at hl 0 rfl) ?_
  refine lv_iload_n hx hb dX8_otherwise_1 rfl (lv_at hl 1 rfl) ?_
  have hPc := hP.sub (ws' := [(mo, .inr (8, [.int (nI n), .ref m1, .ref m2, .ref m3, .long ka, .long kb, .ref m6, .ref m7, .ref m8, .ref m9, .ref m10, .ref m11, .ref m12, .ref m13, .ref m14, .ref m15, .ref m16]))]) [0] rfl
  refine va_calli (va_runV (As := [.int p1]) (rest := []) ⟨hx, hb, hml, hown, hts⟩ (mz_m_isThing l dC dI cI cJ cZ mo m1 m2 m3 m6 m7 m8 m9 m10 m11 m12 m13 m14 m15 m16 n ka kb p1 s.heap (by first | assumption | omega)) (cwV 1 hts gX8_otherwise_X8_isThing rfl rfl rfl (by decide +kernel) ⟨Nat.le_of_ble_eq_true rfl, Nat.le_of_ble_eq_true rfl⟩) ⟨fun a U g mk q => mz_blP q, va_recv hK hPc (ci := 8) (q0 := 0) rfl rfl, fun U hU hW => ⟨rfl, hU, hPc, va_K.moved hW.alike hK, mz_nw hW hN⟩⟩ rfl rfl hl.1 rfl (lv_room (Nat.le_of_ble_eq_true rfl)) dX8_otherwise_2 ⟨Nat.le_of_ble_eq_true rfl, Nat.le_of_ble_eq_true rfl⟩) hS (fun q _ h => h.elim) (fun q h => h.elim) (fun r_2 u t H1 locs ht hvm hw_2 hB hz1 hk1 hS => ?_)
  have hE : s.heap = H1 := hB.symm.trans ht
  subst hE
  rcases (show (r_2 = 1 ∧ ∃ j : Nat, j < n ∧ p1 = nI j) ∨ r_2 = 0 from hw_2) with ⟨rfl, j_2, hj_2, he_2⟩ | rfl
  · skip
    subst he_2
    refine lv_if_eq (tgt := 30) hx hb dX8_otherwise_5 (by decide) (fun c_5 => absurd c_5 (by decide +kernel)) (fun _ => ?_)
    refine lv_aload_n hx hb dX8_otherwise_8 rfl (lv_at hl 0 rfl) ?_
    refine lv_iload_n hx hb dX8_otherwise_9 rfl (lv_at hl 2 rfl) ?_
    have hPc := hP.sub (ws' := [(mo, .inr (8, [.int (nI n), .ref m1, .ref m2, .ref m3, .long ka, .long kb, .ref m6, .ref m7, .ref m8, .ref m9, .ref m10, .ref m11, .ref m12, .ref m13, .ref m14, .ref m15, .ref m16]))]) [0] rfl
    refine va_calli (va_runV (As := [.int p2]) (rest := []) ⟨hx, hb, hml, hown, hts⟩ (mz_m_isThing l dC dI cI cJ cZ mo m1 m2 m3 m6 m7 m8 m9 m10 m11 m12 m13 m14 m15 m16 n ka kb p2 s.heap (by first | assumption | omega)) (cwV 1 hts gX8_otherwise_X8_isThing rfl rfl rfl (by decide +kernel) ⟨Nat.le_of_ble_eq_true rfl, Nat.le_of_ble_eq_true rfl⟩) ⟨fun a U g mk q => mz_blP q, va_recv hK hPc (ci := 8) (q0 := 0) rfl rfl, fun U hU hW => ⟨rfl, hU, hPc, va_K.moved hW.alike hK, mz_nw hW hN⟩⟩ rfl rfl hl.1 rfl (lv_room (Nat.le_of_ble_eq_true rfl)) dX8_otherwise_10 ⟨Nat.le_of_ble_eq_true rfl, Nat.le_of_ble_eq_true rfl⟩) hS (fun q _ h => h.elim) (fun q h => h.elim) (fun r_10 u t H1 locs ht hvm hw_10 hB hz1 hk1 hS => ?_)
    have hE : s.heap = H1 := hB.symm.trans ht
    subst hE
    rcases (show (r_10 = 1 ∧ ∃ j : Nat, j < n ∧ p2 = nI j) ∨ r_10 = 0 from hw_10) with ⟨rfl, j_10, hj_10, he_10⟩ | rfl
    · skip
      subst he_10
      refine lv_if_eq (tgt := 30) hx hb dX8_otherwise_13 (by decide) (fun c_13 => absurd c_13 (by decide +kernel)) (fun _ => ?_)
      refine lv_iload_n hx hb dX8_otherwise_16 rfl (lv_at hl 1 rfl) ?_
      refine lv_iload_n hx hb dX8_otherwise_17 rfl (lv_at hl 2 rfl) ?_
      refine lv_icmp_eq (tgt := 30) hx hb dX8_otherwise_18 (by decide) (fun c_18 => ?_) (fun c_18 => ?_)
      · skip
        have d_18 : j_2 = j_10 := (nI_eq (a := j_2) (b := j_10) (by omega) (by omega)).mp c_18
        refine lv_ldc2 hx hb hown (hts (.constantLong RX8 108 (-1)) (by decide +kernel)) dX8_otherwise_30 ?_
        refine W.widen (k := 0) (n := 0) (Nat.le_of_ble_eq_true rfl) (Nat.le_of_ble_eq_true rfl) ?_
        exact W.lret (v := (-1)) hx hb hr (fun t ht hW => ⟨⟨(-1), (), rfl, rfl, ht⟩, hS.F ht⟩) hS.2.2 dX8_otherwise_33
      · skip
        have d_18 : ¬ j_2 = j_10 := fun h => c_18 ((nI_eq (a := j_2) (b := j_10) (by omega) (by omega)).mpr h)
        refine lv_iload_n hx hb dX8_otherwise_21 rfl (lv_at hl 3 rfl) ?_
        refine lv_if_lt (tgt := 30) hx hb dX8_otherwise_22 (by decide) (fun c_22 => ?_) (fun c_22 => ?_)
        · skip
          refine lv_ldc2 hx hb hown (hts (.constantLong RX8 108 (-1)) (by decide +kernel)) dX8_otherwise_30 ?_
          refine W.widen (k := 0) (n := 0) (Nat.le_of_ble_eq_true rfl) (Nat.le_of_ble_eq_true rfl) ?_
          exact W.lret (v := (-1)) hx hb hr (fun t ht hW => ⟨⟨(-1), (), rfl, rfl, ht⟩, hS.F ht⟩) hS.2.2 dX8_otherwise_33
        · skip
          refine lv_iload_n hx hb dX8_otherwise_25 rfl (lv_at hl 3 rfl) ?_
          refine lv_iconst (v := 4) hx hb dX8_otherwise_26 (by decide +kernel) ?_
          refine lv_icmp_le (tgt := 34) hx hb dX8_otherwise_27 (by decide) (fun c_27 => ?_) (fun c_27 => ?_)
          · skip
            exact absurd ⟨j_2, j_10, hj_2, hj_10, (fun e => c_18 (by rw [e])), c_22, c_27, rfl, rfl⟩ hno
          · skip
            refine lv_ldc2 hx hb hown (hts (.constantLong RX8 108 (-1)) (by decide +kernel)) dX8_otherwise_30 ?_
            refine W.widen (k := 0) (n := 0) (Nat.le_of_ble_eq_true rfl) (Nat.le_of_ble_eq_true rfl) ?_
            exact W.lret (v := (-1)) hx hb hr (fun t ht hW => ⟨⟨(-1), (), rfl, rfl, ht⟩, hS.F ht⟩) hS.2.2 dX8_otherwise_33
    · skip
      refine lv_if_eq (tgt := 30) hx hb dX8_otherwise_13 (by decide) (fun _ => ?_) (fun c_13 => absurd (by decide +kernel) c_13)
      refine lv_ldc2 hx hb hown (hts (.constantLong RX8 108 (-1)) (by decide +kernel)) dX8_otherwise_30 ?_
      refine W.widen (k := 0) (n := 0) (Nat.le_of_ble_eq_true rfl) (Nat.le_of_ble_eq_true rfl) ?_
      exact W.lret (v := (-1)) hx hb hr (fun t ht hW => ⟨⟨(-1), (), rfl, rfl, ht⟩, hS.F ht⟩) hS.2.2 dX8_otherwise_33
  · skip
    refine lv_if_eq (tgt := 30) hx hb dX8_otherwise_5 (by decide) (fun _ => ?_) (fun c_5 => absurd (by decide +kernel) c_5)
    refine lv_ldc2 hx hb hown (hts (.constantLong RX8 108 (-1)) (by decide +kernel)) dX8_otherwise_30 ?_
    refine W.widen (k := 0) (n := 0) (Nat.le_of_ble_eq_true rfl) (Nat.le_of_ble_eq_true rfl) ?_
    exact W.lret (v := (-1)) hx hb hr (fun t ht hW => ⟨⟨(-1), (), rfl, rfl, ht⟩, hS.F ht⟩) hS.2.2 dX8_otherwise_33
