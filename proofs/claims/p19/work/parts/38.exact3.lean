/-! exact answers: heaps, settings, rows, draw -/
set_option maxHeartbeats 1000000 in
set_option maxRecDepth 100000 in
theorem mz_h_heapOf (l : Launch) (dC : Nat → ClassId) (dI : Nat → Nat → Nat) (cI cJ cZ : ClassId) (p0 : Int32) (Hq : Heap)  : Met l yX7_heapOf wsX7_heapOf ({ frames := 0, cells := 0, slots := 0, locals := 0 }) (va_Pc [.int p0] (fun U => U.heap = Hq ∧ va_P (dC, dI) vwCl [] Hq ∧ va_K (dC, dI) vwCl [(cI, FieldType.int), (cJ, FieldType.long), (cZ, FieldType.boolean)] U ∧ mz_N U)) (va_Qi (fun (r : Int32) (_ : Unit) => r = (p0 &&& 255)) (fun _ t => t.heap = Hq) (fun _ : Nat => False)) 0 0 (fun _ : Nat => False) := by
  refine Met.ofW (cc := cX7_heapOf) (maxL := 1) (ret := (some .int)) (by decide) rfl ?_
  intro p e s m args below meth c s₁ B hml hv
  obtain ⟨rfl, hH, hP, hK, hN⟩ := hv
  subst hH
  have hx := B.exec
  have hb := B.bytes
  have hr := B.returns
  have hts := atoms_spec (ws := wsX7_heapOf) B.pre
  have hown : s.vm.findClass RX7 = some m.cls := findClass_of_methodNamed B.named
  have hlocks := B.notSynchronized
  have hS : va_S (fun _ : Nat => False) s.heap s.heap [] := va_S.rf
  have hl := lv_entry ([.int p0]) (n := 1) (Nat.le_of_ble_eq_true rfl)
  rw [lg_entry_eq]
  generalize (lg_sl ([.int p0]) ++ List.replicate (1 - (lg_sl ([.int p0])).length) Slot.unset).toArray = ls at hl ⊢
  have hl : lv_has ls 1 [(0, .int p0)] := hl
  refine lv_iload_n hx hb dX7_heapOf_0 rfl (lv_at hl 0 rfl) ?_
  refine lv_sipush (v := 255) hx hb dX7_heapOf_1 (by decide +kernel) ?_
  refine lv_iand hx hb dX7_heapOf_4 ?_
  refine W.widen (k := 0) (n := 0) (Nat.le_of_ble_eq_true rfl) (Nat.le_of_ble_eq_true rfl) ?_
  exact W.iret (v := (p0 &&& 255)) hx hb hr (fun t ht hW => ⟨⟨(p0 &&& 255), (), rfl, rfl, ht⟩, hS.F ht⟩) hS.2.2 dX7_heapOf_5
set_option maxHeartbeats 1000000 in
set_option maxRecDepth 100000 in
theorem mz_h_onesOf (l : Launch) (dC : Nat → ClassId) (dI : Nat → Nat → Nat) (cI cJ cZ : ClassId) (p0 : Int32) (Hq : Heap)  : Met l yX7_onesOf wsX7_onesOf ({ frames := 0, cells := 0, slots := 0, locals := 0 }) (va_Pc [.int p0] (fun U => U.heap = Hq ∧ va_P (dC, dI) vwCl [] Hq ∧ va_K (dC, dI) vwCl [(cI, FieldType.int), (cJ, FieldType.long), (cZ, FieldType.boolean)] U ∧ mz_N U)) (va_Qi (fun (r : Int32) (_ : Unit) => r = ((p0 >>> (8 &&& 31)) &&& 255)) (fun _ t => t.heap = Hq) (fun _ : Nat => False)) 0 0 (fun _ : Nat => False) := by
  refine Met.ofW (cc := cX7_onesOf) (maxL := 1) (ret := (some .int)) (by decide) rfl ?_
  intro p e s m args below meth c s₁ B hml hv
  obtain ⟨rfl, hH, hP, hK, hN⟩ := hv
  subst hH
  have hx := B.exec
  have hb := B.bytes
  have hr := B.returns
  have hts := atoms_spec (ws := wsX7_onesOf) B.pre
  have hown : s.vm.findClass RX7 = some m.cls := findClass_of_methodNamed B.named
  have hlocks := B.notSynchronized
  have hS : va_S (fun _ : Nat => False) s.heap s.heap [] := va_S.rf
  have hl := lv_entry ([.int p0]) (n := 1) (Nat.le_of_ble_eq_true rfl)
  rw [lg_entry_eq]
  generalize (lg_sl ([.int p0]) ++ List.replicate (1 - (lg_sl ([.int p0])).length) Slot.unset).toArray = ls at hl ⊢
  have hl : lv_has ls 1 [(0, .int p0)] := hl
  refine lv_iload_n hx hb dX7_onesOf_0 rfl (lv_at hl 0 rfl) ?_
  refine lv_bipush (v := 8) hx hb dX7_onesOf_1 (by decide +kernel) ?_
  refine lv_ishr hx hb dX7_onesOf_3 ?_
  refine lv_sipush (v := 255) hx hb dX7_onesOf_4 (by decide +kernel) ?_
  refine lv_iand hx hb dX7_onesOf_7 ?_
  refine W.widen (k := 0) (n := 0) (Nat.le_of_ble_eq_true rfl) (Nat.le_of_ble_eq_true rfl) ?_
  exact W.iret (v := ((p0 >>> (8 &&& 31)) &&& 255)) hx hb hr (fun t ht hW => ⟨⟨((p0 >>> (8 &&& 31)) &&& 255), (), rfl, rfl, ht⟩, hS.F ht⟩) hS.2.2 dX7_onesOf_8
set_option maxHeartbeats 1000000 in
set_option maxRecDepth 100000 in
theorem mz_h_everything (l : Launch) (dC : Nat → ClassId) (dI : Nat → Nat → Nat) (cI cJ cZ : ClassId) (dr : Nat) (dp : Nat) (dc : Nat) (n : Nat) (Hq : Heap) (hn : n ≤ 8) : Met l yX2_everything wsX2_everything ({ frames := 0, cells := 0, slots := 0, locals := 0 }) (va_Pc [.ref dr] (fun U => U.heap = Hq ∧ va_P (dC, dI) vwCl [(dr, .inr (2, [.ref dp, .ref dc, .int (nI n)]))] Hq ∧ va_K (dC, dI) vwCl [(cI, FieldType.int), (cJ, FieldType.long), (cZ, FieldType.boolean)] U ∧ mz_N U)) (va_Qi (fun (r : Int32) (_ : Unit) => r = (nI (2 ^ n - 1))) (fun _ t => t.heap = Hq) (fun _ : Nat => False)) 0 0 (fun _ : Nat => False) := by
  refine Met.ofW (cc := cX2_everything) (maxL := 1) (ret := (some .int)) (by decide) rfl ?_
  intro p e s m args below meth c s₁ B hml hv
  obtain ⟨rfl, hH, hP, hK, hN⟩ := hv
  subst hH
  have hx := B.exec
  have hb := B.bytes
  have hr := B.returns
  have hts := atoms_spec (ws := wsX2_everything) B.pre
  have hown : s.vm.findClass RX2 = some m.cls := findClass_of_methodNamed B.named
  have hlocks := B.notSynchronized
  have hS : va_S (fun _ : Nat => False) s.heap s.heap [] := va_S.rf
  have hiX2 : ∀ w ∈ u_ws RX2 TX2 3, w ∈ wsX2_everything := by decide +kernel
  have hl := lv_entry ([.ref dr]) (n := 1) (Nat.le_of_ble_eq_true rfl)
  rw [lg_entry_eq]
  generalize (lg_sl ([.ref dr]) ++ List.replicate (1 - (lg_sl ([.ref dr])).length) Slot.unset).toArray = ls at hl ⊢
  have hl : lv_has ls 1 [(0, .ref dr)] := hl
  refine lv_iconst (v := 1) hx hb dX2_everything_0 (by decide +kernel) ?_
  refine lv_aload_n hx hb dX2_everything_1 rfl (lv_at hl 0 rfl) ?_
  refine va_get (D := (dC, dI)) (ci := 2) (v := .int (nI n)) (C := RX2) (T := TX2) (N := 3) hx hb hts hiX2 hown hK hP 0 rfl rfl 2 (by decide) (hts (.fieldLink RX2 18 "MadeItSo$Drawing" "things" "I") (by decide +kernel)) (fun _ h9 => h9) rfl dX2_everything_2 ?_
  refine lv_ishl hx hb dX2_everything_5 ?_
  refine lv_iconst (v := 1) hx hb dX2_everything_6 (by decide +kernel) ?_
  refine lv_isub hx hb dX2_everything_7 ?_
  refine W.widen (k := 0) (n := 0) (Nat.le_of_ble_eq_true rfl) (Nat.le_of_ble_eq_true rfl) ?_
  exact W.iret (v := ((1 <<< ((nI n) &&& 31)) - 1)) hx hb hr (fun t ht hW => ⟨⟨((1 <<< ((nI n) &&& 31)) - 1), (), rfl, (mz_evy hn), ht⟩, hS.F ht⟩) hS.2.2 dX2_everything_8
set_option maxHeartbeats 1000000 in
set_option maxRecDepth 100000 in
theorem mz_h_x_isHeap (l : Launch) (dC : Nat → ClassId) (dI : Nat → Nat → Nat) (cI cJ cZ : ClassId) (mx : Nat) (dr : Nat) (th : Nat) (bk : Nat) (wt : Nat) (tt : Nat) (lh : Nat) (la : Nat) (sh : Int32) (ab : Int64) (be : Int64) (dp : Nat) (dc : Nat) (n : Nat) (p0 : Int32) (Hq : Heap) (hn : n ≤ 8) : Met l yX7_isHeap wsX7_isHeap ({ frames := 1, cells := 0, slots := 0, locals := 20 }) (va_Pc [.ref mx, .int p0] (fun U => U.heap = Hq ∧ va_P (dC, dI) vwCl [(mx, .inr (7, [.ref dr, .ref th, .ref bk, .ref wt, .ref tt, .ref lh, .ref la, .int sh, .long ab, .long be])), (dr, .inr (2, [.ref dp, .ref dc, .int (nI n)]))] Hq ∧ va_K (dC, dI) vwCl [(cI, FieldType.int), (cJ, FieldType.long), (cZ, FieldType.boolean)] U ∧ mz_N U)) (va_Qi (fun (r : Int32) (_ : Unit) => (r = 1 ∧ mz_hp n p0) ∨ (r = 0 ∧ ¬ mz_hp n p0)) (fun _ t => t.heap = Hq) (fun _ : Nat => False)) 0 0 (fun _ : Nat => False) := by
  refine Met.ofW (cc := cX7_isHeap) (maxL := 2) (ret := (some .boolean)) (by decide) rfl ?_
  intro p e s m args below meth c s₁ B hml hv
  obtain ⟨rfl, hH, hP, hK, hN⟩ := hv
  subst hH
  have hx := B.exec
  have hb := B.bytes
  have hr := B.returns
  have hts := atoms_spec (ws := wsX7_isHeap) B.pre
  have hown : s.vm.findClass RX7 = some m.cls := findClass_of_methodNamed B.named
  have hlocks := B.notSynchronized
  have hS : va_S (fun _ : Nat => False) s.heap s.heap [] := va_S.rf
  have hiX7 : ∀ w ∈ u_ws RX7 TX7 10, w ∈ wsX7_isHeap := by decide +kernel
  have hl := lv_entry ([.ref mx, .int p0]) (n := 2) (Nat.le_of_ble_eq_true rfl)
  rw [lg_entry_eq]
  generalize (lg_sl ([.ref mx, .int p0]) ++ List.replicate (2 - (lg_sl ([.ref mx, .int p0])).length) Slot.unset).toArray = ls at hl ⊢
  have hl : lv_has ls 2 [(0, .ref mx), (1, .int p0)] := hl
  refine lv_iload_n hx hb dX7_isHeap_0 rfl (lv_at hl 1 rfl) ?_
  refine lv_aload_n hx hb dX7_isHeap_1 rfl (lv_at hl 0 rfl) ?_
  refine va_get (D := (dC, dI)) (ci := 7) (v := .ref dr) (C := RX7) (T := TX7) (N := 10) hx hb hts hiX7 hown hK hP 0 rfl rfl 0 (by decide) (hts (.fieldLink RX7 12 "MadeItSo" "drawing" "LMadeItSo$Drawing;") (by decide +kernel)) (fun _ h9 => h9) rfl dX7_isHeap_2 ?_
  have hPc := hP.sub (ws' := [(dr, .inr (2, [.ref dp, .ref dc, .int (nI n)]))]) [1] rfl
  refine va_calli (va_runV (As := []) (rest := [.int p0]) ⟨hx, hb, hml, hown, hts⟩ (mz_h_everything l dC dI cI cJ cZ dr dp dc n s.heap (by first | assumption | omega)) (cwV 0 hts gX7_isHeap_X2_everything rfl rfl rfl (by decide +kernel) ⟨Nat.le_of_ble_eq_true rfl, Nat.le_of_ble_eq_true rfl⟩) ⟨fun a U g mk q => mz_blP q, va_recv hK hPc (ci := 2) (q0 := 0) rfl rfl, fun U hU hW => ⟨rfl, hU, hPc, va_K.moved hW.alike hK, mz_nw hW hN⟩⟩ rfl rfl hl.1 rfl (lv_room (Nat.le_of_ble_eq_true rfl)) dX7_isHeap_5 ⟨Nat.le_of_ble_eq_true rfl, Nat.le_of_ble_eq_true rfl⟩) hS (fun q _ h => h.elim) (fun q h => h.elim) (fun r_5 u t H1 locs ht hvm hw_5 hB hz1 hk1 hS => ?_)
  have hE : s.heap = H1 := hB.symm.trans ht
  subst hE
  obtain rfl : r_5 = (nI (2 ^ n - 1)) := hw_5
  refine lv_iconst (v := (-1)) hx hb dX7_isHeap_8 (by decide +kernel) ?_
  refine lv_ixor hx hb dX7_isHeap_9 ?_
  refine lv_iand hx hb dX7_isHeap_10 ?_
  refine lv_if_ne (tgt := 18) hx hb dX7_isHeap_11 (by decide) (fun c_11 => ?_) (fun c_11 => ?_)
  · skip
    refine lv_iconst (v := 0) hx hb dX7_isHeap_18 (by decide +kernel) ?_
    refine W.widen (k := 0) (n := 0) (Nat.le_of_ble_eq_true rfl) (Nat.le_of_ble_eq_true rfl) ?_
    exact W.zret (v := 0) hx hb hr (mz_nz (by decide +kernel)) (fun t ht hW => ⟨⟨0, (), rfl, Or.inr ⟨rfl, mz_hp_n hn c_11⟩, ht⟩, hS.F ht⟩) hS.2.2 dX7_isHeap_19
  · skip
    refine lv_iconst (v := 1) hx hb dX7_isHeap_14 (by decide +kernel) ?_
    refine lv_goto (tgt := 19) hx hb dX7_isHeap_15 (by decide) ?_
    refine W.widen (k := 0) (n := 0) (Nat.le_of_ble_eq_true rfl) (Nat.le_of_ble_eq_true rfl) ?_
    exact W.zret (v := 1) hx hb hr (mz_nz (by decide +kernel)) (fun t ht hW => ⟨⟨1, (), rfl, Or.inl ⟨rfl, mz_hp_y hn c_11⟩, ht⟩, hS.F ht⟩) hS.2.2 dX7_isHeap_19
set_option maxHeartbeats 1000000 in
set_option maxRecDepth 100000 in
theorem mz_h_x_isSetting (l : Launch) (dC : Nat → ClassId) (dI : Nat → Nat → Nat) (cI cJ cZ : ClassId) (mx : Nat) (dr : Nat) (th : Nat) (bk : Nat) (wt : Nat) (tt : Nat) (lh : Nat) (la : Nat) (sh : Int32) (ab : Int64) (be : Int64) (dp : Nat) (dc : Nat) (n : Nat) (p0 : Int32) (Hq : Heap) (hn : n ≤ 8) : Met l yX7_isSetting wsX7_isSetting ({ frames := 2, cells := 0, slots := 0, locals := 41 }) (va_Pc [.ref mx, .int p0] (fun U => U.heap = Hq ∧ va_P (dC, dI) vwCl [(mx, .inr (7, [.ref dr, .ref th, .ref bk, .ref wt, .ref tt, .ref lh, .ref la, .int sh, .long ab, .long be])), (dr, .inr (2, [.ref dp, .ref dc, .int (nI n)]))] Hq ∧ va_K (dC, dI) vwCl [(cI, FieldType.int), (cJ, FieldType.long), (cZ, FieldType.boolean)] U ∧ mz_N U)) (va_Qi (fun (r : Int32) (_ : Unit) => (r = 1 ∧ mz_stg n p0) ∨ (r = 0 ∧ ¬ mz_stg n p0)) (fun _ t => t.heap = Hq) (fun _ : Nat => False)) 0 0 (fun _ : Nat => False) := by
  refine Met.ofW (cc := cX7_isSetting) (maxL := 2) (ret := (some .boolean)) (by decide) rfl ?_
  intro p e s m args below meth c s₁ B hml hv
  obtain ⟨rfl, hH, hP, hK, hN⟩ := hv
  subst hH
  have hx := B.exec
  have hb := B.bytes
  have hr := B.returns
  have hts := atoms_spec (ws := wsX7_isSetting) B.pre
  have hown : s.vm.findClass RX7 = some m.cls := findClass_of_methodNamed B.named
  have hlocks := B.notSynchronized
  have hS : va_S (fun _ : Nat => False) s.heap s.heap [] := va_S.rf
  have hl := lv_entry ([.ref mx, .int p0]) (n := 2) (Nat.le_of_ble_eq_true rfl)
  rw [lg_entry_eq]
  generalize (lg_sl ([.ref mx, .int p0]) ++ List.replicate (2 - (lg_sl ([.ref mx, .int p0])).length) Slot.unset).toArray = ls at hl ⊢
  have hl : lv_has ls 2 [(0, .ref mx), (1, .int p0)] := hl
  refine lv_iload_n hx hb dX7_isSetting_0 rfl (lv_at hl 1 rfl) ?_
  refine lv_bipush (v := 16) hx hb dX7_isSetting_1 (by decide +kernel) ?_
  refine lv_iushr hx hb dX7_isSetting_3 rfl ?_
  refine lv_topi (fun v_3 ev_3 => ?_)
  refine lv_if_ne (tgt := 36) hx hb dX7_isSetting_4 (by decide) (fun c_4 => ?_) (fun c_4 => ?_)
  · skip
    refine lv_iconst (v := 0) hx hb dX7_isSetting_36 (by decide +kernel) ?_
    refine W.widen (k := 0) (n := 0) (Nat.le_of_ble_eq_true rfl) (Nat.le_of_ble_eq_true rfl) ?_
    exact W.zret (v := 0) hx hb hr (mz_nz (by decide +kernel)) (fun t ht hW => ⟨⟨0, (), rfl, Or.inr ⟨rfl, mz_set_n1 ev_3 c_4⟩, ht⟩, hS.F ht⟩) hS.2.2 dX7_isSetting_37
  · skip
    refine lv_aload_n hx hb dX7_isSetting_7 rfl (lv_at hl 0 rfl) ?_
    refine lv_iload_n hx hb dX7_isSetting_8 rfl (lv_at hl 1 rfl) ?_
    have hPc := hP.sub (ws' := []) [] rfl
    refine va_calli (va_runS (As := [.int p0]) (rest := [.ref mx]) ⟨hx, hb, hml, hown, hts⟩ (mz_h_heapOf l dC dI cI cJ cZ p0 s.heap ) (va_cwS 1 hts gX7_isSetting_X7_heapOf rfl rfl rfl (by decide +kernel) ⟨Nat.le_of_ble_eq_true rfl, Nat.le_of_ble_eq_true rfl⟩) ⟨fun a U g mk q => mz_blP q, fun U hU hW => ⟨rfl, hU, hPc, va_K.moved hW.alike hK, mz_nw hW hN⟩⟩ rfl rfl hl.1 rfl (lv_room (Nat.le_of_ble_eq_true rfl)) dX7_isSetting_9 ⟨Nat.le_of_ble_eq_true rfl, Nat.le_of_ble_eq_true rfl⟩) hS (fun q _ h => h.elim) (fun q h => h.elim) (fun r_9 u t H1 locs ht hvm hw_9 hB hz1 hk1 hS => ?_)
    have hE : s.heap = H1 := hB.symm.trans ht
    subst hE
    obtain rfl : r_9 = (p0 &&& 255) := hw_9
    have hPc := hP.sub (ws' := [(mx, .inr (7, [.ref dr, .ref th, .ref bk, .ref wt, .ref tt, .ref lh, .ref la, .int sh, .long ab, .long be])), (dr, .inr (2, [.ref dp, .ref dc, .int (nI n)]))]) [0, 1] rfl
    refine va_calli (va_runV (As := [.int (p0 &&& 255)]) (rest := []) ⟨hx, hb, hml, hown, hts⟩ (mz_h_x_isHeap l dC dI cI cJ cZ mx dr th bk wt tt lh la sh ab be dp dc n (p0 &&& 255) s.heap (by first | assumption | omega)) (cwV 1 hts gX7_isSetting_X7_isHeap rfl rfl rfl (by decide +kernel) ⟨Nat.le_of_ble_eq_true rfl, Nat.le_of_ble_eq_true rfl⟩) ⟨fun a U g mk q => mz_blP q, va_recv hK hPc (ci := 7) (q0 := 0) rfl rfl, fun U hU hW => ⟨rfl, hU, hPc, va_K.moved hW.alike hK, mz_nw hW hN⟩⟩ rfl rfl hl.1 rfl (lv_room (Nat.le_of_ble_eq_true rfl)) dX7_isSetting_12 ⟨Nat.le_of_ble_eq_true rfl, Nat.le_of_ble_eq_true rfl⟩) hS (fun q _ h => h.elim) (fun q h => h.elim) (fun r_12 u t H1 locs ht hvm hw_12 hB hz1 hk1 hS => ?_)
    have hE : s.heap = H1 := hB.symm.trans ht
    subst hE
    rcases (show (r_12 = 1 ∧ mz_hp n (p0 &&& 255)) ∨ (r_12 = 0 ∧ ¬ mz_hp n (p0 &&& 255)) from hw_12) with ⟨rfl, hc_12⟩ | ⟨rfl, hc_12⟩
    · skip
      refine lv_if_eq (tgt := 36) hx hb dX7_isSetting_15 (by decide) (fun c_15 => absurd c_15 (by decide +kernel)) (fun _ => ?_)
      refine lv_iload_n hx hb dX7_isSetting_18 rfl (lv_at hl 1 rfl) ?_
      have hPc := hP.sub (ws' := []) [] rfl
      refine va_calli (va_runS (As := [.int p0]) (rest := []) ⟨hx, hb, hml, hown, hts⟩ (mz_h_onesOf l dC dI cI cJ cZ p0 s.heap ) (va_cwS 1 hts gX7_isSetting_X7_onesOf rfl rfl rfl (by decide +kernel) ⟨Nat.le_of_ble_eq_true rfl, Nat.le_of_ble_eq_true rfl⟩) ⟨fun a U g mk q => mz_blP q, fun U hU hW => ⟨rfl, hU, hPc, va_K.moved hW.alike hK, mz_nw hW hN⟩⟩ rfl rfl hl.1 rfl (lv_room (Nat.le_of_ble_eq_true rfl)) dX7_isSetting_19 ⟨Nat.le_of_ble_eq_true rfl, Nat.le_of_ble_eq_true rfl⟩) hS (fun q _ h => h.elim) (fun q h => h.elim) (fun r_19 u t H1 locs ht hvm hw_19 hB hz1 hk1 hS => ?_)
      have hE : s.heap = H1 := hB.symm.trans ht
      subst hE
      obtain rfl : r_19 = ((p0 >>> (8 &&& 31)) &&& 255) := hw_19
      refine lv_iload_n hx hb dX7_isSetting_22 rfl (lv_at hl 1 rfl) ?_
      have hPc := hP.sub (ws' := []) [] rfl
      refine va_calli (va_runS (As := [.int p0]) (rest := [.int ((p0 >>> (8 &&& 31)) &&& 255)]) ⟨hx, hb, hml, hown, hts⟩ (mz_h_heapOf l dC dI cI cJ cZ p0 s.heap ) (va_cwS 1 hts gX7_isSetting_X7_heapOf rfl rfl rfl (by decide +kernel) ⟨Nat.le_of_ble_eq_true rfl, Nat.le_of_ble_eq_true rfl⟩) ⟨fun a U g mk q => mz_blP q, fun U hU hW => ⟨rfl, hU, hPc, va_K.moved hW.alike hK, mz_nw hW hN⟩⟩ rfl rfl hl.1 rfl (lv_room (Nat.le_of_ble_eq_true rfl)) dX7_isSetting_23 ⟨Nat.le_of_ble_eq_true rfl, Nat.le_of_ble_eq_true rfl⟩) hS (fun q _ h => h.elim) (fun q h => h.elim) (fun r_23 u t H1 locs ht hvm hw_23 hB hz1 hk1 hS => ?_)
      have hE : s.heap = H1 := hB.symm.trans ht
      subst hE
      obtain rfl : r_23 = (p0 &&& 255) := hw_23
      refine lv_iconst (v := (-1)) hx hb dX7_isSetting_26 (by decide +kernel) ?_
      refine lv_ixor hx hb dX7_isSetting_27 ?_
      refine lv_iand hx hb dX7_isSetting_28 ?_
      refine lv_if_ne (tgt := 36) hx hb dX7_isSetting_29 (by decide) (fun c_29 => ?_) (fun c_29 => ?_)
      · skip
        refine lv_iconst (v := 0) hx hb dX7_isSetting_36 (by decide +kernel) ?_
        refine W.widen (k := 0) (n := 0) (Nat.le_of_ble_eq_true rfl) (Nat.le_of_ble_eq_true rfl) ?_
        exact W.zret (v := 0) hx hb hr (mz_nz (by decide +kernel)) (fun t ht hW => ⟨⟨0, (), rfl, Or.inr ⟨rfl, mz_set_n3 c_29⟩, ht⟩, hS.F ht⟩) hS.2.2 dX7_isSetting_37
      · skip
        refine lv_iconst (v := 1) hx hb dX7_isSetting_32 (by decide +kernel) ?_
        refine lv_goto (tgt := 37) hx hb dX7_isSetting_33 (by decide) ?_
        refine W.widen (k := 0) (n := 0) (Nat.le_of_ble_eq_true rfl) (Nat.le_of_ble_eq_true rfl) ?_
        exact W.zret (v := 1) hx hb hr (mz_nz (by decide +kernel)) (fun t ht hW => ⟨⟨1, (), rfl, Or.inl ⟨rfl, mz_set_y ev_3 c_4 hc_12 c_29⟩, ht⟩, hS.F ht⟩) hS.2.2 dX7_isSetting_37
    · skip
      refine lv_if_eq (tgt := 36) hx hb dX7_isSetting_15 (by decide) (fun _ => ?_) (fun c_15 => absurd (by decide +kernel) c_15)
      refine lv_iconst (v := 0) hx hb dX7_isSetting_36 (by decide +kernel) ?_
      refine W.widen (k := 0) (n := 0) (Nat.le_of_ble_eq_true rfl) (Nat.le_of_ble_eq_true rfl) ?_
      exact W.zret (v := 0) hx hb hr (mz_nz (by decide +kernel)) (fun t ht hW => ⟨⟨0, (), rfl, Or.inr ⟨rfl, mz_set_n2 hc_12⟩, ht⟩, hS.F ht⟩) hS.2.2 dX7_isSetting_37
set_option maxHeartbeats 1000000 in
set_option maxRecDepth 100000 in
theorem mz_h_m_isHeap (l : Launch) (dC : Nat → ClassId) (dI : Nat → Nat → Nat) (cI cJ cZ : ClassId) (mo : Nat) (m1 : Nat) (m2 : Nat) (m3 : Nat) (m6 : Nat) (m7 : Nat) (m8 : Nat) (m9 : Nat) (m10 : Nat) (m11 : Nat) (m12 : Nat) (m13 : Nat) (m14 : Nat) (m15 : Nat) (m16 : Nat) (n : Nat) (ka : Int64) (kb : Int64) (p0 : Int32) (Hq : Heap) (hn : n ≤ 8) : Met l yX8_isHeap wsX8_isHeap ({ frames := 0, cells := 0, slots := 0, locals := 0 }) (va_Pc [.ref mo, .int p0] (fun U => U.heap = Hq ∧ va_P (dC, dI) vwCl [(mo, .inr (8, [.int (nI n), .ref m1, .ref m2, .ref m3, .long ka, .long kb, .ref m6, .ref m7, .ref m8, .ref m9, .ref m10, .ref m11, .ref m12, .ref m13, .ref m14, .ref m15, .ref m16]))] Hq ∧ va_K (dC, dI) vwCl [(cI, FieldType.int), (cJ, FieldType.long), (cZ, FieldType.boolean)] U ∧ mz_N U)) (va_Qi (fun (r : Int32) (_ : Unit) => (r = 1 ∧ mz_hp n p0) ∨ (r = 0 ∧ ¬ mz_hp n p0)) (fun _ t => t.heap = Hq) (fun _ : Nat => False)) 0 0 (fun _ : Nat => False) := by
  refine Met.ofW (cc := cX8_isHeap) (maxL := 2) (ret := (some .boolean)) (by decide) rfl ?_
  intro p e s m args below meth c s₁ B hml hv
  obtain ⟨rfl, hH, hP, hK, hN⟩ := hv
  subst hH
  have hx := B.exec
  have hb := B.bytes
  have hr := B.returns
  have hts := atoms_spec (ws := wsX8_isHeap) B.pre
  have hown : s.vm.findClass RX8 = some m.cls := findClass_of_methodNamed B.named
  have hlocks := B.notSynchronized
  have hS : va_S (fun _ : Nat => False) s.heap s.heap [] := va_S.rf
  have hiX8 : ∀ w ∈ u_ws RX8 TX8 17, w ∈ wsX8_isHeap := by decide +kernel
  have hl := lv_entry ([.ref mo, .int p0]) (n := 2) (Nat.le_of_ble_eq_true rfl)
  rw [lg_entry_eq]
  generalize (lg_sl ([.ref mo, .int p0]) ++ List.replicate (2 - (lg_sl ([.ref mo, .int p0])).length) Slot.unset).toArray = ls at hl ⊢
  have hl : lv_has ls 2 [(0, .ref mo), (1, .int p0)] := hl
  refine lv_iload_n hx hb dX8_isHeap_0 rfl (lv_at hl 1 rfl) ?_
  refine lv_if_lt (tgt := 18) hx hb dX8_isHeap_1 (by decide) (fun c_1 => ?_) (fun c_1 => ?_)
  · skip
    refine lv_iconst (v := 0) hx hb dX8_isHeap_18 (by decide +kernel) ?_
    refine W.widen (k := 0) (n := 0) (Nat.le_of_ble_eq_true rfl) (Nat.le_of_ble_eq_true rfl) ?_
    exact W.zret (v := 0) hx hb hr (mz_nz (by decide +kernel)) (fun t ht hW => ⟨⟨0, (), rfl, Or.inr ⟨rfl, mz_hpm_n0 hn c_1⟩, ht⟩, hS.F ht⟩) hS.2.2 dX8_isHeap_19
  · skip
    refine lv_iload_n hx hb dX8_isHeap_4 rfl (lv_at hl 1 rfl) ?_
    refine lv_iconst (v := 1) hx hb dX8_isHeap_5 (by decide +kernel) ?_
    refine lv_aload_n hx hb dX8_isHeap_6 rfl (lv_at hl 0 rfl) ?_
    refine va_get (D := (dC, dI)) (ci := 8) (v := .int (nI n)) (C := RX8) (T := TX8) (N := 17) hx hb hts hiX8 hown hK hP 0 rfl rfl 0 (by decide) (hts (.fieldLink RX8 58 "MadeItSoModel" "many" "I") (by decide +kernel)) (fun _ h9 => h9) rfl dX8_isHeap_7 ?_
    refine lv_ishl hx hb dX8_isHeap_10 ?_
    refine lv_icmp_ge (tgt := 18) hx hb dX8_isHeap_11 (by decide) (fun c_11 => ?_) (fun c_11 => ?_)
    · skip
      refine lv_iconst (v := 0) hx hb dX8_isHeap_18 (by decide +kernel) ?_
      refine W.widen (k := 0) (n := 0) (Nat.le_of_ble_eq_true rfl) (Nat.le_of_ble_eq_true rfl) ?_
      exact W.zret (v := 0) hx hb hr (mz_nz (by decide +kernel)) (fun t ht hW => ⟨⟨0, (), rfl, Or.inr ⟨rfl, mz_hpm_n1 hn c_11⟩, ht⟩, hS.F ht⟩) hS.2.2 dX8_isHeap_19
    · skip
      refine lv_iconst (v := 1) hx hb dX8_isHeap_14 (by decide +kernel) ?_
      refine lv_goto (tgt := 19) hx hb dX8_isHeap_15 (by decide) ?_
      refine W.widen (k := 0) (n := 0) (Nat.le_of_ble_eq_true rfl) (Nat.le_of_ble_eq_true rfl) ?_
      exact W.zret (v := 1) hx hb hr (mz_nz (by decide +kernel)) (fun t ht hW => ⟨⟨1, (), rfl, Or.inl ⟨rfl, mz_hpm_y hn c_1 c_11⟩, ht⟩, hS.F ht⟩) hS.2.2 dX8_isHeap_19
set_option maxHeartbeats 1000000 in
set_option maxRecDepth 100000 in
theorem mz_h_m_isSetting (l : Launch) (dC : Nat → ClassId) (dI : Nat → Nat → Nat) (cI cJ cZ : ClassId) (mo : Nat) (m1 : Nat) (m2 : Nat) (m3 : Nat) (m6 : Nat) (m7 : Nat) (m8 : Nat) (m9 : Nat) (m10 : Nat) (m11 : Nat) (m12 : Nat) (m13 : Nat) (m14 : Nat) (m15 : Nat) (m16 : Nat) (n : Nat) (ka : Int64) (kb : Int64) (p0 : Int32) (Hq : Heap) (hn : n ≤ 8) : Met l yX8_isSetting wsX8_isSetting ({ frames := 1, cells := 0, slots := 0, locals := 21 }) (va_Pc [.ref mo, .int p0] (fun U => U.heap = Hq ∧ va_P (dC, dI) vwCl [(mo, .inr (8, [.int (nI n), .ref m1, .ref m2, .ref m3, .long ka, .long kb, .ref m6, .ref m7, .ref m8, .ref m9, .ref m10, .ref m11, .ref m12, .ref m13, .ref m14, .ref m15, .ref m16]))] Hq ∧ va_K (dC, dI) vwCl [(cI, FieldType.int), (cJ, FieldType.long), (cZ, FieldType.boolean)] U ∧ mz_N U)) (va_Qi (fun (r : Int32) (_ : Unit) => (r = 1 ∧ mz_stg n p0) ∨ (r = 0 ∧ ¬ mz_stg n p0)) (fun _ t => t.heap = Hq) (fun _ : Nat => False)) 0 0 (fun _ : Nat => False) := by
  refine Met.ofW (cc := cX8_isSetting) (maxL := 2) (ret := (some .boolean)) (by decide) rfl ?_
  intro p e s m args below meth c s₁ B hml hv
  obtain ⟨rfl, hH, hP, hK, hN⟩ := hv
  subst hH
  have hx := B.exec
  have hb := B.bytes
  have hr := B.returns
  have hts := atoms_spec (ws := wsX8_isSetting) B.pre
  have hown : s.vm.findClass RX8 = some m.cls := findClass_of_methodNamed B.named
  have hlocks := B.notSynchronized
  have hS : va_S (fun _ : Nat => False) s.heap s.heap [] := va_S.rf
  have hl := lv_entry ([.ref mo, .int p0]) (n := 2) (Nat.le_of_ble_eq_true rfl)
  rw [lg_entry_eq]
  generalize (lg_sl ([.ref mo, .int p0]) ++ List.replicate (2 - (lg_sl ([.ref mo, .int p0])).length) Slot.unset).toArray = ls at hl ⊢
  have hl : lv_has ls 2 [(0, .ref mo), (1, .int p0)] := hl
  refine lv_iload_n hx hb dX8_isSetting_0 rfl (lv_at hl 1 rfl) ?_
  refine lv_if_lt (tgt := 41) hx hb dX8_isSetting_1 (by decide) (fun c_1 => ?_) (fun c_1 => ?_)
  · skip
    refine lv_iconst (v := 0) hx hb dX8_isSetting_41 (by decide +kernel) ?_
    refine W.widen (k := 0) (n := 0) (Nat.le_of_ble_eq_true rfl) (Nat.le_of_ble_eq_true rfl) ?_
    exact W.zret (v := 0) hx hb hr (mz_nz (by decide +kernel)) (fun t ht hW => ⟨⟨0, (), rfl, Or.inr ⟨rfl, mz_setm_n0 c_1⟩, ht⟩, hS.F ht⟩) hS.2.2 dX8_isSetting_42
  · skip
    refine lv_iload_n hx hb dX8_isSetting_4 rfl (lv_at hl 1 rfl) ?_
    refine lv_ldc hx hb hown (hts (.constant RX8 62 (65536)) (by decide +kernel)) dX8_isSetting_5 ?_
    refine lv_icmp_ge (tgt := 41) hx hb dX8_isSetting_7 (by decide) (fun c_7 => ?_) (fun c_7 => ?_)
    · skip
      refine lv_iconst (v := 0) hx hb dX8_isSetting_41 (by decide +kernel) ?_
      refine W.widen (k := 0) (n := 0) (Nat.le_of_ble_eq_true rfl) (Nat.le_of_ble_eq_true rfl) ?_
      exact W.zret (v := 0) hx hb hr (mz_nz (by decide +kernel)) (fun t ht hW => ⟨⟨0, (), rfl, Or.inr ⟨rfl, mz_setm_n1 c_7⟩, ht⟩, hS.F ht⟩) hS.2.2 dX8_isSetting_42
    · skip
      refine lv_aload_n hx hb dX8_isSetting_10 rfl (lv_at hl 0 rfl) ?_
      refine lv_iload_n hx hb dX8_isSetting_11 rfl (lv_at hl 1 rfl) ?_
      refine lv_sipush (v := 255) hx hb dX8_isSetting_12 (by decide +kernel) ?_
      refine lv_iand hx hb dX8_isSetting_15 ?_
      have hPc := hP.sub (ws' := [(mo, .inr (8, [.int (nI n), .ref m1, .ref m2, .ref m3, .long ka, .long kb, .ref m6, .ref m7, .ref m8, .ref m9, .ref m10, .ref m11, .ref m12, .ref m13, .ref m14, .ref m15, .ref m16]))]) [0] rfl
      refine va_calli (va_runV (As := [.int (p0 &&& 255)]) (rest := []) ⟨hx, hb, hml, hown, hts⟩ (mz_h_m_isHeap l dC dI cI cJ cZ mo m1 m2 m3 m6 m7 m8 m9 m10 m11 m12 m13 m14 m15 m16 n ka kb (p0 &&& 255) s.heap (by first | assumption | omega)) (cwV 1 hts gX8_isSetting_X8_isHeap rfl rfl rfl (by decide +kernel) ⟨Nat.le_of_ble_eq_true rfl, Nat.le_of_ble_eq_true rfl⟩) ⟨fun a U g mk q => mz_blP q, va_recv hK hPc (ci := 8) (q0 := 0) rfl rfl, fun U hU hW => ⟨rfl, hU, hPc, va_K.moved hW.alike hK, mz_nw hW hN⟩⟩ rfl rfl hl.1 rfl (lv_room (Nat.le_of_ble_eq_true rfl)) dX8_isSetting_16 ⟨Nat.le_of_ble_eq_true rfl, Nat.le_of_ble_eq_true rfl⟩) hS (fun q _ h => h.elim) (fun q h => h.elim) (fun r_16 u t H1 locs ht hvm hw_16 hB hz1 hk1 hS => ?_)
      have hE : s.heap = H1 := hB.symm.trans ht
      subst hE
      rcases (show (r_16 = 1 ∧ mz_hp n (p0 &&& 255)) ∨ (r_16 = 0 ∧ ¬ mz_hp n (p0 &&& 255)) from hw_16) with ⟨rfl, hc_16⟩ | ⟨rfl, hc_16⟩
      · skip
        refine lv_if_eq (tgt := 41) hx hb dX8_isSetting_19 (by decide) (fun c_19 => absurd c_19 (by decide +kernel)) (fun _ => ?_)
        refine lv_iload_n hx hb dX8_isSetting_22 rfl (lv_at hl 1 rfl) ?_
        refine lv_bipush (v := 8) hx hb dX8_isSetting_23 (by decide +kernel) ?_
        refine lv_ishr hx hb dX8_isSetting_25 ?_
        refine lv_iload_n hx hb dX8_isSetting_26 rfl (lv_at hl 1 rfl) ?_
        refine lv_sipush (v := 255) hx hb dX8_isSetting_27 (by decide +kernel) ?_
        refine lv_iand hx hb dX8_isSetting_30 ?_
        refine lv_iconst (v := (-1)) hx hb dX8_isSetting_31 (by decide +kernel) ?_
        refine lv_ixor hx hb dX8_isSetting_32 ?_
        refine lv_iand hx hb dX8_isSetting_33 ?_
        refine lv_if_ne (tgt := 41) hx hb dX8_isSetting_34 (by decide) (fun c_34 => ?_) (fun c_34 => ?_)
        · skip
          refine lv_iconst (v := 0) hx hb dX8_isSetting_41 (by decide +kernel) ?_
          refine W.widen (k := 0) (n := 0) (Nat.le_of_ble_eq_true rfl) (Nat.le_of_ble_eq_true rfl) ?_
          exact W.zret (v := 0) hx hb hr (mz_nz (by decide +kernel)) (fun t ht hW => ⟨⟨0, (), rfl, Or.inr ⟨rfl, mz_setm_n3 c_34⟩, ht⟩, hS.F ht⟩) hS.2.2 dX8_isSetting_42
        · skip
          refine lv_iconst (v := 1) hx hb dX8_isSetting_37 (by decide +kernel) ?_
          refine lv_goto (tgt := 42) hx hb dX8_isSetting_38 (by decide) ?_
          refine W.widen (k := 0) (n := 0) (Nat.le_of_ble_eq_true rfl) (Nat.le_of_ble_eq_true rfl) ?_
          exact W.zret (v := 1) hx hb hr (mz_nz (by decide +kernel)) (fun t ht hW => ⟨⟨1, (), rfl, Or.inl ⟨rfl, mz_setm_y c_1 c_7 hc_16 c_34⟩, ht⟩, hS.F ht⟩) hS.2.2 dX8_isSetting_42
      · skip
        refine lv_if_eq (tgt := 41) hx hb dX8_isSetting_19 (by decide) (fun _ => ?_) (fun c_19 => absurd (by decide +kernel) c_19)
        refine lv_iconst (v := 0) hx hb dX8_isSetting_41 (by decide +kernel) ?_
        refine W.widen (k := 0) (n := 0) (Nat.le_of_ble_eq_true rfl) (Nat.le_of_ble_eq_true rfl) ?_
        exact W.zret (v := 0) hx hb hr (mz_nz (by decide +kernel)) (fun t ht hW => ⟨⟨0, (), rfl, Or.inr ⟨rfl, mz_set_n2 hc_16⟩, ht⟩, hS.F ht⟩) hS.2.2 dX8_isSetting_42
set_option maxHeartbeats 1000000 in
set_option maxRecDepth 100000 in
theorem mz_h_rowOf (l : Launch) (dC : Nat → ClassId) (dI : Nat → Nat → Nat) (cI cJ cZ : ClassId) (p0 : Int32) (p1 : Int32) (Hq : Heap)  : Met l yX1_rowOf wsX1_rowOf ({ frames := 1, cells := 0, slots := 0, locals := 21 }) (va_Pc [.int p0, .int p1] (fun U => U.heap = Hq ∧ va_P (dC, dI) vwCl [] Hq ∧ va_K (dC, dI) vwCl [(cI, FieldType.int), (cJ, FieldType.long), (cZ, FieldType.boolean)] U ∧ mz_N U)) (va_Qi (fun (r : Int32) (_ : Unit) => r = (nI (mz_rw p0 p1 8))) (fun _ t => t.heap = Hq) (fun _ : Nat => False)) 0 0 (fun _ : Nat => False) := by
  refine Met.ofW (cc := cX1_rowOf) (maxL := 5) (ret := (some .int)) (by decide) rfl ?_
  intro p e s m args below meth c s₁ B hml hv
  obtain ⟨rfl, hH, hP, hK, hN⟩ := hv
  subst hH
  have hx := B.exec
  have hb := B.bytes
  have hr := B.returns
  have hts := atoms_spec (ws := wsX1_rowOf) B.pre
  have hown : s.vm.findClass RX1 = some m.cls := findClass_of_methodNamed B.named
  have hlocks := B.notSynchronized
  have hS : va_S (fun _ : Nat => False) s.heap s.heap [] := va_S.rf
  have hl := lv_entry ([.int p0, .int p1]) (n := 5) (Nat.le_of_ble_eq_true rfl)
  rw [lg_entry_eq]
  generalize (lg_sl ([.int p0, .int p1]) ++ List.replicate (5 - (lg_sl ([.int p0, .int p1])).length) Slot.unset).toArray = ls at hl ⊢
  have hl : lv_has ls 5 [(0, .int p0), (1, .int p1)] := hl
  refine lv_iconst (v := 0) hx hb dX1_rowOf_0 (by decide +kernel) ?_
  refine lv_istore_n (lv' := [(2, .int 0), (0, .int p0), (1, .int p1)]) hx hb dX1_rowOf_1 rfl hl (by decide) rfl (fun ls hl => ?_)
  refine lv_iconst (v := 0) hx hb dX1_rowOf_2 (by decide +kernel) ?_
  refine lv_istore_n (lv' := [(3, .int 0), (2, .int 0), (0, .int p0), (1, .int p1)]) hx hb dX1_rowOf_3 rfl hl (by decide) rfl (fun ls hl => ?_)
  refine lv_iconst (v := 0) hx hb dX1_rowOf_4 (by decide +kernel) ?_
  refine lv_istore (lv' := [(4, .int 0), (3, .int 0), (2, .int 0), (0, .int p0), (1, .int p1)]) hx hb dX1_rowOf_5 hl (by decide) rfl (fun ls hl => ?_)
  refine mz_loopU (fun k H locs ls => ∃ (i_7 : Nat), ∃ (x3_7 : Int32), ∃ (x2_7 : Int32), i_7 ≤ 8 ∧ (x2_7 = nI (mz_rw p0 p1 i_7)) ∧ (x3_7 = nI (mz_pc p0 i_7)) ∧ H = s.heap ∧ va_S (fun _ : Nat => False) s.heap H locs ∧ lv_has ls 5 [(4, .int (nI i_7)), (3, .int x3_7), (2, .int x2_7), (0, .int p0), (1, .int p1)] ∧ k = 8 - i_7) ?_ _ _ _ _ ⟨0, 0, 0, by omega, rfl, rfl, rfl, hS, lv_sub hl [0, 1, 2, 3, 4] rfl, rfl⟩
  intro k_7 H locs ls hI_7 ih_7
  obtain ⟨i_7, x3_7, x2_7, hi_7, hr_7, hc_7, hH_7, hS, hl, hk_7⟩ := hI_7
  subst hH_7
  subst hr_7
  subst hc_7
  refine lv_iload hx hb dX1_rowOf_7 (lv_at hl 0 rfl) ?_
  refine lv_bipush (v := 8) hx hb dX1_rowOf_9 (by decide +kernel) ?_
  refine lv_icmp_ge (tgt := 43) hx hb dX1_rowOf_11 (by decide) (fun c_11 => ?_) (fun c_11 => ?_)
  · skip
    have d_11 : 8 ≤ i_7 := (nI_leI (a := 8) (b := i_7) (by omega) (by omega)).mp c_11
    refine lv_iload_n hx hb dX1_rowOf_43 rfl (lv_at hl 2 rfl) ?_
    refine W.widen (k := 0) (n := 0) (Nat.le_of_ble_eq_true rfl) (Nat.le_of_ble_eq_true rfl) ?_
    exact W.iret (v := (nI (mz_rw p0 p1 i_7))) hx hb hr (fun t ht hW => ⟨⟨(nI (mz_rw p0 p1 i_7)), (), rfl, (by obtain rfl : i_7 = 8 := (by omega); rfl), ht⟩, hS.F ht⟩) hS.2.2 dX1_rowOf_44
  · skip
    have d_11 : ¬ 8 ≤ i_7 := fun h => c_11 ((nI_leI (a := 8) (b := i_7) (by omega) (by omega)).mpr h)
    refine lv_iload_n hx hb dX1_rowOf_14 rfl (lv_at hl 3 rfl) ?_
    refine lv_iload hx hb dX1_rowOf_15 (lv_at hl 0 rfl) ?_
    have hPc := hP.sub (ws' := []) [] rfl
    refine va_calli (va_runSN (As := [.int p0, .int (nI i_7)]) (rest := []) ⟨hx, hb, hml, hown, hts⟩ (mz_e_inHeap l dC dI cI cJ cZ p0 i_7 s.heap (by first | assumption | omega)) ⟨va_cnB (host := "MadeItSo") 2 hts gX1_rowOf_X7_inHeap_n23 rfl rfl rfl (hN (RX1, 23, yX7_inHeap, "MadeItSo") (by decide +kernel)) (hts (.initialized RX7) (by decide +kernel)) (by decide +kernel) ⟨Nat.le_of_ble_eq_true rfl, Nat.le_of_ble_eq_true rfl⟩, hts (.static yX7_inHeap) (by decide +kernel), trivial⟩ ⟨fun a U g mk q => mz_blP q, fun U hU hW => ⟨rfl, hU, hPc, va_K.moved hW.alike hK, mz_nw hW hN⟩⟩ rfl rfl hl.1 rfl (lv_room (Nat.le_of_ble_eq_true rfl)) dX1_rowOf_17 ⟨Nat.le_of_ble_eq_true rfl, Nat.le_of_ble_eq_true rfl⟩) hS (fun q _ h => h.elim) (fun q h => h.elim) (fun r_17 u t H1 locs ht hvm hw_17 hB hz1 hk1 hS => ?_)
    have hE : s.heap = H1 := hB.symm.trans ht
    subst hE
    rcases (show (r_17 = 1 ∧ mz_t p0 i_7 = true) ∨ (r_17 = 0 ∧ mz_t p0 i_7 = false) from hw_17) with ⟨rfl, ht_17⟩ | ⟨rfl, ht_17⟩
    · skip
      refine lv_if_eq (tgt := 37) hx hb dX1_rowOf_20 (by decide) (fun c_20 => absurd c_20 (by decide +kernel)) (fun _ => ?_)
      refine lv_iload_n hx hb dX1_rowOf_23 rfl (lv_at hl 2 rfl) ?_
      refine lv_iload_n hx hb dX1_rowOf_24 rfl (lv_at hl 4 rfl) ?_
      refine lv_iload hx hb dX1_rowOf_25 (lv_at hl 0 rfl) ?_
      refine lv_ishr hx hb dX1_rowOf_27 ?_
      refine lv_iconst (v := 1) hx hb dX1_rowOf_28 (by decide +kernel) ?_
      refine lv_iand hx hb dX1_rowOf_29 ?_
      refine lv_iload_n hx hb dX1_rowOf_30 rfl (lv_at hl 1 rfl) ?_
      refine lv_ishl hx hb dX1_rowOf_31 ?_
      refine lv_ior hx hb dX1_rowOf_32 ?_
      refine lv_istore_n (lv' := [(2, .int ((nI (mz_rw p0 p1 i_7)) ||| (((p1 >>> ((nI i_7) &&& 31)) &&& 1) <<< ((nI (mz_pc p0 i_7)) &&& 31)))), (4, .int (nI i_7)), (3, .int (nI (mz_pc p0 i_7))), (0, .int p0), (1, .int p1)]) hx hb dX1_rowOf_33 rfl hl (by decide) rfl (fun ls hl => ?_)
      refine lv_iinc (v := (nI (mz_pc p0 i_7 + 1))) (lv' := [(3, .int (nI (mz_pc p0 i_7 + 1))), (2, .int ((nI (mz_rw p0 p1 i_7)) ||| (((p1 >>> ((nI i_7) &&& 31)) &&& 1) <<< ((nI (mz_pc p0 i_7)) &&& 31)))), (4, .int (nI i_7)), (0, .int p0), (1, .int p1)]) hx hb dX1_rowOf_34 hl (k := 2) rfl (nI_1 _) (by decide) rfl (fun ls hl => ?_)
      refine lv_iinc (v := (nI (i_7 + 1))) (lv' := [(4, .int (nI (i_7 + 1))), (3, .int (nI (mz_pc p0 i_7 + 1))), (2, .int ((nI (mz_rw p0 p1 i_7)) ||| (((p1 >>> ((nI i_7) &&& 31)) &&& 1) <<< ((nI (mz_pc p0 i_7)) &&& 31)))), (0, .int p0), (1, .int p1)]) hx hb dX1_rowOf_37 hl (k := 2) rfl (nI_1 _) (by decide) rfl (fun ls hl => ?_)
      refine lv_goto (tgt := 7) hx hb dX1_rowOf_40 (by decide) ?_
      exact ih_7 _ (by omega) _ _ _ ⟨(i_7 + 1), (nI (mz_pc p0 i_7 + 1)), ((nI (mz_rw p0 p1 i_7)) ||| (((p1 >>> ((nI i_7) &&& 31)) &&& 1) <<< ((nI (mz_pc p0 i_7)) &&& 31))), by omega, (mz_rw_s (by omega) ht_17), (by rw [mz_pc_y ht_17]), rfl, hS, lv_sub hl [0, 1, 2, 3, 4] rfl, rfl⟩
    · skip
      refine lv_if_eq (tgt := 37) hx hb dX1_rowOf_20 (by decide) (fun _ => ?_) (fun c_20 => absurd (by decide +kernel) c_20)
      refine lv_iinc (v := (nI (i_7 + 1))) (lv' := [(4, .int (nI (i_7 + 1))), (3, .int (nI (mz_pc p0 i_7))), (2, .int (nI (mz_rw p0 p1 i_7))), (0, .int p0), (1, .int p1)]) hx hb dX1_rowOf_37 hl (k := 0) rfl (nI_1 _) (by decide) rfl (fun ls hl => ?_)
      refine lv_goto (tgt := 7) hx hb dX1_rowOf_40 (by decide) ?_
      exact ih_7 _ (by omega) _ _ _ ⟨(i_7 + 1), (nI (mz_pc p0 i_7)), (nI (mz_rw p0 p1 i_7)), by omega, (by rw [mz_rw_n ht_17]), (by rw [mz_pc_n ht_17]), rfl, hS, lv_sub hl [0, 1, 2, 3, 4] rfl, rfl⟩
set_option maxHeartbeats 1000000 in
set_option maxRecDepth 100000 in
theorem mz_h_partsUnder (l : Launch) (dC : Nat → ClassId) (dI : Nat → Nat → Nat) (cI cJ cZ : ClassId) (bk : Nat) (bp : Nat) (fb : Nat → Int32) (dr : Nat) (dp : Nat) (dc : Nat) (n : Nat) (fp : Nat → Int32) (j : Nat) (p2 : Int32) (p3 : Int32) (Hq : Heap) (hn : n ≤ 8) (hj : j < n) (hself : ∀ k, k < n → ∀ on, mz_rw (fp k) on 8 < 128) : Met l yX1_partsUnder wsX1_partsUnder ({ frames := 2, cells := 0, slots := 0, locals := 45 }) (va_Pc [.ref bk, .ref dr, .int (nI j), .int p2, .int p3] (fun U => U.heap = Hq ∧ va_P (dC, dI) vwCl [(bk, .inr (1, [.ref bp])), (bp, .inl (cI, 1024, .inl fb)), (dr, .inr (2, [.ref dp, .ref dc, .int (nI n)])), (dp, .inl (cI, 8, .inl fp))] Hq ∧ va_K (dC, dI) vwCl [(cI, FieldType.int), (cJ, FieldType.long), (cZ, FieldType.boolean)] U ∧ mz_N U)) (va_Qi (fun (r : Int32) (_ : Unit) => r = (mz_pu fp fb p3 j p2)) (fun _ t => t.heap = Hq) (fun _ : Nat => False)) 0 0 (fun _ : Nat => False) := by
  refine Met.ofW (cc := cX1_partsUnder) (maxL := 5) (ret := (some .int)) (by decide) rfl ?_
  intro p e s m args below meth c s₁ B hml hv
  obtain ⟨rfl, hH, hP, hK, hN⟩ := hv
  subst hH
  have hx := B.exec
  have hb := B.bytes
  have hr := B.returns
  have hts := atoms_spec (ws := wsX1_partsUnder) B.pre
  have hown : s.vm.findClass RX1 = some m.cls := findClass_of_methodNamed B.named
  have hlocks := B.notSynchronized
  have hS : va_S (fun _ : Nat => False) s.heap s.heap [] := va_S.rf
  have hl := lv_entry ([.ref bk, .ref dr, .int (nI j), .int p2, .int p3]) (n := 5) (Nat.le_of_ble_eq_true rfl)
  rw [lg_entry_eq]
  generalize (lg_sl ([.ref bk, .ref dr, .int (nI j), .int p2, .int p3]) ++ List.replicate (5 - (lg_sl ([.ref bk, .ref dr, .int (nI j), .int p2, .int p3])).length) Slot.unset).toArray = ls at hl ⊢
  have hl : lv_has ls 5 [(0, .ref bk), (1, .ref dr), (2, .int (nI j)), (3, .int p2), (4, .int p3)] := hl
  refine lv_iload hx hb dX1_partsUnder_0 (lv_at hl 4 rfl) ?_
  have hPc := hP.sub (ws' := []) [] rfl
  refine va_calli (va_runSN (As := [.int p3]) (rest := []) ⟨hx, hb, hml, hown, hts⟩ (mz_h_heapOf l dC dI cI cJ cZ p3 s.heap ) ⟨va_cnB (host := "MadeItSo") 1 hts gX1_partsUnder_X7_heapOf_n19 rfl rfl rfl (hN (RX1, 19, yX7_heapOf, "MadeItSo") (by decide +kernel)) (hts (.initialized RX7) (by decide +kernel)) (by decide +kernel) ⟨Nat.le_of_ble_eq_true rfl, Nat.le_of_ble_eq_true rfl⟩, hts (.static yX7_heapOf) (by decide +kernel), trivial⟩ ⟨fun a U g mk q => mz_blP q, fun U hU hW => ⟨rfl, hU, hPc, va_K.moved hW.alike hK, mz_nw hW hN⟩⟩ rfl rfl hl.1 rfl (lv_room (Nat.le_of_ble_eq_true rfl)) dX1_partsUnder_2 ⟨Nat.le_of_ble_eq_true rfl, Nat.le_of_ble_eq_true rfl⟩) hS (fun q _ h => h.elim) (fun q h => h.elim) (fun r_2 u t H1 locs ht hvm hw_2 hB hz1 hk1 hS => ?_)
  have hE : s.heap = H1 := hB.symm.trans ht
  subst hE
  obtain rfl : r_2 = (p3 &&& 255) := hw_2
  refine lv_iload_n hx hb dX1_partsUnder_5 rfl (lv_at hl 2 rfl) ?_
  have hPc := hP.sub (ws' := []) [] rfl
  refine va_calli (va_runSN (As := [.int (p3 &&& 255), .int (nI j)]) (rest := []) ⟨hx, hb, hml, hown, hts⟩ (mz_e_inHeap l dC dI cI cJ cZ (p3 &&& 255) j s.heap (by first | assumption | omega)) ⟨va_cnB (host := "MadeItSo") 2 hts gX1_partsUnder_X7_inHeap_n23 rfl rfl rfl (hN (RX1, 23, yX7_inHeap, "MadeItSo") (by decide +kernel)) (hts (.initialized RX7) (by decide +kernel)) (by decide +kernel) ⟨Nat.le_of_ble_eq_true rfl, Nat.le_of_ble_eq_true rfl⟩, hts (.static yX7_inHeap) (by decide +kernel), trivial⟩ ⟨fun a U g mk q => mz_blP q, fun U hU hW => ⟨rfl, hU, hPc, va_K.moved hW.alike hK, mz_nw hW hN⟩⟩ rfl rfl hl.1 rfl (lv_room (Nat.le_of_ble_eq_true rfl)) dX1_partsUnder_6 ⟨Nat.le_of_ble_eq_true rfl, Nat.le_of_ble_eq_true rfl⟩) hS (fun q _ h => h.elim) (fun q h => h.elim) (fun r_6 u t H1 locs ht hvm hw_6 hB hz1 hk1 hS => ?_)
  have hE : s.heap = H1 := hB.symm.trans ht
  subst hE
  rcases (show (r_6 = 1 ∧ mz_t (p3 &&& 255) j = true) ∨ (r_6 = 0 ∧ mz_t (p3 &&& 255) j = false) from hw_6) with ⟨rfl, ht_6⟩ | ⟨rfl, ht_6⟩
  · skip
    refine lv_if_eq (tgt := 31) hx hb dX1_partsUnder_9 (by decide) (fun c_9 => absurd c_9 (by decide +kernel)) (fun _ => ?_)
    refine lv_iload hx hb dX1_partsUnder_12 (lv_at hl 4 rfl) ?_
    have hPc := hP.sub (ws' := []) [] rfl
    refine va_calli (va_runSN (As := [.int p3]) (rest := []) ⟨hx, hb, hml, hown, hts⟩ (mz_h_onesOf l dC dI cI cJ cZ p3 s.heap ) ⟨va_cnB (host := "MadeItSo") 1 hts gX1_partsUnder_X7_onesOf_n26 rfl rfl rfl (hN (RX1, 26, yX7_onesOf, "MadeItSo") (by decide +kernel)) (hts (.initialized RX7) (by decide +kernel)) (by decide +kernel) ⟨Nat.le_of_ble_eq_true rfl, Nat.le_of_ble_eq_true rfl⟩, hts (.static yX7_onesOf) (by decide +kernel), trivial⟩ ⟨fun a U g mk q => mz_blP q, fun U hU hW => ⟨rfl, hU, hPc, va_K.moved hW.alike hK, mz_nw hW hN⟩⟩ rfl rfl hl.1 rfl (lv_room (Nat.le_of_ble_eq_true rfl)) dX1_partsUnder_14 ⟨Nat.le_of_ble_eq_true rfl, Nat.le_of_ble_eq_true rfl⟩) hS (fun q _ h => h.elim) (fun q h => h.elim) (fun r_14 u t H1 locs ht hvm hw_14 hB hz1 hk1 hS => ?_)
    have hE : s.heap = H1 := hB.symm.trans ht
    subst hE
    obtain rfl : r_14 = ((p3 >>> (8 &&& 31)) &&& 255) := hw_14
    refine lv_iload_n hx hb dX1_partsUnder_17 rfl (lv_at hl 2 rfl) ?_
    have hPc := hP.sub (ws' := []) [] rfl
    refine va_calli (va_runSN (As := [.int ((p3 >>> (8 &&& 31)) &&& 255), .int (nI j)]) (rest := []) ⟨hx, hb, hml, hown, hts⟩ (mz_e_inHeap l dC dI cI cJ cZ ((p3 >>> (8 &&& 31)) &&& 255) j s.heap (by first | assumption | omega)) ⟨va_cnB (host := "MadeItSo") 2 hts gX1_partsUnder_X7_inHeap_n23 rfl rfl rfl (hN (RX1, 23, yX7_inHeap, "MadeItSo") (by decide +kernel)) (hts (.initialized RX7) (by decide +kernel)) (by decide +kernel) ⟨Nat.le_of_ble_eq_true rfl, Nat.le_of_ble_eq_true rfl⟩, hts (.static yX7_inHeap) (by decide +kernel), trivial⟩ ⟨fun a U g mk q => mz_blP q, fun U hU hW => ⟨rfl, hU, hPc, va_K.moved hW.alike hK, mz_nw hW hN⟩⟩ rfl rfl hl.1 rfl (lv_room (Nat.le_of_ble_eq_true rfl)) dX1_partsUnder_18 ⟨Nat.le_of_ble_eq_true rfl, Nat.le_of_ble_eq_true rfl⟩) hS (fun q _ h => h.elim) (fun q h => h.elim) (fun r_18 u t H1 locs ht hvm hw_18 hB hz1 hk1 hS => ?_)
    have hE : s.heap = H1 := hB.symm.trans ht
    subst hE
    rcases (show (r_18 = 1 ∧ mz_t ((p3 >>> (8 &&& 31)) &&& 255) j = true) ∨ (r_18 = 0 ∧ mz_t ((p3 >>> (8 &&& 31)) &&& 255) j = false) from hw_18) with ⟨rfl, ht_18⟩ | ⟨rfl, ht_18⟩
    · skip
      refine lv_if_eq (tgt := 29) hx hb dX1_partsUnder_21 (by decide) (fun c_21 => absurd c_21 (by decide +kernel)) (fun _ => ?_)
      refine lv_bipush (v := 100) hx hb dX1_partsUnder_24 (by decide +kernel) ?_
      refine lv_goto (tgt := 30) hx hb dX1_partsUnder_26 (by decide) ?_
      refine W.widen (k := 0) (n := 0) (Nat.le_of_ble_eq_true rfl) (Nat.le_of_ble_eq_true rfl) ?_
      exact W.iret (v := 100) hx hb hr (fun t ht hW => ⟨⟨100, (), rfl, (mz_pu_1 (by omega) ht_6 ht_18), ht⟩, hS.F ht⟩) hS.2.2 dX1_partsUnder_30
    · skip
      refine lv_if_eq (tgt := 29) hx hb dX1_partsUnder_21 (by decide) (fun _ => ?_) (fun c_21 => absurd (by decide +kernel) c_21)
      refine lv_iconst (v := 0) hx hb dX1_partsUnder_29 (by decide +kernel) ?_
      refine W.widen (k := 0) (n := 0) (Nat.le_of_ble_eq_true rfl) (Nat.le_of_ble_eq_true rfl) ?_
      exact W.iret (v := 0) hx hb hr (fun t ht hW => ⟨⟨0, (), rfl, (mz_pu_0 (by omega) ht_6 ht_18), ht⟩, hS.F ht⟩) hS.2.2 dX1_partsUnder_30
  · skip
    refine lv_if_eq (tgt := 31) hx hb dX1_partsUnder_9 (by decide) (fun _ => ?_) (fun c_9 => absurd (by decide +kernel) c_9)
    refine lv_aload_n hx hb dX1_partsUnder_31 rfl (lv_at hl 0 rfl) ?_
    refine lv_iload_n hx hb dX1_partsUnder_32 rfl (lv_at hl 2 rfl) ?_
    refine lv_aload_n hx hb dX1_partsUnder_33 rfl (lv_at hl 1 rfl) ?_
    refine lv_iload_n hx hb dX1_partsUnder_34 rfl (lv_at hl 2 rfl) ?_
    have hPc := hP.sub (ws' := [(dr, .inr (2, [.ref dp, .ref dc, .int (nI n)])), (dp, .inl (cI, 8, .inl fp))]) [2, 3] rfl
    refine va_calli (va_runV (As := [.int (nI j)]) (rest := [.int (nI j), .ref bk]) ⟨hx, hb, hml, hown, hts⟩ (mz_e_parentsOf l dC dI cI cJ cZ dr dp dc n fp j s.heap (by first | assumption | omega) (by first | assumption | omega)) (cwV 1 hts gX1_partsUnder_X2_parentsOf rfl rfl rfl (by decide +kernel) ⟨Nat.le_of_ble_eq_true rfl, Nat.le_of_ble_eq_true rfl⟩) ⟨fun a U g mk q => mz_blP q, va_recv hK hPc (ci := 2) (q0 := 0) rfl rfl, fun U hU hW => ⟨rfl, hU, hPc, va_K.moved hW.alike hK, mz_nw hW hN⟩⟩ rfl rfl hl.1 rfl (lv_room (Nat.le_of_ble_eq_true rfl)) dX1_partsUnder_35 ⟨Nat.le_of_ble_eq_true rfl, Nat.le_of_ble_eq_true rfl⟩) hS (fun q _ h => h.elim) (fun q h => h.elim) (fun r_35 u t H1 locs ht hvm hw_35 hB hz1 hk1 hS => ?_)
    have hE : s.heap = H1 := hB.symm.trans ht
    subst hE
    obtain rfl : r_35 = (fp j) := hw_35
    refine lv_iload_n hx hb dX1_partsUnder_38 rfl (lv_at hl 3 rfl) ?_
    have hPc := hP.sub (ws' := []) [] rfl
    refine va_calli (va_runS (As := [.int (fp j), .int p2]) (rest := [.int (nI j), .ref bk]) ⟨hx, hb, hml, hown, hts⟩ (mz_h_rowOf l dC dI cI cJ cZ (fp j) p2 s.heap ) (va_cwS 2 hts gX1_partsUnder_X1_rowOf rfl rfl rfl (by decide +kernel) ⟨Nat.le_of_ble_eq_true rfl, Nat.le_of_ble_eq_true rfl⟩) ⟨fun a U g mk q => mz_blP q, fun U hU hW => ⟨rfl, hU, hPc, va_K.moved hW.alike hK, mz_nw hW hN⟩⟩ rfl rfl hl.1 rfl (lv_room (Nat.le_of_ble_eq_true rfl)) dX1_partsUnder_39 ⟨Nat.le_of_ble_eq_true rfl, Nat.le_of_ble_eq_true rfl⟩) hS (fun q _ h => h.elim) (fun q h => h.elim) (fun r_39 u t H1 locs ht hvm hw_39 hB hz1 hk1 hS => ?_)
    have hE : s.heap = H1 := hB.symm.trans ht
    subst hE
    obtain rfl : r_39 = (nI (mz_rw (fp j) p2 8)) := hw_39
    have hPc := hP.sub (ws' := [(bk, .inr (1, [.ref bp])), (bp, .inl (cI, 1024, .inl fb))]) [0, 1] rfl
    refine va_calli (va_runV (As := [.int (nI j), .int (nI (mz_rw (fp j) p2 8))]) (rest := []) ⟨hx, hb, hml, hown, hts⟩ (mz_f_read l dC dI cI cJ cZ bk bp fb j (mz_rw (fp j) p2 8) s.heap (by first | assumption | omega) (hself j hj _)) (cwV 2 hts gX1_partsUnder_X1_read rfl rfl rfl (by decide +kernel) ⟨Nat.le_of_ble_eq_true rfl, Nat.le_of_ble_eq_true rfl⟩) ⟨fun a U g mk q => mz_blP q, va_recv hK hPc (ci := 1) (q0 := 0) rfl rfl, fun U hU hW => ⟨rfl, hU, hPc, va_K.moved hW.alike hK, mz_nw hW hN⟩⟩ rfl rfl hl.1 rfl (lv_room (Nat.le_of_ble_eq_true rfl)) dX1_partsUnder_42 ⟨Nat.le_of_ble_eq_true rfl, Nat.le_of_ble_eq_true rfl⟩) hS (fun q _ h => h.elim) (fun q h => h.elim) (fun r_42 u t H1 locs ht hvm hw_42 hB hz1 hk1 hS => ?_)
    have hE : s.heap = H1 := hB.symm.trans ht
    subst hE
    obtain rfl : r_42 = (fb (128 * j + mz_rw (fp j) p2 8)) := hw_42
    refine W.widen (k := 0) (n := 0) (Nat.le_of_ble_eq_true rfl) (Nat.le_of_ble_eq_true rfl) ?_
    exact W.iret (v := (fb (128 * j + mz_rw (fp j) p2 8))) hx hb hr (fun t ht hW => ⟨⟨(fb (128 * j + mz_rw (fp j) p2 8)), (), rfl, (mz_pu_b (by omega) ht_6), ht⟩, hS.F ht⟩) hS.2.2 dX1_partsUnder_45
set_option maxHeartbeats 1000000 in
set_option maxRecDepth 100000 in
theorem mz_h_nextAfter (l : Launch) (dC : Nat → ClassId) (dI : Nat → Nat → Nat) (cI cJ cZ : ClassId) (dr : Nat) (dp : Nat) (dc : Nat) (n : Nat) (fp : Nat → Int32) (p0 : Int32) (Hq : Heap) (hn : n ≤ 8) (hex : ∃ q, q < n ∧ mz_ok fp p0 q = true) : Met l yX2_nextAfter wsX2_nextAfter ({ frames := 1, cells := 0, slots := 0, locals := 21 }) (va_Pc [.ref dr, .int p0] (fun U => U.heap = Hq ∧ va_P (dC, dI) vwCl [(dr, .inr (2, [.ref dp, .ref dc, .int (nI n)])), (dp, .inl (cI, 8, .inl fp))] Hq ∧ va_K (dC, dI) vwCl [(cI, FieldType.int), (cJ, FieldType.long), (cZ, FieldType.boolean)] U ∧ mz_N U)) (va_Qi (fun (r : Int32) (_ : Unit) => r = (nI (mz_nk fp p0 n))) (fun _ t => t.heap = Hq) (fun _ : Nat => False)) 0 0 (fun _ : Nat => False) := by
  refine Met.ofW (cc := cX2_nextAfter) (maxL := 3) (ret := (some .int)) (by decide) rfl ?_
  intro p e s m args below meth c s₁ B hml hv
  obtain ⟨rfl, hH, hP, hK, hN⟩ := hv
  subst hH
  have hx := B.exec
  have hb := B.bytes
  have hr := B.returns
  have hts := atoms_spec (ws := wsX2_nextAfter) B.pre
  have hown : s.vm.findClass RX2 = some m.cls := findClass_of_methodNamed B.named
  have hlocks := B.notSynchronized
  have hS : va_S (fun _ : Nat => False) s.heap s.heap [] := va_S.rf
  have hiX2 : ∀ w ∈ u_ws RX2 TX2 3, w ∈ wsX2_nextAfter := by decide +kernel
  have hl := lv_entry ([.ref dr, .int p0]) (n := 3) (Nat.le_of_ble_eq_true rfl)
  rw [lg_entry_eq]
  generalize (lg_sl ([.ref dr, .int p0]) ++ List.replicate (3 - (lg_sl ([.ref dr, .int p0])).length) Slot.unset).toArray = ls at hl ⊢
  have hl : lv_has ls 3 [(0, .ref dr), (1, .int p0)] := hl
  refine lv_iconst (v := 0) hx hb dX2_nextAfter_0 (by decide +kernel) ?_
  refine lv_istore_n (lv' := [(2, .int 0), (0, .ref dr), (1, .int p0)]) hx hb dX2_nextAfter_1 rfl hl (by decide) rfl (fun ls hl => ?_)
  refine mz_loopU (fun k H locs ls => ∃ (i_2 : Nat), i_2 ≤ n ∧ (∀ q, q < i_2 → mz_ok fp p0 q = false) ∧ H = s.heap ∧ va_S (fun _ : Nat => False) s.heap H locs ∧ lv_has ls 3 [(2, .int (nI i_2)), (0, .ref dr), (1, .int p0)] ∧ k = n - i_2) ?_ _ _ _ _ ⟨0, by omega, (fun q hq => absurd hq (Nat.not_lt_zero q)), rfl, hS, lv_sub hl [0, 1, 2] rfl, rfl⟩
  intro k_2 H locs ls hI_2 ih_2
  obtain ⟨i_2, hi_2, hq_2, hH_2, hS, hl, hk_2⟩ := hI_2
  subst hH_2
  refine lv_iload_n hx hb dX2_nextAfter_2 rfl (lv_at hl 0 rfl) ?_
  refine lv_aload_n hx hb dX2_nextAfter_3 rfl (lv_at hl 1 rfl) ?_
  refine va_get (D := (dC, dI)) (ci := 2) (v := .int (nI n)) (C := RX2) (T := TX2) (N := 3) hx hb hts hiX2 hown hK hP 0 rfl rfl 2 (by decide) (hts (.fieldLink RX2 18 "MadeItSo$Drawing" "things" "I") (by decide +kernel)) (fun _ h9 => h9) rfl dX2_nextAfter_4 ?_
  refine lv_icmp_ge (tgt := 39) hx hb dX2_nextAfter_7 (by decide) (fun c_7 => ?_) (fun c_7 => ?_)
  · skip
    have d_7 : n ≤ i_2 := (nI_leI (a := n) (b := i_2) (by omega) (by omega)).mp c_7
    exact (by obtain ⟨q, hq, hk⟩ := hex; rw [hq_2 q (by omega)] at hk; cases hk)
  · skip
    have d_7 : ¬ n ≤ i_2 := fun h => c_7 ((nI_leI (a := n) (b := i_2) (by omega) (by omega)).mpr h)
    refine lv_iload_n hx hb dX2_nextAfter_10 rfl (lv_at hl 2 rfl) ?_
    refine lv_iload_n hx hb dX2_nextAfter_11 rfl (lv_at hl 0 rfl) ?_
    have hPc := hP.sub (ws' := []) [] rfl
    refine va_calli (va_runSN (As := [.int p0, .int (nI i_2)]) (rest := []) ⟨hx, hb, hml, hown, hts⟩ (mz_e_inHeap l dC dI cI cJ cZ p0 i_2 s.heap (by first | assumption | omega)) ⟨va_cnB (host := "MadeItSo") 2 hts gX2_nextAfter_X7_inHeap_n26 rfl rfl rfl (hN (RX2, 26, yX7_inHeap, "MadeItSo") (by decide +kernel)) (hts (.initialized RX7) (by decide +kernel)) (by decide +kernel) ⟨Nat.le_of_ble_eq_true rfl, Nat.le_of_ble_eq_true rfl⟩, hts (.static yX7_inHeap) (by decide +kernel), trivial⟩ ⟨fun a U g mk q => mz_blP q, fun U hU hW => ⟨rfl, hU, hPc, va_K.moved hW.alike hK, mz_nw hW hN⟩⟩ rfl rfl hl.1 rfl (lv_room (Nat.le_of_ble_eq_true rfl)) dX2_nextAfter_12 ⟨Nat.le_of_ble_eq_true rfl, Nat.le_of_ble_eq_true rfl⟩) hS (fun q _ h => h.elim) (fun q h => h.elim) (fun r_12 u t H1 locs ht hvm hw_12 hB hz1 hk1 hS => ?_)
    have hE : s.heap = H1 := hB.symm.trans ht
    subst hE
    rcases (show (r_12 = 1 ∧ mz_t p0 i_2 = true) ∨ (r_12 = 0 ∧ mz_t p0 i_2 = false) from hw_12) with ⟨rfl, ht_12⟩ | ⟨rfl, ht_12⟩
    · skip
      refine lv_if_ne (tgt := 33) hx hb dX2_nextAfter_15 (by decide) (fun _ => ?_) (fun c_15 => absurd c_15 (by decide +kernel))
      refine lv_iinc (v := (nI (i_2 + 1))) (lv' := [(2, .int (nI (i_2 + 1))), (0, .ref dr), (1, .int p0)]) hx hb dX2_nextAfter_33 hl (k := 0) rfl (nI_1 _) (by decide) rfl (fun ls hl => ?_)
      refine lv_goto (tgt := 2) hx hb dX2_nextAfter_36 (by decide) ?_
      exact ih_2 _ (by omega) _ _ _ ⟨(i_2 + 1), by omega, (lt_s hq_2 (by first | exact mz_ok_n1 ht_12 | exact mz_ok_n2 c_28)), rfl, hS, lv_sub hl [0, 1, 2] rfl, rfl⟩
    · skip
      refine lv_if_ne (tgt := 33) hx hb dX2_nextAfter_15 (by decide) (fun c_15 => absurd (by decide +kernel) c_15) (fun _ => ?_)
      refine lv_aload_n hx hb dX2_nextAfter_18 rfl (lv_at hl 1 rfl) ?_
      refine va_get (D := (dC, dI)) (ci := 2) (v := .ref dp) (C := RX2) (T := TX2) (N := 3) hx hb hts hiX2 hown hK hP 0 rfl rfl 0 (by decide) (hts (.fieldLink RX2 9 "MadeItSo$Drawing" "parents" "[I") (by decide +kernel)) (fun _ h9 => h9) rfl dX2_nextAfter_19 ?_
      refine lv_iload_n hx hb dX2_nextAfter_22 rfl (lv_at hl 0 rfl) ?_
      refine va_iald hx hb hK hP 1 0 rfl rfl (vp_in_nI (by omega) (by omega)) dX2_nextAfter_23 ?_
      refine mz_ti (y := (fp i_2)) (by rw [mz_cl (by omega)]) ?_
      refine lv_iload_n hx hb dX2_nextAfter_24 rfl (lv_at hl 2 rfl) ?_
      refine lv_iconst (v := (-1)) hx hb dX2_nextAfter_25 (by decide +kernel) ?_
      refine lv_ixor hx hb dX2_nextAfter_26 ?_
      refine lv_iand hx hb dX2_nextAfter_27 ?_
      refine lv_if_ne (tgt := 33) hx hb dX2_nextAfter_28 (by decide) (fun c_28 => ?_) (fun c_28 => ?_)
      · skip
        refine lv_iinc (v := (nI (i_2 + 1))) (lv' := [(2, .int (nI (i_2 + 1))), (0, .ref dr), (1, .int p0)]) hx hb dX2_nextAfter_33 hl (k := 0) rfl (nI_1 _) (by decide) rfl (fun ls hl => ?_)
        refine lv_goto (tgt := 2) hx hb dX2_nextAfter_36 (by decide) ?_
        exact ih_2 _ (by omega) _ _ _ ⟨(i_2 + 1), by omega, (lt_s hq_2 (by first | exact mz_ok_n1 ht_12 | exact mz_ok_n2 c_28)), rfl, hS, lv_sub hl [0, 1, 2] rfl, rfl⟩
      · skip
        refine lv_iload_n hx hb dX2_nextAfter_31 rfl (lv_at hl 0 rfl) ?_
        refine W.widen (k := 0) (n := 0) (Nat.le_of_ble_eq_true rfl) (Nat.le_of_ble_eq_true rfl) ?_
        exact W.iret (v := (nI i_2)) hx hb hr (fun t ht hW => ⟨⟨(nI i_2), (), rfl, (by rw [mz_nk_eq (n := n) (k := i_2) (by omega) (mz_ok_y ht_12 c_28) hq_2]), ht⟩, hS.F ht⟩) hS.2.2 dX2_nextAfter_32
set_option maxHeartbeats 1000000 in
set_option maxRecDepth 100000 in
theorem mz_h_x_draw (l : Launch) (dC : Nat → ClassId) (dI : Nat → Nat → Nat) (cI cJ cZ : ClassId) (mx : Nat) (dr : Nat) (th : Nat) (bk : Nat) (wt : Nat) (tt : Nat) (lh : Nat) (la : Nat) (sh : Int32) (ab : Int64) (be : Int64) (dp : Nat) (dc : Nat) (n : Nat) (fp : Nat → Int32) (bp : Nat) (fb : Nat → Int32) (p1 : Int32) (p2 : Int32) (Hq : Heap) (hn : n ≤ 8) (ha : mz_acy n fp) (hself : ∀ k, k < n → ∀ on, mz_rw (fp k) on 8 < 128) (hset : mz_stg n p2) : Met l yX7_draw wsX7_draw ({ frames := 3, cells := 0, slots := 0, locals := 69 }) (va_Pc [.ref mx, .int p1, .int p2] (fun U => U.heap = Hq ∧ va_P (dC, dI) vwCl [(mx, .inr (7, [.ref dr, .ref th, .ref bk, .ref wt, .ref tt, .ref lh, .ref la, .int sh, .long ab, .long be])), (dr, .inr (2, [.ref dp, .ref dc, .int (nI n)])), (dp, .inl (cI, 8, .inl fp)), (bk, .inr (1, [.ref bp])), (bp, .inl (cI, 1024, .inl fb))] Hq ∧ va_K (dC, dI) vwCl [(cI, FieldType.int), (cJ, FieldType.long), (cZ, FieldType.boolean)] U ∧ mz_N U)) (va_Qi (fun (r : Int32) (_ : Unit) => r = (mz_ds n fp fb p2 p1 n).2.2) (fun _ t => t.heap = Hq) (fun _ : Nat => False)) 0 0 (fun _ : Nat => False) := by
  refine Met.ofW (cc := cX7_draw) (maxL := 8) (ret := (some .int)) (by decide) rfl ?_
  intro p e s m args below meth c s₁ B hml hv
  obtain ⟨rfl, hH, hP, hK, hN⟩ := hv
  subst hH
  have hx := B.exec
  have hb := B.bytes
  have hr := B.returns
  have hts := atoms_spec (ws := wsX7_draw) B.pre
  have hown : s.vm.findClass RX7 = some m.cls := findClass_of_methodNamed B.named
  have hlocks := B.notSynchronized
  have hS : va_S (fun _ : Nat => False) s.heap s.heap [] := va_S.rf
  have hiX7 : ∀ w ∈ u_ws RX7 TX7 10, w ∈ wsX7_draw := by decide +kernel
  have hl := lv_entry ([.ref mx, .int p1, .int p2]) (n := 8) (Nat.le_of_ble_eq_true rfl)
  rw [lg_entry_eq]
  generalize (lg_sl ([.ref mx, .int p1, .int p2]) ++ List.replicate (8 - (lg_sl ([.ref mx, .int p1, .int p2])).length) Slot.unset).toArray = ls at hl ⊢
  have hl : lv_has ls 8 [(0, .ref mx), (1, .int p1), (2, .int p2)] := hl
  refine lv_aload_n hx hb dX7_draw_0 rfl (lv_at hl 0 rfl) ?_
  refine lv_iload_n hx hb dX7_draw_1 rfl (lv_at hl 2 rfl) ?_
  have hPc := hP.sub (ws' := [(mx, .inr (7, [.ref dr, .ref th, .ref bk, .ref wt, .ref tt, .ref lh, .ref la, .int sh, .long ab, .long be])), (dr, .inr (2, [.ref dp, .ref dc, .int (nI n)]))]) [0, 1] rfl
  refine va_calli (va_runV (As := [.int p2]) (rest := []) ⟨hx, hb, hml, hown, hts⟩ (mz_h_x_isSetting l dC dI cI cJ cZ mx dr th bk wt tt lh la sh ab be dp dc n p2 s.heap (by first | assumption | omega)) (cwV 1 hts gX7_draw_X7_isSetting rfl rfl rfl (by decide +kernel) ⟨Nat.le_of_ble_eq_true rfl, Nat.le_of_ble_eq_true rfl⟩) ⟨fun a U g mk q => mz_blP q, va_recv hK hPc (ci := 7) (q0 := 0) rfl rfl, fun U hU hW => ⟨rfl, hU, hPc, va_K.moved hW.alike hK, mz_nw hW hN⟩⟩ rfl rfl hl.1 rfl (lv_room (Nat.le_of_ble_eq_true rfl)) dX7_draw_2 ⟨Nat.le_of_ble_eq_true rfl, Nat.le_of_ble_eq_true rfl⟩) hS (fun q _ h => h.elim) (fun q h => h.elim) (fun r_2 u t H1 locs ht hvm hw_2 hB hz1 hk1 hS => ?_)
  have hE : s.heap = H1 := hB.symm.trans ht
  subst hE
  rcases (show (r_2 = 1 ∧ mz_stg n p2) ∨ (r_2 = 0 ∧ ¬ mz_stg n p2) from hw_2) with ⟨rfl, hc_2⟩ | ⟨rfl, hc_2⟩
  · skip
    refine lv_if_ne (tgt := 10) hx hb dX7_draw_5 (by decide) (fun _ => ?_) (fun c_5 => absurd c_5 (by decide +kernel))
    refine lv_iload_n hx hb dX7_draw_10 rfl (lv_at hl 1 rfl) ?_
    refine lv_istore_n (lv' := [(3, .int p1), (0, .ref mx), (1, .int p1), (2, .int p2)]) hx hb dX7_draw_11 rfl hl (by decide) rfl (fun ls hl => ?_)
    refine lv_iconst (v := 0) hx hb dX7_draw_12 (by decide +kernel) ?_
    refine lv_istore (lv' := [(4, .int 0), (3, .int p1), (0, .ref mx), (1, .int p1), (2, .int p2)]) hx hb dX7_draw_13 hl (by decide) rfl (fun ls hl => ?_)
    refine lv_iconst (v := 0) hx hb dX7_draw_15 (by decide +kernel) ?_
    refine lv_istore (lv' := [(5, .int 0), (4, .int 0), (3, .int p1), (0, .ref mx), (1, .int p1), (2, .int p2)]) hx hb dX7_draw_16 hl (by decide) rfl (fun ls hl => ?_)
    refine lv_iconst (v := 0) hx hb dX7_draw_18 (by decide +kernel) ?_
    refine lv_istore (lv' := [(6, .int 0), (5, .int 0), (4, .int 0), (3, .int p1), (0, .ref mx), (1, .int p1), (2, .int p2)]) hx hb dX7_draw_19 hl (by decide) rfl (fun ls hl => ?_)
    refine mz_loopU (fun k H locs ls => ∃ (i_21 : Nat), ∃ (x5_21 : Int32), ∃ (x4_21 : Int32), ∃ (x3_21 : Int32), i_21 ≤ n ∧ (x3_21 = (mz_ds n fp fb p2 p1 i_21).1) ∧ (x4_21 = (mz_ds n fp fb p2 p1 i_21).2.1) ∧ (x5_21 = (mz_ds n fp fb p2 p1 i_21).2.2) ∧ (n ≤ mz_un x4_21 n + i_21) ∧ H = s.heap ∧ va_S (fun _ : Nat => False) s.heap H locs ∧ lv_has ls 8 [(6, .int (nI i_21)), (5, .int x5_21), (4, .int x4_21), (3, .int x3_21), (0, .ref mx), (1, .int p1), (2, .int p2)] ∧ k = n - i_21) ?_ _ _ _ _ ⟨0, 0, 0, p1, by omega, rfl, rfl, rfl, (mz_un_0 hn), rfl, hS, lv_sub hl [0, 1, 2, 3, 4, 5, 6] rfl, rfl⟩
    intro k_21 H locs ls hI_21 ih_21
    obtain ⟨i_21, x5_21, x4_21, x3_21, hi_21, hs_21, hm_21, ho_21, hu_21, hH_21, hS, hl, hk_21⟩ := hI_21
    subst hH_21
    refine lv_iload hx hb dX7_draw_21 (lv_at hl 0 rfl) ?_
    refine lv_aload_n hx hb dX7_draw_23 rfl (lv_at hl 4 rfl) ?_
    refine va_get (D := (dC, dI)) (ci := 7) (v := .ref dr) (C := RX7) (T := TX7) (N := 10) hx hb hts hiX7 hown hK hP 0 rfl rfl 0 (by decide) (hts (.fieldLink RX7 12 "MadeItSo" "drawing" "LMadeItSo$Drawing;") (by decide +kernel)) (fun _ h9 => h9) rfl dX7_draw_24 ?_
    have hPc := hP.sub (ws' := [(dr, .inr (2, [.ref dp, .ref dc, .int (nI n)]))]) [1] rfl
    refine va_calli (va_runV (As := []) (rest := [.int (nI i_21)]) ⟨hx, hb, hml, hown, hts⟩ (mz_d_size l dC dI cI cJ cZ dr dp dc n s.heap ) (cwV 0 hts gX7_draw_X2_size rfl rfl rfl (by decide +kernel) ⟨Nat.le_of_ble_eq_true rfl, Nat.le_of_ble_eq_true rfl⟩) ⟨fun a U g mk q => mz_blP q, va_recv hK hPc (ci := 2) (q0 := 0) rfl rfl, fun U hU hW => ⟨rfl, hU, hPc, va_K.moved hW.alike hK, mz_nw hW hN⟩⟩ rfl rfl hl.1 rfl (lv_room (Nat.le_of_ble_eq_true rfl)) dX7_draw_27 ⟨Nat.le_of_ble_eq_true rfl, Nat.le_of_ble_eq_true rfl⟩) hS (fun q _ h => h.elim) (fun q h => h.elim) (fun r_27 u t H1 locs ht hvm hw_27 hB hz1 hk1 hS => ?_)
    have hE : s.heap = H1 := hB.symm.trans ht
    subst hE
    obtain rfl : r_27 = (nI n) := hw_27
    refine lv_icmp_ge (tgt := 114) hx hb dX7_draw_30 (by decide) (fun c_30 => ?_) (fun c_30 => ?_)
    · skip
      have d_30 : n ≤ i_21 := (nI_leI (a := n) (b := i_21) (by omega) (by omega)).mp c_30
      refine lv_iload hx hb dX7_draw_114 (lv_at hl 1 rfl) ?_
      refine W.widen (k := 0) (n := 0) (Nat.le_of_ble_eq_true rfl) (Nat.le_of_ble_eq_true rfl) ?_
      exact W.iret (v := x5_21) hx hb hr (fun t ht hW => ⟨⟨x5_21, (), rfl, (by obtain rfl : i_21 = n := (by omega); exact ho_21), ht⟩, hS.F ht⟩) hS.2.2 dX7_draw_116
    · skip
      have d_30 : ¬ n ≤ i_21 := fun h => c_30 ((nI_leI (a := n) (b := i_21) (by omega) (by omega)).mpr h)
      obtain ⟨T_, hT_⟩ : ∃ t : Nat, t = mz_nk fp x4_21 n := ⟨_, rfl⟩
      have hex_ := mz_ok_ex ha hn hu_21 (show i_21 < n by omega)
      have hk_ := mz_nk_ok hex_
      rw [← hT_] at hk_
      have hkn_ := hk_.1
      refine lv_aload_n hx hb dX7_draw_33 rfl (lv_at hl 4 rfl) ?_
      refine va_get (D := (dC, dI)) (ci := 7) (v := .ref dr) (C := RX7) (T := TX7) (N := 10) hx hb hts hiX7 hown hK hP 0 rfl rfl 0 (by decide) (hts (.fieldLink RX7 12 "MadeItSo" "drawing" "LMadeItSo$Drawing;") (by decide +kernel)) (fun _ h9 => h9) rfl dX7_draw_34 ?_
      refine lv_iload hx hb dX7_draw_37 (lv_at hl 2 rfl) ?_
      have hPc := hP.sub (ws' := [(dr, .inr (2, [.ref dp, .ref dc, .int (nI n)])), (dp, .inl (cI, 8, .inl fp))]) [1, 2] rfl
      refine va_calli (va_runV (As := [.int x4_21]) (rest := []) ⟨hx, hb, hml, hown, hts⟩ (mz_h_nextAfter l dC dI cI cJ cZ dr dp dc n fp x4_21 s.heap (by first | assumption | omega) hex_) (cwV 1 hts gX7_draw_X2_nextAfter rfl rfl rfl (by decide +kernel) ⟨Nat.le_of_ble_eq_true rfl, Nat.le_of_ble_eq_true rfl⟩) ⟨fun a U g mk q => mz_blP q, va_recv hK hPc (ci := 2) (q0 := 0) rfl rfl, fun U hU hW => ⟨rfl, hU, hPc, va_K.moved hW.alike hK, mz_nw hW hN⟩⟩ rfl rfl hl.1 rfl (lv_room (Nat.le_of_ble_eq_true rfl)) dX7_draw_39 ⟨Nat.le_of_ble_eq_true rfl, Nat.le_of_ble_eq_true rfl⟩) hS (fun q _ h => h.elim) (fun q h => h.elim) (fun r_39 u t H1 locs ht hvm hw_39 hB hz1 hk1 hS => ?_)
      have hE : s.heap = H1 := hB.symm.trans ht
      subst hE
      obtain rfl : r_39 = (nI (mz_nk fp x4_21 n)) := hw_39
      refine mz_ti (y := (nI T_)) (by rw [hT_]) ?_
      refine lv_istore (lv' := [(7, .int (nI T_)), (6, .int (nI i_21)), (5, .int x5_21), (4, .int x4_21), (3, .int x3_21), (0, .ref mx), (1, .int p1), (2, .int p2)]) hx hb dX7_draw_42 hl (by decide) rfl (fun ls hl => ?_)
      refine lv_iload hx hb dX7_draw_44 (lv_at hl 0 rfl) ?_
      refine lv_iconst (v := (-1)) hx hb dX7_draw_46 (by decide +kernel) ?_
      refine lv_icmp_ne (tgt := 53) hx hb dX7_draw_47 (by decide) (fun _ => ?_) (fun c_47 => absurd c_47 (mz_ne1 (by omega)))
      refine lv_iload_n hx hb dX7_draw_53 rfl (lv_at hl 4 rfl) ?_
      refine lv_ldc hx hb hown (hts (.constant RX7 212 (1103515245)) (by decide +kernel)) dX7_draw_54 ?_
      refine lv_imul hx hb dX7_draw_56 ?_
      refine lv_sipush (v := 12345) hx hb dX7_draw_57 (by decide +kernel) ?_
      refine lv_iadd hx hb dX7_draw_60 ?_
      refine lv_istore_n (lv' := [(3, .int ((x3_21 * 1103515245) + 12345)), (7, .int (nI T_)), (6, .int (nI i_21)), (5, .int x5_21), (4, .int x4_21), (0, .ref mx), (1, .int p1), (2, .int p2)]) hx hb dX7_draw_61 rfl hl (by decide) rfl (fun ls hl => ?_)
      refine lv_iload_n hx hb dX7_draw_62 rfl (lv_at hl 0 rfl) ?_
      refine lv_bipush (v := 16) hx hb dX7_draw_63 (by decide +kernel) ?_
      refine lv_iushr hx hb dX7_draw_65 rfl ?_
      refine lv_topi (fun v_65 ev_65 => ?_)
      refine lv_bipush (v := 100) hx hb dX7_draw_66 (by decide +kernel) ?_
      refine lv_irem hx hb dX7_draw_68 (by decide) ?_
      refine lv_topi (fun v_68 ev_68 => ?_)
      refine lv_aload_n hx hb dX7_draw_69 rfl (lv_at hl 5 rfl) ?_
      refine va_get (D := (dC, dI)) (ci := 7) (v := .ref bk) (C := RX7) (T := TX7) (N := 10) hx hb hts hiX7 hown hK hP 0 rfl rfl 2 (by decide) (hts (.fieldLink RX7 22 "MadeItSo" "books" "LMadeItSo$Books;") (by decide +kernel)) (fun _ h9 => h9) rfl dX7_draw_70 ?_
      refine lv_aload_n hx hb dX7_draw_73 rfl (lv_at hl 5 rfl) ?_
      refine va_get (D := (dC, dI)) (ci := 7) (v := .ref dr) (C := RX7) (T := TX7) (N := 10) hx hb hts hiX7 hown hK hP 0 rfl rfl 0 (by decide) (hts (.fieldLink RX7 12 "MadeItSo" "drawing" "LMadeItSo$Drawing;") (by decide +kernel)) (fun _ h9 => h9) rfl dX7_draw_74 ?_
      refine lv_iload hx hb dX7_draw_77 (lv_at hl 1 rfl) ?_
      refine lv_iload hx hb dX7_draw_79 (lv_at hl 3 rfl) ?_
      refine lv_iload_n hx hb dX7_draw_81 rfl (lv_at hl 7 rfl) ?_
      have hPc := hP.sub (ws' := [(bk, .inr (1, [.ref bp])), (bp, .inl (cI, 1024, .inl fb)), (dr, .inr (2, [.ref dp, .ref dc, .int (nI n)])), (dp, .inl (cI, 8, .inl fp))]) [3, 4, 1, 2] rfl
      refine va_calli (va_runV (As := [.ref dr, .int (nI T_), .int x5_21, .int p2]) (rest := [.int v_68]) ⟨hx, hb, hml, hown, hts⟩ (mz_h_partsUnder l dC dI cI cJ cZ bk bp fb dr dp dc n fp T_ x5_21 p2 s.heap (by first | assumption | omega) (by first | assumption | omega) hself) (cwV 4 hts gX7_draw_X1_partsUnder rfl rfl rfl (by decide +kernel) ⟨Nat.le_of_ble_eq_true rfl, Nat.le_of_ble_eq_true rfl⟩) ⟨fun a U g mk q => mz_blP q, va_recv hK hPc (ci := 1) (q0 := 0) rfl rfl, fun U hU hW => ⟨rfl, hU, hPc, va_K.moved hW.alike hK, mz_nw hW hN⟩⟩ rfl rfl hl.1 rfl (lv_room (Nat.le_of_ble_eq_true rfl)) dX7_draw_82 ⟨Nat.le_of_ble_eq_true rfl, Nat.le_of_ble_eq_true rfl⟩) hS (fun q _ h => h.elim) (fun q h => h.elim) (fun r_82 u t H1 locs ht hvm hw_82 hB hz1 hk1 hS => ?_)
      have hE : s.heap = H1 := hB.symm.trans ht
      subst hE
      obtain rfl : r_82 = (mz_pu fp fb p2 T_ x5_21) := hw_82
      refine lv_icmp_ge (tgt := 98) hx hb dX7_draw_85 (by decide) (fun c_85 => ?_) (fun c_85 => ?_)
      · skip
        refine lv_iload hx hb dX7_draw_98 (lv_at hl 4 rfl) ?_
        refine lv_iload hx hb dX7_draw_100 (lv_at hl 1 rfl) ?_
        have hPc := hP.sub (ws' := []) [] rfl
        refine va_calli (va_runS (As := [.int (nI T_)]) (rest := [.int x4_21]) ⟨hx, hb, hml, hown, hts⟩ (mz_g_bit l dC dI cI cJ cZ (nI T_) s.heap ) (va_cwS 1 hts gX7_draw_X7_bit rfl rfl rfl (by decide +kernel) ⟨Nat.le_of_ble_eq_true rfl, Nat.le_of_ble_eq_true rfl⟩) ⟨fun a U g mk q => mz_blP q, fun U hU hW => ⟨rfl, hU, hPc, va_K.moved hW.alike hK, mz_nw hW hN⟩⟩ rfl rfl hl.1 rfl (lv_room (Nat.le_of_ble_eq_true rfl)) dX7_draw_102 ⟨Nat.le_of_ble_eq_true rfl, Nat.le_of_ble_eq_true rfl⟩) hS (fun q _ h => h.elim) (fun q h => h.elim) (fun r_102 u t H1 locs ht hvm hw_102 hB hz1 hk1 hS => ?_)
        have hE : s.heap = H1 := hB.symm.trans ht
        subst hE
        obtain rfl : r_102 = (1 <<< ((nI T_) &&& 31)) := hw_102
        refine lv_ior hx hb dX7_draw_105 ?_
        refine lv_istore (lv' := [(4, .int (x4_21 ||| (1 <<< ((nI T_) &&& 31)))), (3, .int ((x3_21 * 1103515245) + 12345)), (7, .int (nI T_)), (6, .int (nI i_21)), (5, .int x5_21), (0, .ref mx), (1, .int p1), (2, .int p2)]) hx hb dX7_draw_106 hl (by decide) rfl (fun ls hl => ?_)
        refine lv_iinc (v := (nI (i_21 + 1))) (lv' := [(6, .int (nI (i_21 + 1))), (4, .int (x4_21 ||| (1 <<< ((nI T_) &&& 31)))), (3, .int ((x3_21 * 1103515245) + 12345)), (7, .int (nI T_)), (5, .int x5_21), (0, .ref mx), (1, .int p1), (2, .int p2)]) hx hb dX7_draw_108 hl (k := 3) rfl (nI_1 _) (by decide) rfl (fun ls hl => ?_)
        refine lv_goto (tgt := 21) hx hb dX7_draw_111 (by decide) ?_
        exact ih_21 _ (by omega) _ _ _ ⟨(i_21 + 1), x5_21, (x4_21 ||| (1 <<< ((nI T_) &&& 31))), ((x3_21 * 1103515245) + 12345), by omega, (mz_ds_s hs_21 hm_21 ho_21 hT_.symm hkn_ (mz_on_n (by rw [show mz_rnd (mz_dn x3_21) = v_68 by rw [ev_68, ev_65]; rfl]; exact c_85))).1, (mz_ds_s hs_21 hm_21 ho_21 hT_.symm hkn_ (mz_on_n (by rw [show mz_rnd (mz_dn x3_21) = v_68 by rw [ev_68, ev_65]; rfl]; exact c_85))).2.1, (mz_ds_s hs_21 hm_21 ho_21 hT_.symm hkn_ (mz_on_n (by rw [show mz_rnd (mz_dn x3_21) = v_68 by rw [ev_68, ev_65]; rfl]; exact c_85))).2.2, (mz_un_next hn hkn_ hu_21), rfl, hS, lv_sub hl [0, 4, 1, 2, 5, 6, 7] rfl, rfl⟩
      · skip
        refine lv_iload hx hb dX7_draw_88 (lv_at hl 3 rfl) ?_
        refine lv_iload hx hb dX7_draw_90 (lv_at hl 1 rfl) ?_
        have hPc := hP.sub (ws' := []) [] rfl
        refine va_calli (va_runS (As := [.int (nI T_)]) (rest := [.int x5_21]) ⟨hx, hb, hml, hown, hts⟩ (mz_g_bit l dC dI cI cJ cZ (nI T_) s.heap ) (va_cwS 1 hts gX7_draw_X7_bit rfl rfl rfl (by decide +kernel) ⟨Nat.le_of_ble_eq_true rfl, Nat.le_of_ble_eq_true rfl⟩) ⟨fun a U g mk q => mz_blP q, fun U hU hW => ⟨rfl, hU, hPc, va_K.moved hW.alike hK, mz_nw hW hN⟩⟩ rfl rfl hl.1 rfl (lv_room (Nat.le_of_ble_eq_true rfl)) dX7_draw_92 ⟨Nat.le_of_ble_eq_true rfl, Nat.le_of_ble_eq_true rfl⟩) hS (fun q _ h => h.elim) (fun q h => h.elim) (fun r_92 u t H1 locs ht hvm hw_92 hB hz1 hk1 hS => ?_)
        have hE : s.heap = H1 := hB.symm.trans ht
        subst hE
        obtain rfl : r_92 = (1 <<< ((nI T_) &&& 31)) := hw_92
        refine lv_ior hx hb dX7_draw_95 ?_
        refine lv_istore (lv' := [(5, .int (x5_21 ||| (1 <<< ((nI T_) &&& 31)))), (3, .int ((x3_21 * 1103515245) + 12345)), (7, .int (nI T_)), (6, .int (nI i_21)), (4, .int x4_21), (0, .ref mx), (1, .int p1), (2, .int p2)]) hx hb dX7_draw_96 hl (by decide) rfl (fun ls hl => ?_)
        refine lv_iload hx hb dX7_draw_98 (lv_at hl 4 rfl) ?_
        refine lv_iload hx hb dX7_draw_100 (lv_at hl 2 rfl) ?_
        have hPc := hP.sub (ws' := []) [] rfl
        refine va_calli (va_runS (As := [.int (nI T_)]) (rest := [.int x4_21]) ⟨hx, hb, hml, hown, hts⟩ (mz_g_bit l dC dI cI cJ cZ (nI T_) s.heap ) (va_cwS 1 hts gX7_draw_X7_bit rfl rfl rfl (by decide +kernel) ⟨Nat.le_of_ble_eq_true rfl, Nat.le_of_ble_eq_true rfl⟩) ⟨fun a U g mk q => mz_blP q, fun U hU hW => ⟨rfl, hU, hPc, va_K.moved hW.alike hK, mz_nw hW hN⟩⟩ rfl rfl hl.1 rfl (lv_room (Nat.le_of_ble_eq_true rfl)) dX7_draw_102 ⟨Nat.le_of_ble_eq_true rfl, Nat.le_of_ble_eq_true rfl⟩) hS (fun q _ h => h.elim) (fun q h => h.elim) (fun r_102 u t H1 locs ht hvm hw_102 hB hz1 hk1 hS => ?_)
        have hE : s.heap = H1 := hB.symm.trans ht
        subst hE
        obtain rfl : r_102 = (1 <<< ((nI T_) &&& 31)) := hw_102
        refine lv_ior hx hb dX7_draw_105 ?_
        refine lv_istore (lv' := [(4, .int (x4_21 ||| (1 <<< ((nI T_) &&& 31)))), (5, .int (x5_21 ||| (1 <<< ((nI T_) &&& 31)))), (3, .int ((x3_21 * 1103515245) + 12345)), (7, .int (nI T_)), (6, .int (nI i_21)), (0, .ref mx), (1, .int p1), (2, .int p2)]) hx hb dX7_draw_106 hl (by decide) rfl (fun ls hl => ?_)
        refine lv_iinc (v := (nI (i_21 + 1))) (lv' := [(6, .int (nI (i_21 + 1))), (4, .int (x4_21 ||| (1 <<< ((nI T_) &&& 31)))), (5, .int (x5_21 ||| (1 <<< ((nI T_) &&& 31)))), (3, .int ((x3_21 * 1103515245) + 12345)), (7, .int (nI T_)), (0, .ref mx), (1, .int p1), (2, .int p2)]) hx hb dX7_draw_108 hl (k := 4) rfl (nI_1 _) (by decide) rfl (fun ls hl => ?_)
        refine lv_goto (tgt := 21) hx hb dX7_draw_111 (by decide) ?_
        exact ih_21 _ (by omega) _ _ _ ⟨(i_21 + 1), (x5_21 ||| (1 <<< ((nI T_) &&& 31))), (x4_21 ||| (1 <<< ((nI T_) &&& 31))), ((x3_21 * 1103515245) + 12345), by omega, (mz_ds_s hs_21 hm_21 ho_21 hT_.symm hkn_ (mz_on_y (by rw [show mz_rnd (mz_dn x3_21) = v_68 by rw [ev_68, ev_65]; rfl]; exact c_85))).1, (mz_ds_s hs_21 hm_21 ho_21 hT_.symm hkn_ (mz_on_y (by rw [show mz_rnd (mz_dn x3_21) = v_68 by rw [ev_68, ev_65]; rfl]; exact c_85))).2.1, (mz_ds_s hs_21 hm_21 ho_21 hT_.symm hkn_ (mz_on_y (by rw [show mz_rnd (mz_dn x3_21) = v_68 by rw [ev_68, ev_65]; rfl]; exact c_85))).2.2, (mz_un_next hn hkn_ hu_21), rfl, hS, lv_sub hl [0, 2, 1, 3, 5, 6, 7] rfl, rfl⟩
  · skip
    refine lv_if_ne (tgt := 10) hx hb dX7_draw_5 (by decide) (fun c_5 => absurd (by decide +kernel) c_5) (fun _ => ?_)
    exact absurd hset hc_2
set_option maxHeartbeats 1000000 in
set_option maxRecDepth 100000 in
theorem mz_h_x_draw_out (l : Launch) (dC : Nat → ClassId) (dI : Nat → Nat → Nat) (cI cJ cZ : ClassId) (mx : Nat) (dr : Nat) (th : Nat) (bk : Nat) (wt : Nat) (tt : Nat) (lh : Nat) (la : Nat) (sh : Int32) (ab : Int64) (be : Int64) (dp : Nat) (dc : Nat) (n : Nat) (p1 : Int32) (p2 : Int32) (Hq : Heap) (hn : n ≤ 8) (hnset : ¬ mz_stg n p2) : Met l yX7_draw wsX7_draw ({ frames := 3, cells := 0, slots := 0, locals := 62 }) (va_Pc [.ref mx, .int p1, .int p2] (fun U => U.heap = Hq ∧ va_P (dC, dI) vwCl [(mx, .inr (7, [.ref dr, .ref th, .ref bk, .ref wt, .ref tt, .ref lh, .ref la, .int sh, .long ab, .long be])), (dr, .inr (2, [.ref dp, .ref dc, .int (nI n)]))] Hq ∧ va_K (dC, dI) vwCl [(cI, FieldType.int), (cJ, FieldType.long), (cZ, FieldType.boolean)] U ∧ mz_N U)) (va_Qi (fun (r : Int32) (_ : Unit) => r = (-1)) (fun _ t => t.heap = Hq) (fun _ : Nat => False)) 0 0 (fun _ : Nat => False) := by
  refine Met.ofW (cc := cX7_draw) (maxL := 8) (ret := (some .int)) (by decide) rfl ?_
  intro p e s m args below meth c s₁ B hml hv
  obtain ⟨rfl, hH, hP, hK, hN⟩ := hv
  subst hH
  have hx := B.exec
  have hb := B.bytes
  have hr := B.returns
  have hts := atoms_spec (ws := wsX7_draw) B.pre
  have hown : s.vm.findClass RX7 = some m.cls := findClass_of_methodNamed B.named
  have hlocks := B.notSynchronized
  have hS : va_S (fun _ : Nat => False) s.heap s.heap [] := va_S.rf
  have hl := lv_entry ([.ref mx, .int p1, .int p2]) (n := 8) (Nat.le_of_ble_eq_true rfl)
  rw [lg_entry_eq]
  generalize (lg_sl ([.ref mx, .int p1, .int p2]) ++ List.replicate (8 - (lg_sl ([.ref mx, .int p1, .int p2])).length) Slot.unset).toArray = ls at hl ⊢
  have hl : lv_has ls 8 [(0, .ref mx), (1, .int p1), (2, .int p2)] := hl
  refine lv_aload_n hx hb dX7_draw_0 rfl (lv_at hl 0 rfl) ?_
  refine lv_iload_n hx hb dX7_draw_1 rfl (lv_at hl 2 rfl) ?_
  have hPc := hP.sub (ws' := [(mx, .inr (7, [.ref dr, .ref th, .ref bk, .ref wt, .ref tt, .ref lh, .ref la, .int sh, .long ab, .long be])), (dr, .inr (2, [.ref dp, .ref dc, .int (nI n)]))]) [0, 1] rfl
  refine va_calli (va_runV (As := [.int p2]) (rest := []) ⟨hx, hb, hml, hown, hts⟩ (mz_h_x_isSetting l dC dI cI cJ cZ mx dr th bk wt tt lh la sh ab be dp dc n p2 s.heap (by first | assumption | omega)) (cwV 1 hts gX7_draw_X7_isSetting rfl rfl rfl (by decide +kernel) ⟨Nat.le_of_ble_eq_true rfl, Nat.le_of_ble_eq_true rfl⟩) ⟨fun a U g mk q => mz_blP q, va_recv hK hPc (ci := 7) (q0 := 0) rfl rfl, fun U hU hW => ⟨rfl, hU, hPc, va_K.moved hW.alike hK, mz_nw hW hN⟩⟩ rfl rfl hl.1 rfl (lv_room (Nat.le_of_ble_eq_true rfl)) dX7_draw_2 ⟨Nat.le_of_ble_eq_true rfl, Nat.le_of_ble_eq_true rfl⟩) hS (fun q _ h => h.elim) (fun q h => h.elim) (fun r_2 u t H1 locs ht hvm hw_2 hB hz1 hk1 hS => ?_)
  have hE : s.heap = H1 := hB.symm.trans ht
  subst hE
  rcases (show (r_2 = 1 ∧ mz_stg n p2) ∨ (r_2 = 0 ∧ ¬ mz_stg n p2) from hw_2) with ⟨rfl, hc_2⟩ | ⟨rfl, hc_2⟩
  · skip
    refine lv_if_ne (tgt := 10) hx hb dX7_draw_5 (by decide) (fun _ => ?_) (fun c_5 => absurd c_5 (by decide +kernel))
    exact absurd hc_2 hnset
  · skip
    refine lv_if_ne (tgt := 10) hx hb dX7_draw_5 (by decide) (fun c_5 => absurd (by decide +kernel) c_5) (fun _ => ?_)
    refine lv_iconst (v := (-1)) hx hb dX7_draw_8 (by decide +kernel) ?_
    refine W.widen (k := 0) (n := 0) (Nat.le_of_ble_eq_true rfl) (Nat.le_of_ble_eq_true rfl) ?_
    exact W.iret (v := (-1)) hx hb hr (fun t ht hW => ⟨⟨(-1), (), rfl, rfl, ht⟩, hS.F ht⟩) hS.2.2 dX7_draw_9
set_option maxHeartbeats 1000000 in
set_option maxRecDepth 100000 in
theorem mz_h_m_partsOf (l : Launch) (dC : Nat → ClassId) (dI : Nat → Nat → Nat) (cI cJ cZ : ClassId) (mo : Nat) (m1 : Nat) (m2 : Nat) (m3 : Nat) (m6 : Nat) (m7 : Nat) (m8 : Nat) (m9 : Nat) (m10 : Nat) (m11 : Nat) (m12 : Nat) (m13 : Nat) (m14 : Nat) (m15 : Nat) (m16 : Nat) (n : Nat) (ka : Int64) (kb : Int64) (fp : Nat → Int32) (fb : Nat → Int32) (j : Nat) (p1 : Int32) (Hq : Heap) (hn : n ≤ 8) (hj : j < n) (hself : ∀ k, k < n → ∀ on, mz_rw (fp k) on 8 < 128) (hgb : ∀ k, k < n → ∀ j, j < 32 → mz_t (fp k) j = true → j < n) : Met l yX8_partsOf wsX8_partsOf ({ frames := 0, cells := 0, slots := 0, locals := 0 }) (va_Pc [.ref mo, .int (nI j), .int p1] (fun U => U.heap = Hq ∧ va_P (dC, dI) vwCl [(mo, .inr (8, [.int (nI n), .ref m1, .ref m2, .ref m3, .long ka, .long kb, .ref m6, .ref m7, .ref m8, .ref m9, .ref m10, .ref m11, .ref m12, .ref m13, .ref m14, .ref m15, .ref m16])), (m2, .inl (cI, 8, .inl fp)), (m3, .inl (cI, 1024, .inl fb))] Hq ∧ va_K (dC, dI) vwCl [(cI, FieldType.int), (cJ, FieldType.long), (cZ, FieldType.boolean)] U ∧ mz_N U)) (va_Qi (fun (r : Int32) (_ : Unit) => r = (fb (128 * j + mz_rw (fp j) p1 8))) (fun _ t => t.heap = Hq) (fun _ : Nat => False)) 0 0 (fun _ : Nat => False) := by
  refine Met.ofW (cc := cX8_partsOf) (maxL := 6) (ret := (some .int)) (by decide) rfl ?_
  intro p e s m args below meth c s₁ B hml hv
  obtain ⟨rfl, hH, hP, hK, hN⟩ := hv
  subst hH
  have hx := B.exec
  have hb := B.bytes
  have hr := B.returns
  have hts := atoms_spec (ws := wsX8_partsOf) B.pre
  have hown : s.vm.findClass RX8 = some m.cls := findClass_of_methodNamed B.named
  have hlocks := B.notSynchronized
  have hS : va_S (fun _ : Nat => False) s.heap s.heap [] := va_S.rf
  have hiX8 : ∀ w ∈ u_ws RX8 TX8 17, w ∈ wsX8_partsOf := by decide +kernel
  have hl := lv_entry ([.ref mo, .int (nI j), .int p1]) (n := 6) (Nat.le_of_ble_eq_true rfl)
  rw [lg_entry_eq]
  generalize (lg_sl ([.ref mo, .int (nI j), .int p1]) ++ List.replicate (6 - (lg_sl ([.ref mo, .int (nI j), .int p1])).length) Slot.unset).toArray = ls at hl ⊢
  have hl : lv_has ls 6 [(0, .ref mo), (1, .int (nI j)), (2, .int p1)] := hl
  refine lv_iconst (v := 0) hx hb dX8_partsOf_0 (by decide +kernel) ?_
  refine lv_istore_n (lv' := [(3, .int 0), (0, .ref mo), (1, .int (nI j)), (2, .int p1)]) hx hb dX8_partsOf_1 rfl hl (by decide) rfl (fun ls hl => ?_)
  refine lv_iconst (v := 0) hx hb dX8_partsOf_2 (by decide +kernel) ?_
  refine lv_istore (lv' := [(4, .int 0), (3, .int 0), (0, .ref mo), (1, .int (nI j)), (2, .int p1)]) hx hb dX8_partsOf_3 hl (by decide) rfl (fun ls hl => ?_)
  refine lv_iconst (v := 0) hx hb dX8_partsOf_5 (by decide +kernel) ?_
  refine lv_istore (lv' := [(5, .int 0), (4, .int 0), (3, .int 0), (0, .ref mo), (1, .int (nI j)), (2, .int p1)]) hx hb dX8_partsOf_6 hl (by decide) rfl (fun ls hl => ?_)
  refine mz_loopU (fun k H locs ls => ∃ (i_8 : Nat), ∃ (x4_8 : Int32), ∃ (x3_8 : Int32), i_8 ≤ n ∧ (x3_8 = nI (mz_rw (fp j) p1 i_8)) ∧ (x4_8 = nI (mz_pc (fp j) i_8)) ∧ H = s.heap ∧ va_S (fun _ : Nat => False) s.heap H locs ∧ lv_has ls 6 [(5, .int (nI i_8)), (4, .int x4_8), (3, .int x3_8), (0, .ref mo), (1, .int (nI j)), (2, .int p1)] ∧ k = n - i_8) ?_ _ _ _ _ ⟨0, 0, 0, by omega, rfl, rfl, rfl, hS, lv_sub hl [0, 1, 2, 3, 4, 5] rfl, rfl⟩
  intro k_8 H locs ls hI_8 ih_8
  obtain ⟨i_8, x4_8, x3_8, hi_8, hr_8, hc_8, hH_8, hS, hl, hk_8⟩ := hI_8
  subst hH_8
  subst hr_8
  subst hc_8
  refine lv_iload hx hb dX8_partsOf_8 (lv_at hl 0 rfl) ?_
  refine lv_aload_n hx hb dX8_partsOf_10 rfl (lv_at hl 3 rfl) ?_
  refine va_get (D := (dC, dI)) (ci := 8) (v := .int (nI n)) (C := RX8) (T := TX8) (N := 17) hx hb hts hiX8 hown hK hP 0 rfl rfl 0 (by decide) (hts (.fieldLink RX8 58 "MadeItSoModel" "many" "I") (by decide +kernel)) (fun _ h9 => h9) rfl dX8_partsOf_11 ?_
  refine lv_icmp_ge (tgt := 55) hx hb dX8_partsOf_14 (by decide) (fun c_14 => ?_) (fun c_14 => ?_)
  · skip
    have d_14 : n ≤ i_8 := (nI_leI (a := n) (b := i_8) (by omega) (by omega)).mp c_14
    obtain rfl : i_8 = n := (by omega)
    have hp7_ : mz_rw (fp j) p1 i_8 < 128 := (by rw [mz_rw_up hn (hgb j hj)]; exact hself j hj _)
    refine lv_aload_n hx hb dX8_partsOf_55 rfl (lv_at hl 3 rfl) ?_
    refine va_get (D := (dC, dI)) (ci := 8) (v := .ref m3) (C := RX8) (T := TX8) (N := 17) hx hb hts hiX8 hown hK hP 0 rfl rfl 3 (by decide) (hts (.fieldLink RX8 17 "MadeItSoModel" "books" "[I") (by decide +kernel)) (fun _ h9 => h9) rfl dX8_partsOf_56 ?_
    refine lv_sipush (v := 128) hx hb dX8_partsOf_59 (by decide +kernel) ?_
    refine lv_iload_n hx hb dX8_partsOf_62 rfl (lv_at hl 4 rfl) ?_
    refine lv_imul hx hb dX8_partsOf_63 ?_
    refine mz_ti (y := (nI (128 * j))) (pk_mul _ _) ?_
    refine lv_iload_n hx hb dX8_partsOf_64 rfl (lv_at hl 2 rfl) ?_
    refine lv_iadd hx hb dX8_partsOf_65 ?_
    refine mz_ti (y := (nI (128 * j + mz_rw (fp j) p1 i_8))) (nI_add _ _) ?_
    refine va_iald hx hb hK hP 2 0 rfl rfl (vp_in_nI (by omega) (by omega)) dX8_partsOf_66 ?_
    refine mz_ti (y := (fb (128 * j + mz_rw (fp j) p1 i_8))) (by rw [mz_cl (by omega)]) ?_
    refine W.widen (k := 0) (n := 0) (Nat.le_of_ble_eq_true rfl) (Nat.le_of_ble_eq_true rfl) ?_
    exact W.iret (v := (fb (128 * j + mz_rw (fp j) p1 i_8))) hx hb hr (fun t ht hW => ⟨⟨(fb (128 * j + mz_rw (fp j) p1 i_8)), (), rfl, (by rw [mz_rw_up hn (hgb j hj)]), ht⟩, hS.F ht⟩) hS.2.2 dX8_partsOf_67
  · skip
    have d_14 : ¬ n ≤ i_8 := fun h => c_14 ((nI_leI (a := n) (b := i_8) (by omega) (by omega)).mpr h)
    refine lv_aload_n hx hb dX8_partsOf_17 rfl (lv_at hl 3 rfl) ?_
    refine va_get (D := (dC, dI)) (ci := 8) (v := .ref m2) (C := RX8) (T := TX8) (N := 17) hx hb hts hiX8 hown hK hP 0 rfl rfl 2 (by decide) (hts (.fieldLink RX8 13 "MadeItSoModel" "parents" "[I") (by decide +kernel)) (fun _ h9 => h9) rfl dX8_partsOf_18 ?_
    refine lv_iload_n hx hb dX8_partsOf_21 rfl (lv_at hl 4 rfl) ?_
    refine va_iald hx hb hK hP 1 0 rfl rfl (vp_in_nI (by omega) (by omega)) dX8_partsOf_22 ?_
    refine mz_ti (y := (fp j)) (by rw [mz_cl (by omega)]) ?_
    refine lv_iload hx hb dX8_partsOf_23 (lv_at hl 0 rfl) ?_
    refine lv_ishr hx hb dX8_partsOf_25 ?_
    refine lv_iconst (v := 1) hx hb dX8_partsOf_26 (by decide +kernel) ?_
    refine lv_iand hx hb dX8_partsOf_27 ?_
    refine lv_if_ne (tgt := 34) hx hb dX8_partsOf_28 (by decide) (fun c_28 => ?_) (fun c_28 => ?_)
    · skip
      refine lv_iload_n hx hb dX8_partsOf_34 rfl (lv_at hl 2 rfl) ?_
      refine lv_iload_n hx hb dX8_partsOf_35 rfl (lv_at hl 5 rfl) ?_
      refine lv_iload hx hb dX8_partsOf_36 (lv_at hl 0 rfl) ?_
      refine lv_ishr hx hb dX8_partsOf_38 ?_
      refine lv_iconst (v := 1) hx hb dX8_partsOf_39 (by decide +kernel) ?_
      refine lv_iand hx hb dX8_partsOf_40 ?_
      refine lv_iload hx hb dX8_partsOf_41 (lv_at hl 1 rfl) ?_
      refine lv_ishl hx hb dX8_partsOf_43 ?_
      refine lv_ior hx hb dX8_partsOf_44 ?_
      refine lv_istore_n (lv' := [(3, .int ((nI (mz_rw (fp j) p1 i_8)) ||| (((p1 >>> ((nI i_8) &&& 31)) &&& 1) <<< ((nI (mz_pc (fp j) i_8)) &&& 31)))), (5, .int (nI i_8)), (4, .int (nI (mz_pc (fp j) i_8))), (0, .ref mo), (1, .int (nI j)), (2, .int p1)]) hx hb dX8_partsOf_45 rfl hl (by decide) rfl (fun ls hl => ?_)
      refine lv_iinc (v := (nI (mz_pc (fp j) i_8 + 1))) (lv' := [(4, .int (nI (mz_pc (fp j) i_8 + 1))), (3, .int ((nI (mz_rw (fp j) p1 i_8)) ||| (((p1 >>> ((nI i_8) &&& 31)) &&& 1) <<< ((nI (mz_pc (fp j) i_8)) &&& 31)))), (5, .int (nI i_8)), (0, .ref mo), (1, .int (nI j)), (2, .int p1)]) hx hb dX8_partsOf_46 hl (k := 2) rfl (nI_1 _) (by decide) rfl (fun ls hl => ?_)
      refine lv_iinc (v := (nI (i_8 + 1))) (lv' := [(5, .int (nI (i_8 + 1))), (4, .int (nI (mz_pc (fp j) i_8 + 1))), (3, .int ((nI (mz_rw (fp j) p1 i_8)) ||| (((p1 >>> ((nI i_8) &&& 31)) &&& 1) <<< ((nI (mz_pc (fp j) i_8)) &&& 31)))), (0, .ref mo), (1, .int (nI j)), (2, .int p1)]) hx hb dX8_partsOf_49 hl (k := 2) rfl (nI_1 _) (by decide) rfl (fun ls hl => ?_)
      refine lv_goto (tgt := 8) hx hb dX8_partsOf_52 (by decide) ?_
      exact ih_8 _ (by omega) _ _ _ ⟨(i_8 + 1), (nI (mz_pc (fp j) i_8 + 1)), ((nI (mz_rw (fp j) p1 i_8)) ||| (((p1 >>> ((nI i_8) &&& 31)) &&& 1) <<< ((nI (mz_pc (fp j) i_8)) &&& 31))), by omega, (mz_rw_s (by omega) (mz_t_y0 (by omega) c_28)), (by rw [mz_pc_y (mz_t_y0 (by omega) c_28)]), rfl, hS, lv_sub hl [0, 1, 2, 3, 4, 5] rfl, rfl⟩
    · skip
      refine lv_goto (tgt := 49) hx hb dX8_partsOf_31 (by decide) ?_
      refine lv_iinc (v := (nI (i_8 + 1))) (lv' := [(5, .int (nI (i_8 + 1))), (4, .int (nI (mz_pc (fp j) i_8))), (3, .int (nI (mz_rw (fp j) p1 i_8))), (0, .ref mo), (1, .int (nI j)), (2, .int p1)]) hx hb dX8_partsOf_49 hl (k := 0) rfl (nI_1 _) (by decide) rfl (fun ls hl => ?_)
      refine lv_goto (tgt := 8) hx hb dX8_partsOf_52 (by decide) ?_
      exact ih_8 _ (by omega) _ _ _ ⟨(i_8 + 1), (nI (mz_pc (fp j) i_8)), (nI (mz_rw (fp j) p1 i_8)), by omega, (by rw [mz_rw_n (mz_t_n0 (by omega) c_28)]), (by rw [mz_pc_n (mz_t_n0 (by omega) c_28)]), rfl, hS, lv_sub hl [0, 1, 2, 3, 4, 5] rfl, rfl⟩
set_option maxHeartbeats 1000000 in
set_option maxRecDepth 100000 in
theorem mz_h_m_draw (l : Launch) (dC : Nat → ClassId) (dI : Nat → Nat → Nat) (cI cJ cZ : ClassId) (mo : Nat) (m1 : Nat) (m2 : Nat) (m3 : Nat) (m6 : Nat) (m7 : Nat) (m8 : Nat) (m9 : Nat) (m10 : Nat) (m11 : Nat) (m12 : Nat) (m13 : Nat) (m14 : Nat) (m15 : Nat) (m16 : Nat) (n : Nat) (ka : Int64) (kb : Int64) (fp : Nat → Int32) (fb : Nat → Int32) (p1 : Int32) (p2 : Int32) (Hq : Heap) (hn : n ≤ 8) (ha : mz_acy n fp) (hself : ∀ k, k < n → ∀ on, mz_rw (fp k) on 8 < 128) (hgb : ∀ k, k < n → ∀ j, j < 32 → mz_t (fp k) j = true → j < n) (hset : mz_stg n p2) : Met l yX8_draw wsX8_draw ({ frames := 2, cells := 0, slots := 0, locals := 42 }) (va_Pc [.ref mo, .int p1, .int p2] (fun U => U.heap = Hq ∧ va_P (dC, dI) vwCl [(mo, .inr (8, [.int (nI n), .ref m1, .ref m2, .ref m3, .long ka, .long kb, .ref m6, .ref m7, .ref m8, .ref m9, .ref m10, .ref m11, .ref m12, .ref m13, .ref m14, .ref m15, .ref m16])), (m2, .inl (cI, 8, .inl fp)), (m3, .inl (cI, 1024, .inl fb))] Hq ∧ va_K (dC, dI) vwCl [(cI, FieldType.int), (cJ, FieldType.long), (cZ, FieldType.boolean)] U ∧ mz_N U)) (va_Qi (fun (r : Int32) (_ : Unit) => r = (mz_ds n fp fb p2 p1 n).2.2) (fun _ t => t.heap = Hq) (fun _ : Nat => False)) 0 0 (fun _ : Nat => False) := by
  refine Met.ofW (cc := cX8_draw) (maxL := 9) (ret := (some .int)) (by decide) rfl ?_
  intro p e s m args below meth c s₁ B hml hv
  obtain ⟨rfl, hH, hP, hK, hN⟩ := hv
  subst hH
  have hx := B.exec
  have hb := B.bytes
  have hr := B.returns
  have hts := atoms_spec (ws := wsX8_draw) B.pre
  have hown : s.vm.findClass RX8 = some m.cls := findClass_of_methodNamed B.named
  have hlocks := B.notSynchronized
  have hS : va_S (fun _ : Nat => False) s.heap s.heap [] := va_S.rf
  have hiX8 : ∀ w ∈ u_ws RX8 TX8 17, w ∈ wsX8_draw := by decide +kernel
  have hl := lv_entry ([.ref mo, .int p1, .int p2]) (n := 9) (Nat.le_of_ble_eq_true rfl)
  rw [lg_entry_eq]
  generalize (lg_sl ([.ref mo, .int p1, .int p2]) ++ List.replicate (9 - (lg_sl ([.ref mo, .int p1, .int p2])).length) Slot.unset).toArray = ls at hl ⊢
  have hl : lv_has ls 9 [(0, .ref mo), (1, .int p1), (2, .int p2)] := hl
  refine lv_aload_n hx hb dX8_draw_0 rfl (lv_at hl 0 rfl) ?_
  refine lv_iload_n hx hb dX8_draw_1 rfl (lv_at hl 2 rfl) ?_
  have hPc := hP.sub (ws' := [(mo, .inr (8, [.int (nI n), .ref m1, .ref m2, .ref m3, .long ka, .long kb, .ref m6, .ref m7, .ref m8, .ref m9, .ref m10, .ref m11, .ref m12, .ref m13, .ref m14, .ref m15, .ref m16]))]) [0] rfl
  refine va_calli (va_runV (As := [.int p2]) (rest := []) ⟨hx, hb, hml, hown, hts⟩ (mz_h_m_isSetting l dC dI cI cJ cZ mo m1 m2 m3 m6 m7 m8 m9 m10 m11 m12 m13 m14 m15 m16 n ka kb p2 s.heap (by first | assumption | omega)) (cwV 1 hts gX8_draw_X8_isSetting rfl rfl rfl (by decide +kernel) ⟨Nat.le_of_ble_eq_true rfl, Nat.le_of_ble_eq_true rfl⟩) ⟨fun a U g mk q => mz_blP q, va_recv hK hPc (ci := 8) (q0 := 0) rfl rfl, fun U hU hW => ⟨rfl, hU, hPc, va_K.moved hW.alike hK, mz_nw hW hN⟩⟩ rfl rfl hl.1 rfl (lv_room (Nat.le_of_ble_eq_true rfl)) dX8_draw_2 ⟨Nat.le_of_ble_eq_true rfl, Nat.le_of_ble_eq_true rfl⟩) hS (fun q _ h => h.elim) (fun q h => h.elim) (fun r_2 u t H1 locs ht hvm hw_2 hB hz1 hk1 hS => ?_)
  have hE : s.heap = H1 := hB.symm.trans ht
  subst hE
  rcases (show (r_2 = 1 ∧ mz_stg n p2) ∨ (r_2 = 0 ∧ ¬ mz_stg n p2) from hw_2) with ⟨rfl, hc_2⟩ | ⟨rfl, hc_2⟩
  · skip
    refine lv_if_ne (tgt := 10) hx hb dX8_draw_5 (by decide) (fun _ => ?_) (fun c_5 => absurd c_5 (by decide +kernel))
    refine lv_iload_n hx hb dX8_draw_10 rfl (lv_at hl 1 rfl) ?_
    refine lv_istore_n (lv' := [(3, .int p1), (0, .ref mo), (1, .int p1), (2, .int p2)]) hx hb dX8_draw_11 rfl hl (by decide) rfl (fun ls hl => ?_)
    refine lv_iconst (v := 0) hx hb dX8_draw_12 (by decide +kernel) ?_
    refine lv_istore (lv' := [(4, .int 0), (3, .int p1), (0, .ref mo), (1, .int p1), (2, .int p2)]) hx hb dX8_draw_13 hl (by decide) rfl (fun ls hl => ?_)
    refine lv_iconst (v := 0) hx hb dX8_draw_15 (by decide +kernel) ?_
    refine lv_istore (lv' := [(5, .int 0), (4, .int 0), (3, .int p1), (0, .ref mo), (1, .int p1), (2, .int p2)]) hx hb dX8_draw_16 hl (by decide) rfl (fun ls hl => ?_)
    refine lv_iconst (v := 0) hx hb dX8_draw_18 (by decide +kernel) ?_
    refine lv_istore (lv' := [(6, .int 0), (5, .int 0), (4, .int 0), (3, .int p1), (0, .ref mo), (1, .int p1), (2, .int p2)]) hx hb dX8_draw_19 hl (by decide) rfl (fun ls hl => ?_)
    refine mz_loopU (fun k H locs ls => ∃ (i_21 : Nat), ∃ (x5_21 : Int32), ∃ (x4_21 : Int32), ∃ (x3_21 : Int32), i_21 ≤ n ∧ (x3_21 = (mz_ds n fp fb p2 p1 i_21).1) ∧ (x4_21 = (mz_ds n fp fb p2 p1 i_21).2.1) ∧ (x5_21 = (mz_ds n fp fb p2 p1 i_21).2.2) ∧ (n ≤ mz_un x4_21 n + i_21) ∧ H = s.heap ∧ va_S (fun _ : Nat => False) s.heap H locs ∧ lv_has ls 9 [(6, .int (nI i_21)), (5, .int x5_21), (4, .int x4_21), (3, .int x3_21), (0, .ref mo), (1, .int p1), (2, .int p2)] ∧ k = n - i_21) ?_ _ _ _ _ ⟨0, 0, 0, p1, by omega, rfl, rfl, rfl, (mz_un_0 hn), rfl, hS, lv_sub hl [0, 1, 2, 3, 4, 5, 6] rfl, rfl⟩
    intro k_21 H locs ls hI_21 ih_21
    obtain ⟨i_21, x5_21, x4_21, x3_21, hi_21, hs_21, hm_21, ho_21, hu_21, hH_21, hS, hl, hk_21⟩ := hI_21
    subst hH_21
    refine lv_iload hx hb dX8_draw_21 (lv_at hl 0 rfl) ?_
    refine lv_aload_n hx hb dX8_draw_23 rfl (lv_at hl 4 rfl) ?_
    refine va_get (D := (dC, dI)) (ci := 8) (v := .int (nI n)) (C := RX8) (T := TX8) (N := 17) hx hb hts hiX8 hown hK hP 0 rfl rfl 0 (by decide) (hts (.fieldLink RX8 58 "MadeItSoModel" "many" "I") (by decide +kernel)) (fun _ h9 => h9) rfl dX8_draw_24 ?_
    refine lv_icmp_ge (tgt := 162) hx hb dX8_draw_27 (by decide) (fun c_27 => ?_) (fun c_27 => ?_)
    · skip
      have d_27 : n ≤ i_21 := (nI_leI (a := n) (b := i_21) (by omega) (by omega)).mp c_27
      refine lv_iload hx hb dX8_draw_162 (lv_at hl 1 rfl) ?_
      refine W.widen (k := 0) (n := 0) (Nat.le_of_ble_eq_true rfl) (Nat.le_of_ble_eq_true rfl) ?_
      exact W.iret (v := x5_21) hx hb hr (fun t ht hW => ⟨⟨x5_21, (), rfl, (by obtain rfl : i_21 = n := (by omega); exact ho_21), ht⟩, hS.F ht⟩) hS.2.2 dX8_draw_164
    · skip
      have d_27 : ¬ n ≤ i_21 := fun h => c_27 ((nI_leI (a := n) (b := i_21) (by omega) (by omega)).mpr h)
      refine lv_iconst (v := 0) hx hb dX8_draw_30 (by decide +kernel) ?_
      refine lv_istore (lv' := [(7, .int 0), (6, .int (nI i_21)), (5, .int x5_21), (4, .int x4_21), (3, .int x3_21), (0, .ref mo), (1, .int p1), (2, .int p2)]) hx hb dX8_draw_31 hl (by decide) rfl (fun ls hl => ?_)
      refine mz_loopU (fun k H locs ls => ∃ (i_33 : Nat), i_33 ≤ n ∧ (∃ q, i_33 ≤ q ∧ q < n ∧ mz_ok fp x4_21 q = true) ∧ (∀ q, q < i_33 → mz_ok fp x4_21 q = false) ∧ H = s.heap ∧ va_S (fun _ : Nat => False) s.heap H locs ∧ lv_has ls 9 [(7, .int (nI i_33)), (6, .int (nI i_21)), (5, .int x5_21), (4, .int x4_21), (3, .int x3_21), (0, .ref mo), (1, .int p1), (2, .int p2)] ∧ k = n - i_33) ?_ _ _ _ _ ⟨0, by omega, (by obtain ⟨q, h1, h2⟩ := mz_ok_ex ha hn hu_21 (show i_21 < n by omega); exact ⟨q, Nat.zero_le q, h1, h2⟩), (fun q hq => absurd hq (Nat.not_lt_zero q)), rfl, hS, lv_sub hl [0, 1, 2, 3, 4, 5, 6, 7] rfl, rfl⟩
      intro k_33 H locs ls hI_33 ih_33
      obtain ⟨i_33, hi_33, hx_33, hw_33, hH_33, hS, hl, hk_33⟩ := hI_33
      subst hH_33
      obtain ⟨q_, hq0_, hq1_, hq2_⟩ := hx_33
      refine lv_iload hx hb dX8_draw_33 (lv_at hl 3 rfl) ?_
      refine lv_iload hx hb dX8_draw_35 (lv_at hl 0 rfl) ?_
      refine lv_ishr hx hb dX8_draw_37 ?_
      refine lv_iconst (v := 1) hx hb dX8_draw_38 (by decide +kernel) ?_
      refine lv_iand hx hb dX8_draw_39 ?_
      refine lv_iconst (v := 1) hx hb dX8_draw_40 (by decide +kernel) ?_
      refine lv_icmp_eq (tgt := 59) hx hb dX8_draw_41 (by decide) (fun c_41 => ?_) (fun c_41 => ?_)
      · skip
        refine lv_iinc (v := (nI (i_33 + 1))) (lv' := [(7, .int (nI (i_33 + 1))), (6, .int (nI i_21)), (5, .int x5_21), (4, .int x4_21), (3, .int x3_21), (0, .ref mo), (1, .int p1), (2, .int p2)]) hx hb dX8_draw_59 hl (k := 0) rfl (nI_1 _) (by decide) rfl (fun ls hl => ?_)
        refine lv_goto (tgt := 33) hx hb dX8_draw_62 (by decide) ?_
        exact ih_33 _ (by omega) _ _ _ ⟨(i_33 + 1), by omega, ⟨q_, (by have hne : i_33 ≠ q_ := (fun e => by (rw [← e] at hq2_; first | (rw [mz_ok_n1 (mz_t_y (by omega) c_41)] at hq2_; cases hq2_) | (rw [mz_ok_n2 c_56] at hq2_; cases hq2_))); omega), hq1_, hq2_⟩, (lt_s hw_33 (by first | exact mz_ok_n1 (mz_t_y (by omega) c_41) | exact mz_ok_n2 c_56)), rfl, hS, lv_sub hl [0, 1, 2, 3, 4, 5, 6, 7] rfl, rfl⟩
      · skip
        refine lv_aload_n hx hb dX8_draw_44 rfl (lv_at hl 5 rfl) ?_
        refine va_get (D := (dC, dI)) (ci := 8) (v := .ref m2) (C := RX8) (T := TX8) (N := 17) hx hb hts hiX8 hown hK hP 0 rfl rfl 2 (by decide) (hts (.fieldLink RX8 13 "MadeItSoModel" "parents" "[I") (by decide +kernel)) (fun _ h9 => h9) rfl dX8_draw_45 ?_
        refine lv_iload hx hb dX8_draw_48 (lv_at hl 0 rfl) ?_
        refine va_iald hx hb hK hP 1 0 rfl rfl (vp_in_nI (by omega) (by omega)) dX8_draw_50 ?_
        refine mz_ti (y := (fp i_33)) (by rw [mz_cl (by omega)]) ?_
        refine lv_iload hx hb dX8_draw_51 (lv_at hl 3 rfl) ?_
        refine lv_iconst (v := (-1)) hx hb dX8_draw_53 (by decide +kernel) ?_
        refine lv_ixor hx hb dX8_draw_54 ?_
        refine lv_iand hx hb dX8_draw_55 ?_
        refine lv_if_eq (tgt := 65) hx hb dX8_draw_56 (by decide) (fun c_56 => ?_) (fun c_56 => ?_)
        · skip
          have hnk_ : mz_nk fp x4_21 n = i_33 := mz_nk_eq (by omega) (mz_ok_y (mz_t_n (by omega) c_41) c_56) hw_33
          have hin_ : i_33 < n := (by omega)
          refine lv_iload_n hx hb dX8_draw_65 rfl (lv_at hl 4 rfl) ?_
          refine lv_ldc hx hb hown (hts (.constant RX8 176 (1103515245)) (by decide +kernel)) dX8_draw_66 ?_
          refine lv_imul hx hb dX8_draw_68 ?_
          refine lv_sipush (v := 12345) hx hb dX8_draw_69 (by decide +kernel) ?_
          refine lv_iadd hx hb dX8_draw_72 ?_
          refine lv_istore_n (lv' := [(3, .int ((x3_21 * 1103515245) + 12345)), (7, .int (nI i_33)), (6, .int (nI i_21)), (5, .int x5_21), (4, .int x4_21), (0, .ref mo), (1, .int p1), (2, .int p2)]) hx hb dX8_draw_73 rfl hl (by decide) rfl (fun ls hl => ?_)
          refine lv_iload_n hx hb dX8_draw_74 rfl (lv_at hl 0 rfl) ?_
          refine lv_bipush (v := 16) hx hb dX8_draw_75 (by decide +kernel) ?_
          refine lv_iushr hx hb dX8_draw_77 rfl ?_
          refine lv_topi (fun v_77 ev_77 => ?_)
          refine lv_bipush (v := 100) hx hb dX8_draw_78 (by decide +kernel) ?_
          refine lv_irem hx hb dX8_draw_80 (by decide) ?_
          refine lv_topi (fun v_80 ev_80 => ?_)
          refine lv_aload_n hx hb dX8_draw_81 rfl (lv_at hl 5 rfl) ?_
          refine lv_iload hx hb dX8_draw_82 (lv_at hl 1 rfl) ?_
          refine lv_iload hx hb dX8_draw_84 (lv_at hl 3 rfl) ?_
          have hPc := hP.sub (ws' := [(mo, .inr (8, [.int (nI n), .ref m1, .ref m2, .ref m3, .long ka, .long kb, .ref m6, .ref m7, .ref m8, .ref m9, .ref m10, .ref m11, .ref m12, .ref m13, .ref m14, .ref m15, .ref m16])), (m2, .inl (cI, 8, .inl fp)), (m3, .inl (cI, 1024, .inl fb))]) [0, 1, 2] rfl
          refine va_calli (va_runV (As := [.int (nI i_33), .int x5_21]) (rest := [.int v_80]) ⟨hx, hb, hml, hown, hts⟩ (mz_h_m_partsOf l dC dI cI cJ cZ mo m1 m2 m3 m6 m7 m8 m9 m10 m11 m12 m13 m14 m15 m16 n ka kb fp fb i_33 x5_21 s.heap (by first | assumption | omega) (by first | assumption | omega) (by first | assumption | omega) (by first | assumption | omega)) (cwV 2 hts gX8_draw_X8_partsOf rfl rfl rfl (by decide +kernel) ⟨Nat.le_of_ble_eq_true rfl, Nat.le_of_ble_eq_true rfl⟩) ⟨fun a U g mk q => mz_blP q, va_recv hK hPc (ci := 8) (q0 := 0) rfl rfl, fun U hU hW => ⟨rfl, hU, hPc, va_K.moved hW.alike hK, mz_nw hW hN⟩⟩ rfl rfl hl.1 rfl (lv_room (Nat.le_of_ble_eq_true rfl)) dX8_draw_86 ⟨Nat.le_of_ble_eq_true rfl, Nat.le_of_ble_eq_true rfl⟩) hS (fun q _ h => h.elim) (fun q h => h.elim) (fun r_86 u t H1 locs ht hvm hw_86 hB hz1 hk1 hS => ?_)
          have hE : s.heap = H1 := hB.symm.trans ht
          subst hE
          obtain rfl : r_86 = (fb (128 * i_33 + mz_rw (fp i_33) x5_21 8)) := hw_86
          refine lv_icmp_ge (tgt := 96) hx hb dX8_draw_89 (by decide) (fun c_89 => ?_) (fun c_89 => ?_)
          · skip
            refine lv_iconst (v := 0) hx hb dX8_draw_96 (by decide +kernel) ?_
            refine lv_istore (lv' := [(8, .int 0), (3, .int ((x3_21 * 1103515245) + 12345)), (7, .int (nI i_33)), (6, .int (nI i_21)), (5, .int x5_21), (4, .int x4_21), (0, .ref mo), (1, .int p1), (2, .int p2)]) hx hb dX8_draw_97 hl (by decide) rfl (fun ls hl => ?_)
            refine lv_iload_n hx hb dX8_draw_99 rfl (lv_at hl 8 rfl) ?_
            refine lv_iload hx hb dX8_draw_100 (lv_at hl 2 rfl) ?_
            refine lv_ishr hx hb dX8_draw_102 ?_
            refine lv_iconst (v := 1) hx hb dX8_draw_103 (by decide +kernel) ?_
            refine lv_iand hx hb dX8_draw_104 ?_
            refine lv_iconst (v := 1) hx hb dX8_draw_105 (by decide +kernel) ?_
            refine lv_icmp_ne (tgt := 129) hx hb dX8_draw_106 (by decide) (fun c_106 => ?_) (fun c_106 => ?_)
            · skip
              refine lv_iload hx hb dX8_draw_129 (lv_at hl 4 rfl) ?_
              refine lv_iload hx hb dX8_draw_131 (lv_at hl 0 rfl) ?_
              refine lv_if_eq (tgt := 143) hx hb dX8_draw_133 (by decide) (fun _ => ?_) (fun c_133 => absurd (by decide +kernel) c_133)
              refine lv_iconst (v := 0) hx hb dX8_draw_143 (by decide +kernel) ?_
              refine lv_ior hx hb dX8_draw_144 ?_
              refine lv_istore (lv' := [(5, .int (x5_21 ||| 0)), (8, .int 0), (3, .int ((x3_21 * 1103515245) + 12345)), (7, .int (nI i_33)), (6, .int (nI i_21)), (4, .int x4_21), (0, .ref mo), (1, .int p1), (2, .int p2)]) hx hb dX8_draw_145 hl (by decide) rfl (fun ls hl => ?_)
              refine lv_iload hx hb dX8_draw_147 (lv_at hl 5 rfl) ?_
              refine lv_iconst (v := 1) hx hb dX8_draw_149 (by decide +kernel) ?_
              refine lv_iload hx hb dX8_draw_150 (lv_at hl 3 rfl) ?_
              refine lv_ishl hx hb dX8_draw_152 ?_
              refine lv_ior hx hb dX8_draw_153 ?_
              refine lv_istore (lv' := [(4, .int (x4_21 ||| (1 <<< ((nI i_33) &&& 31)))), (5, .int (x5_21 ||| 0)), (8, .int 0), (3, .int ((x3_21 * 1103515245) + 12345)), (7, .int (nI i_33)), (6, .int (nI i_21)), (0, .ref mo), (1, .int p1), (2, .int p2)]) hx hb dX8_draw_154 hl (by decide) rfl (fun ls hl => ?_)
              refine lv_iinc (v := (nI (i_21 + 1))) (lv' := [(6, .int (nI (i_21 + 1))), (4, .int (x4_21 ||| (1 <<< ((nI i_33) &&& 31)))), (5, .int (x5_21 ||| 0)), (8, .int 0), (3, .int ((x3_21 * 1103515245) + 12345)), (7, .int (nI i_33)), (0, .ref mo), (1, .int p1), (2, .int p2)]) hx hb dX8_draw_156 hl (k := 5) rfl (nI_1 _) (by decide) rfl (fun ls hl => ?_)
              refine lv_goto (tgt := 21) hx hb dX8_draw_159 (by decide) ?_
              exact ih_21 _ (by omega) _ _ _ ⟨(i_21 + 1), (x5_21 ||| 0), (x4_21 ||| (1 <<< ((nI i_33) &&& 31))), ((x3_21 * 1103515245) + 12345), by omega, (mz_ds_s hs_21 hm_21 ho_21 hnk_ hin_ (mz_om_n (mz_t_n (by omega) c_106) (by rw [show mz_rnd (mz_dn x3_21) = v_80 by rw [ev_80, ev_77]; rfl]; exact c_89))).1, (mz_ds_s hs_21 hm_21 ho_21 hnk_ hin_ (mz_om_n (mz_t_n (by omega) c_106) (by rw [show mz_rnd (mz_dn x3_21) = v_80 by rw [ev_80, ev_77]; rfl]; exact c_89))).2.1, (mz_ds_s hs_21 hm_21 ho_21 hnk_ hin_ (mz_om_n (mz_t_n (by omega) c_106) (by rw [show mz_rnd (mz_dn x3_21) = v_80 by rw [ev_80, ev_77]; rfl]; exact c_89))).2.2, (mz_un_next hn (by omega) hu_21), rfl, hS, lv_sub hl [0, 2, 1, 4, 6, 7, 8] rfl, rfl⟩
            · skip
              refine lv_iload_n hx hb dX8_draw_109 rfl (lv_at hl 8 rfl) ?_
              refine lv_bipush (v := 8) hx hb dX8_draw_110 (by decide +kernel) ?_
              refine lv_iload hx hb dX8_draw_112 (lv_at hl 2 rfl) ?_
              refine lv_iadd hx hb dX8_draw_114 ?_
              refine mz_ti (y := (nI (8 + i_33))) (nI_add _ _) ?_
              refine lv_ishr hx hb dX8_draw_115 ?_
              refine lv_iconst (v := 1) hx hb dX8_draw_116 (by decide +kernel) ?_
              refine lv_iand hx hb dX8_draw_117 ?_
              refine lv_iconst (v := 1) hx hb dX8_draw_118 (by decide +kernel) ?_
              refine lv_icmp_ne (tgt := 126) hx hb dX8_draw_119 (by decide) (fun c_119 => ?_) (fun c_119 => ?_)
              · skip
                refine lv_iconst (v := 0) hx hb dX8_draw_126 (by decide +kernel) ?_
                refine lv_istore (lv' := [(8, .int 0), (3, .int ((x3_21 * 1103515245) + 12345)), (7, .int (nI i_33)), (6, .int (nI i_21)), (5, .int x5_21), (4, .int x4_21), (0, .ref mo), (1, .int p1), (2, .int p2)]) hx hb dX8_draw_127 hl (by decide) rfl (fun ls hl => ?_)
                refine lv_iload hx hb dX8_draw_129 (lv_at hl 4 rfl) ?_
                refine lv_iload hx hb dX8_draw_131 (lv_at hl 0 rfl) ?_
                refine lv_if_eq (tgt := 143) hx hb dX8_draw_133 (by decide) (fun _ => ?_) (fun c_133 => absurd (by decide +kernel) c_133)
                refine lv_iconst (v := 0) hx hb dX8_draw_143 (by decide +kernel) ?_
                refine lv_ior hx hb dX8_draw_144 ?_
                refine lv_istore (lv' := [(5, .int (x5_21 ||| 0)), (8, .int 0), (3, .int ((x3_21 * 1103515245) + 12345)), (7, .int (nI i_33)), (6, .int (nI i_21)), (4, .int x4_21), (0, .ref mo), (1, .int p1), (2, .int p2)]) hx hb dX8_draw_145 hl (by decide) rfl (fun ls hl => ?_)
                refine lv_iload hx hb dX8_draw_147 (lv_at hl 5 rfl) ?_
                refine lv_iconst (v := 1) hx hb dX8_draw_149 (by decide +kernel) ?_
                refine lv_iload hx hb dX8_draw_150 (lv_at hl 3 rfl) ?_
                refine lv_ishl hx hb dX8_draw_152 ?_
                refine lv_ior hx hb dX8_draw_153 ?_
                refine lv_istore (lv' := [(4, .int (x4_21 ||| (1 <<< ((nI i_33) &&& 31)))), (5, .int (x5_21 ||| 0)), (8, .int 0), (3, .int ((x3_21 * 1103515245) + 12345)), (7, .int (nI i_33)), (6, .int (nI i_21)), (0, .ref mo), (1, .int p1), (2, .int p2)]) hx hb dX8_draw_154 hl (by decide) rfl (fun ls hl => ?_)
                refine lv_iinc (v := (nI (i_21 + 1))) (lv' := [(6, .int (nI (i_21 + 1))), (4, .int (x4_21 ||| (1 <<< ((nI i_33) &&& 31)))), (5, .int (x5_21 ||| 0)), (8, .int 0), (3, .int ((x3_21 * 1103515245) + 12345)), (7, .int (nI i_33)), (0, .ref mo), (1, .int p1), (2, .int p2)]) hx hb dX8_draw_156 hl (k := 5) rfl (nI_1 _) (by decide) rfl (fun ls hl => ?_)
                refine lv_goto (tgt := 21) hx hb dX8_draw_159 (by decide) ?_
                exact ih_21 _ (by omega) _ _ _ ⟨(i_21 + 1), (x5_21 ||| 0), (x4_21 ||| (1 <<< ((nI i_33) &&& 31))), ((x3_21 * 1103515245) + 12345), by omega, (mz_ds_s hs_21 hm_21 ho_21 hnk_ hin_ (mz_om_d0 (mz_t_y (by omega) c_106) (mz_t_n8 (by omega) c_119))).1, (mz_ds_s hs_21 hm_21 ho_21 hnk_ hin_ (mz_om_d0 (mz_t_y (by omega) c_106) (mz_t_n8 (by omega) c_119))).2.1, (mz_ds_s hs_21 hm_21 ho_21 hnk_ hin_ (mz_om_d0 (mz_t_y (by omega) c_106) (mz_t_n8 (by omega) c_119))).2.2, (mz_un_next hn (by omega) hu_21), rfl, hS, lv_sub hl [0, 2, 1, 4, 6, 7, 8] rfl, rfl⟩
              · skip
                refine lv_iconst (v := 1) hx hb dX8_draw_122 (by decide +kernel) ?_
                refine lv_goto (tgt := 127) hx hb dX8_draw_123 (by decide) ?_
                refine lv_istore (lv' := [(8, .int 1), (3, .int ((x3_21 * 1103515245) + 12345)), (7, .int (nI i_33)), (6, .int (nI i_21)), (5, .int x5_21), (4, .int x4_21), (0, .ref mo), (1, .int p1), (2, .int p2)]) hx hb dX8_draw_127 hl (by decide) rfl (fun ls hl => ?_)
                refine lv_iload hx hb dX8_draw_129 (lv_at hl 4 rfl) ?_
                refine lv_iload hx hb dX8_draw_131 (lv_at hl 0 rfl) ?_
                refine lv_if_eq (tgt := 143) hx hb dX8_draw_133 (by decide) (fun c_133 => absurd c_133 (by decide +kernel)) (fun _ => ?_)
                refine lv_iconst (v := 1) hx hb dX8_draw_136 (by decide +kernel) ?_
                refine lv_iload hx hb dX8_draw_137 (lv_at hl 2 rfl) ?_
                refine lv_ishl hx hb dX8_draw_139 ?_
                refine lv_goto (tgt := 144) hx hb dX8_draw_140 (by decide) ?_
                refine lv_ior hx hb dX8_draw_144 ?_
                refine lv_istore (lv' := [(5, .int (x5_21 ||| (1 <<< ((nI i_33) &&& 31)))), (8, .int 1), (3, .int ((x3_21 * 1103515245) + 12345)), (7, .int (nI i_33)), (6, .int (nI i_21)), (4, .int x4_21), (0, .ref mo), (1, .int p1), (2, .int p2)]) hx hb dX8_draw_145 hl (by decide) rfl (fun ls hl => ?_)
                refine lv_iload hx hb dX8_draw_147 (lv_at hl 5 rfl) ?_
                refine lv_iconst (v := 1) hx hb dX8_draw_149 (by decide +kernel) ?_
                refine lv_iload hx hb dX8_draw_150 (lv_at hl 3 rfl) ?_
                refine lv_ishl hx hb dX8_draw_152 ?_
                refine lv_ior hx hb dX8_draw_153 ?_
                refine lv_istore (lv' := [(4, .int (x4_21 ||| (1 <<< ((nI i_33) &&& 31)))), (5, .int (x5_21 ||| (1 <<< ((nI i_33) &&& 31)))), (8, .int 1), (3, .int ((x3_21 * 1103515245) + 12345)), (7, .int (nI i_33)), (6, .int (nI i_21)), (0, .ref mo), (1, .int p1), (2, .int p2)]) hx hb dX8_draw_154 hl (by decide) rfl (fun ls hl => ?_)
                refine lv_iinc (v := (nI (i_21 + 1))) (lv' := [(6, .int (nI (i_21 + 1))), (4, .int (x4_21 ||| (1 <<< ((nI i_33) &&& 31)))), (5, .int (x5_21 ||| (1 <<< ((nI i_33) &&& 31)))), (8, .int 1), (3, .int ((x3_21 * 1103515245) + 12345)), (7, .int (nI i_33)), (0, .ref mo), (1, .int p1), (2, .int p2)]) hx hb dX8_draw_156 hl (k := 5) rfl (nI_1 _) (by decide) rfl (fun ls hl => ?_)
                refine lv_goto (tgt := 21) hx hb dX8_draw_159 (by decide) ?_
                exact ih_21 _ (by omega) _ _ _ ⟨(i_21 + 1), (x5_21 ||| (1 <<< ((nI i_33) &&& 31))), (x4_21 ||| (1 <<< ((nI i_33) &&& 31))), ((x3_21 * 1103515245) + 12345), by omega, (mz_ds_s hs_21 hm_21 ho_21 hnk_ hin_ (mz_om_d1 (mz_t_y (by omega) c_106) (mz_t_y8 (by omega) c_119))).1, (mz_ds_s hs_21 hm_21 ho_21 hnk_ hin_ (mz_om_d1 (mz_t_y (by omega) c_106) (mz_t_y8 (by omega) c_119))).2.1, (mz_ds_s hs_21 hm_21 ho_21 hnk_ hin_ (mz_om_d1 (mz_t_y (by omega) c_106) (mz_t_y8 (by omega) c_119))).2.2, (mz_un_next hn (by omega) hu_21), rfl, hS, lv_sub hl [0, 2, 1, 4, 6, 7, 8] rfl, rfl⟩
          · skip
            refine lv_iconst (v := 1) hx hb dX8_draw_92 (by decide +kernel) ?_
            refine lv_goto (tgt := 97) hx hb dX8_draw_93 (by decide) ?_
            refine lv_istore (lv' := [(8, .int 1), (3, .int ((x3_21 * 1103515245) + 12345)), (7, .int (nI i_33)), (6, .int (nI i_21)), (5, .int x5_21), (4, .int x4_21), (0, .ref mo), (1, .int p1), (2, .int p2)]) hx hb dX8_draw_97 hl (by decide) rfl (fun ls hl => ?_)
            refine lv_iload_n hx hb dX8_draw_99 rfl (lv_at hl 8 rfl) ?_
            refine lv_iload hx hb dX8_draw_100 (lv_at hl 2 rfl) ?_
            refine lv_ishr hx hb dX8_draw_102 ?_
            refine lv_iconst (v := 1) hx hb dX8_draw_103 (by decide +kernel) ?_
            refine lv_iand hx hb dX8_draw_104 ?_
            refine lv_iconst (v := 1) hx hb dX8_draw_105 (by decide +kernel) ?_
            refine lv_icmp_ne (tgt := 129) hx hb dX8_draw_106 (by decide) (fun c_106 => ?_) (fun c_106 => ?_)
            · skip
              refine lv_iload hx hb dX8_draw_129 (lv_at hl 4 rfl) ?_
              refine lv_iload hx hb dX8_draw_131 (lv_at hl 0 rfl) ?_
              refine lv_if_eq (tgt := 143) hx hb dX8_draw_133 (by decide) (fun c_133 => absurd c_133 (by decide +kernel)) (fun _ => ?_)
              refine lv_iconst (v := 1) hx hb dX8_draw_136 (by decide +kernel) ?_
              refine lv_iload hx hb dX8_draw_137 (lv_at hl 2 rfl) ?_
              refine lv_ishl hx hb dX8_draw_139 ?_
              refine lv_goto (tgt := 144) hx hb dX8_draw_140 (by decide) ?_
              refine lv_ior hx hb dX8_draw_144 ?_
              refine lv_istore (lv' := [(5, .int (x5_21 ||| (1 <<< ((nI i_33) &&& 31)))), (8, .int 1), (3, .int ((x3_21 * 1103515245) + 12345)), (7, .int (nI i_33)), (6, .int (nI i_21)), (4, .int x4_21), (0, .ref mo), (1, .int p1), (2, .int p2)]) hx hb dX8_draw_145 hl (by decide) rfl (fun ls hl => ?_)
              refine lv_iload hx hb dX8_draw_147 (lv_at hl 5 rfl) ?_
              refine lv_iconst (v := 1) hx hb dX8_draw_149 (by decide +kernel) ?_
              refine lv_iload hx hb dX8_draw_150 (lv_at hl 3 rfl) ?_
              refine lv_ishl hx hb dX8_draw_152 ?_
              refine lv_ior hx hb dX8_draw_153 ?_
              refine lv_istore (lv' := [(4, .int (x4_21 ||| (1 <<< ((nI i_33) &&& 31)))), (5, .int (x5_21 ||| (1 <<< ((nI i_33) &&& 31)))), (8, .int 1), (3, .int ((x3_21 * 1103515245) + 12345)), (7, .int (nI i_33)), (6, .int (nI i_21)), (0, .ref mo), (1, .int p1), (2, .int p2)]) hx hb dX8_draw_154 hl (by decide) rfl (fun ls hl => ?_)
              refine lv_iinc (v := (nI (i_21 + 1))) (lv' := [(6, .int (nI (i_21 + 1))), (4, .int (x4_21 ||| (1 <<< ((nI i_33) &&& 31)))), (5, .int (x5_21 ||| (1 <<< ((nI i_33) &&& 31)))), (8, .int 1), (3, .int ((x3_21 * 1103515245) + 12345)), (7, .int (nI i_33)), (0, .ref mo), (1, .int p1), (2, .int p2)]) hx hb dX8_draw_156 hl (k := 5) rfl (nI_1 _) (by decide) rfl (fun ls hl => ?_)
              refine lv_goto (tgt := 21) hx hb dX8_draw_159 (by decide) ?_
              exact ih_21 _ (by omega) _ _ _ ⟨(i_21 + 1), (x5_21 ||| (1 <<< ((nI i_33) &&& 31))), (x4_21 ||| (1 <<< ((nI i_33) &&& 31))), ((x3_21 * 1103515245) + 12345), by omega, (mz_ds_s hs_21 hm_21 ho_21 hnk_ hin_ (mz_om_y (mz_t_n (by omega) c_106) (by rw [show mz_rnd (mz_dn x3_21) = v_80 by rw [ev_80, ev_77]; rfl]; exact c_89))).1, (mz_ds_s hs_21 hm_21 ho_21 hnk_ hin_ (mz_om_y (mz_t_n (by omega) c_106) (by rw [show mz_rnd (mz_dn x3_21) = v_80 by rw [ev_80, ev_77]; rfl]; exact c_89))).2.1, (mz_ds_s hs_21 hm_21 ho_21 hnk_ hin_ (mz_om_y (mz_t_n (by omega) c_106) (by rw [show mz_rnd (mz_dn x3_21) = v_80 by rw [ev_80, ev_77]; rfl]; exact c_89))).2.2, (mz_un_next hn (by omega) hu_21), rfl, hS, lv_sub hl [0, 2, 1, 4, 6, 7, 8] rfl, rfl⟩
            · skip
              refine lv_iload_n hx hb dX8_draw_109 rfl (lv_at hl 8 rfl) ?_
              refine lv_bipush (v := 8) hx hb dX8_draw_110 (by decide +kernel) ?_
              refine lv_iload hx hb dX8_draw_112 (lv_at hl 2 rfl) ?_
              refine lv_iadd hx hb dX8_draw_114 ?_
              refine mz_ti (y := (nI (8 + i_33))) (nI_add _ _) ?_
              refine lv_ishr hx hb dX8_draw_115 ?_
              refine lv_iconst (v := 1) hx hb dX8_draw_116 (by decide +kernel) ?_
              refine lv_iand hx hb dX8_draw_117 ?_
              refine lv_iconst (v := 1) hx hb dX8_draw_118 (by decide +kernel) ?_
              refine lv_icmp_ne (tgt := 126) hx hb dX8_draw_119 (by decide) (fun c_119 => ?_) (fun c_119 => ?_)
              · skip
                refine lv_iconst (v := 0) hx hb dX8_draw_126 (by decide +kernel) ?_
                refine lv_istore (lv' := [(8, .int 0), (3, .int ((x3_21 * 1103515245) + 12345)), (7, .int (nI i_33)), (6, .int (nI i_21)), (5, .int x5_21), (4, .int x4_21), (0, .ref mo), (1, .int p1), (2, .int p2)]) hx hb dX8_draw_127 hl (by decide) rfl (fun ls hl => ?_)
                refine lv_iload hx hb dX8_draw_129 (lv_at hl 4 rfl) ?_
                refine lv_iload hx hb dX8_draw_131 (lv_at hl 0 rfl) ?_
                refine lv_if_eq (tgt := 143) hx hb dX8_draw_133 (by decide) (fun _ => ?_) (fun c_133 => absurd (by decide +kernel) c_133)
                refine lv_iconst (v := 0) hx hb dX8_draw_143 (by decide +kernel) ?_
                refine lv_ior hx hb dX8_draw_144 ?_
                refine lv_istore (lv' := [(5, .int (x5_21 ||| 0)), (8, .int 0), (3, .int ((x3_21 * 1103515245) + 12345)), (7, .int (nI i_33)), (6, .int (nI i_21)), (4, .int x4_21), (0, .ref mo), (1, .int p1), (2, .int p2)]) hx hb dX8_draw_145 hl (by decide) rfl (fun ls hl => ?_)
                refine lv_iload hx hb dX8_draw_147 (lv_at hl 5 rfl) ?_
                refine lv_iconst (v := 1) hx hb dX8_draw_149 (by decide +kernel) ?_
                refine lv_iload hx hb dX8_draw_150 (lv_at hl 3 rfl) ?_
                refine lv_ishl hx hb dX8_draw_152 ?_
                refine lv_ior hx hb dX8_draw_153 ?_
                refine lv_istore (lv' := [(4, .int (x4_21 ||| (1 <<< ((nI i_33) &&& 31)))), (5, .int (x5_21 ||| 0)), (8, .int 0), (3, .int ((x3_21 * 1103515245) + 12345)), (7, .int (nI i_33)), (6, .int (nI i_21)), (0, .ref mo), (1, .int p1), (2, .int p2)]) hx hb dX8_draw_154 hl (by decide) rfl (fun ls hl => ?_)
                refine lv_iinc (v := (nI (i_21 + 1))) (lv' := [(6, .int (nI (i_21 + 1))), (4, .int (x4_21 ||| (1 <<< ((nI i_33) &&& 31)))), (5, .int (x5_21 ||| 0)), (8, .int 0), (3, .int ((x3_21 * 1103515245) + 12345)), (7, .int (nI i_33)), (0, .ref mo), (1, .int p1), (2, .int p2)]) hx hb dX8_draw_156 hl (k := 5) rfl (nI_1 _) (by decide) rfl (fun ls hl => ?_)
                refine lv_goto (tgt := 21) hx hb dX8_draw_159 (by decide) ?_
                exact ih_21 _ (by omega) _ _ _ ⟨(i_21 + 1), (x5_21 ||| 0), (x4_21 ||| (1 <<< ((nI i_33) &&& 31))), ((x3_21 * 1103515245) + 12345), by omega, (mz_ds_s hs_21 hm_21 ho_21 hnk_ hin_ (mz_om_d0 (mz_t_y (by omega) c_106) (mz_t_n8 (by omega) c_119))).1, (mz_ds_s hs_21 hm_21 ho_21 hnk_ hin_ (mz_om_d0 (mz_t_y (by omega) c_106) (mz_t_n8 (by omega) c_119))).2.1, (mz_ds_s hs_21 hm_21 ho_21 hnk_ hin_ (mz_om_d0 (mz_t_y (by omega) c_106) (mz_t_n8 (by omega) c_119))).2.2, (mz_un_next hn (by omega) hu_21), rfl, hS, lv_sub hl [0, 2, 1, 4, 6, 7, 8] rfl, rfl⟩
              · skip
                refine lv_iconst (v := 1) hx hb dX8_draw_122 (by decide +kernel) ?_
                refine lv_goto (tgt := 127) hx hb dX8_draw_123 (by decide) ?_
                refine lv_istore (lv' := [(8, .int 1), (3, .int ((x3_21 * 1103515245) + 12345)), (7, .int (nI i_33)), (6, .int (nI i_21)), (5, .int x5_21), (4, .int x4_21), (0, .ref mo), (1, .int p1), (2, .int p2)]) hx hb dX8_draw_127 hl (by decide) rfl (fun ls hl => ?_)
                refine lv_iload hx hb dX8_draw_129 (lv_at hl 4 rfl) ?_
                refine lv_iload hx hb dX8_draw_131 (lv_at hl 0 rfl) ?_
                refine lv_if_eq (tgt := 143) hx hb dX8_draw_133 (by decide) (fun c_133 => absurd c_133 (by decide +kernel)) (fun _ => ?_)
                refine lv_iconst (v := 1) hx hb dX8_draw_136 (by decide +kernel) ?_
                refine lv_iload hx hb dX8_draw_137 (lv_at hl 2 rfl) ?_
                refine lv_ishl hx hb dX8_draw_139 ?_
                refine lv_goto (tgt := 144) hx hb dX8_draw_140 (by decide) ?_
                refine lv_ior hx hb dX8_draw_144 ?_
                refine lv_istore (lv' := [(5, .int (x5_21 ||| (1 <<< ((nI i_33) &&& 31)))), (8, .int 1), (3, .int ((x3_21 * 1103515245) + 12345)), (7, .int (nI i_33)), (6, .int (nI i_21)), (4, .int x4_21), (0, .ref mo), (1, .int p1), (2, .int p2)]) hx hb dX8_draw_145 hl (by decide) rfl (fun ls hl => ?_)
                refine lv_iload hx hb dX8_draw_147 (lv_at hl 5 rfl) ?_
                refine lv_iconst (v := 1) hx hb dX8_draw_149 (by decide +kernel) ?_
                refine lv_iload hx hb dX8_draw_150 (lv_at hl 3 rfl) ?_
                refine lv_ishl hx hb dX8_draw_152 ?_
                refine lv_ior hx hb dX8_draw_153 ?_
                refine lv_istore (lv' := [(4, .int (x4_21 ||| (1 <<< ((nI i_33) &&& 31)))), (5, .int (x5_21 ||| (1 <<< ((nI i_33) &&& 31)))), (8, .int 1), (3, .int ((x3_21 * 1103515245) + 12345)), (7, .int (nI i_33)), (6, .int (nI i_21)), (0, .ref mo), (1, .int p1), (2, .int p2)]) hx hb dX8_draw_154 hl (by decide) rfl (fun ls hl => ?_)
                refine lv_iinc (v := (nI (i_21 + 1))) (lv' := [(6, .int (nI (i_21 + 1))), (4, .int (x4_21 ||| (1 <<< ((nI i_33) &&& 31)))), (5, .int (x5_21 ||| (1 <<< ((nI i_33) &&& 31)))), (8, .int 1), (3, .int ((x3_21 * 1103515245) + 12345)), (7, .int (nI i_33)), (0, .ref mo), (1, .int p1), (2, .int p2)]) hx hb dX8_draw_156 hl (k := 5) rfl (nI_1 _) (by decide) rfl (fun ls hl => ?_)
                refine lv_goto (tgt := 21) hx hb dX8_draw_159 (by decide) ?_
                exact ih_21 _ (by omega) _ _ _ ⟨(i_21 + 1), (x5_21 ||| (1 <<< ((nI i_33) &&& 31))), (x4_21 ||| (1 <<< ((nI i_33) &&& 31))), ((x3_21 * 1103515245) + 12345), by omega, (mz_ds_s hs_21 hm_21 ho_21 hnk_ hin_ (mz_om_d1 (mz_t_y (by omega) c_106) (mz_t_y8 (by omega) c_119))).1, (mz_ds_s hs_21 hm_21 ho_21 hnk_ hin_ (mz_om_d1 (mz_t_y (by omega) c_106) (mz_t_y8 (by omega) c_119))).2.1, (mz_ds_s hs_21 hm_21 ho_21 hnk_ hin_ (mz_om_d1 (mz_t_y (by omega) c_106) (mz_t_y8 (by omega) c_119))).2.2, (mz_un_next hn (by omega) hu_21), rfl, hS, lv_sub hl [0, 2, 1, 4, 6, 7, 8] rfl, rfl⟩
        · skip
          refine lv_iinc (v := (nI (i_33 + 1))) (lv' := [(7, .int (nI (i_33 + 1))), (6, .int (nI i_21)), (5, .int x5_21), (4, .int x4_21), (3, .int x3_21), (0, .ref mo), (1, .int p1), (2, .int p2)]) hx hb dX8_draw_59 hl (k := 0) rfl (nI_1 _) (by decide) rfl (fun ls hl => ?_)
          refine lv_goto (tgt := 33) hx hb dX8_draw_62 (by decide) ?_
          exact ih_33 _ (by omega) _ _ _ ⟨(i_33 + 1), by omega, ⟨q_, (by have hne : i_33 ≠ q_ := (fun e => by (rw [← e] at hq2_; first | (rw [mz_ok_n1 (mz_t_y (by omega) c_41)] at hq2_; cases hq2_) | (rw [mz_ok_n2 c_56] at hq2_; cases hq2_))); omega), hq1_, hq2_⟩, (lt_s hw_33 (by first | exact mz_ok_n1 (mz_t_y (by omega) c_41) | exact mz_ok_n2 c_56)), rfl, hS, lv_sub hl [0, 1, 2, 3, 4, 5, 6, 7] rfl, rfl⟩
  · skip
    refine lv_if_ne (tgt := 10) hx hb dX8_draw_5 (by decide) (fun c_5 => absurd (by decide +kernel) c_5) (fun _ => ?_)
    exact absurd hset hc_2
set_option maxHeartbeats 1000000 in
set_option maxRecDepth 100000 in
theorem mz_h_m_draw_out (l : Launch) (dC : Nat → ClassId) (dI : Nat → Nat → Nat) (cI cJ cZ : ClassId) (mo : Nat) (m1 : Nat) (m2 : Nat) (m3 : Nat) (m6 : Nat) (m7 : Nat) (m8 : Nat) (m9 : Nat) (m10 : Nat) (m11 : Nat) (m12 : Nat) (m13 : Nat) (m14 : Nat) (m15 : Nat) (m16 : Nat) (n : Nat) (ka : Int64) (kb : Int64) (p1 : Int32) (p2 : Int32) (Hq : Heap) (hn : n ≤ 8) (hnset : ¬ mz_stg n p2) : Met l yX8_draw wsX8_draw ({ frames := 2, cells := 0, slots := 0, locals := 42 }) (va_Pc [.ref mo, .int p1, .int p2] (fun U => U.heap = Hq ∧ va_P (dC, dI) vwCl [(mo, .inr (8, [.int (nI n), .ref m1, .ref m2, .ref m3, .long ka, .long kb, .ref m6, .ref m7, .ref m8, .ref m9, .ref m10, .ref m11, .ref m12, .ref m13, .ref m14, .ref m15, .ref m16]))] Hq ∧ va_K (dC, dI) vwCl [(cI, FieldType.int), (cJ, FieldType.long), (cZ, FieldType.boolean)] U ∧ mz_N U)) (va_Qi (fun (r : Int32) (_ : Unit) => r = (-1)) (fun _ t => t.heap = Hq) (fun _ : Nat => False)) 0 0 (fun _ : Nat => False) := by
  refine Met.ofW (cc := cX8_draw) (maxL := 9) (ret := (some .int)) (by decide) rfl ?_
  intro p e s m args below meth c s₁ B hml hv
  obtain ⟨rfl, hH, hP, hK, hN⟩ := hv
  subst hH
  have hx := B.exec
  have hb := B.bytes
  have hr := B.returns
  have hts := atoms_spec (ws := wsX8_draw) B.pre
  have hown : s.vm.findClass RX8 = some m.cls := findClass_of_methodNamed B.named
  have hlocks := B.notSynchronized
  have hS : va_S (fun _ : Nat => False) s.heap s.heap [] := va_S.rf
  have hl := lv_entry ([.ref mo, .int p1, .int p2]) (n := 9) (Nat.le_of_ble_eq_true rfl)
  rw [lg_entry_eq]
  generalize (lg_sl ([.ref mo, .int p1, .int p2]) ++ List.replicate (9 - (lg_sl ([.ref mo, .int p1, .int p2])).length) Slot.unset).toArray = ls at hl ⊢
  have hl : lv_has ls 9 [(0, .ref mo), (1, .int p1), (2, .int p2)] := hl
  refine lv_aload_n hx hb dX8_draw_0 rfl (lv_at hl 0 rfl) ?_
  refine lv_iload_n hx hb dX8_draw_1 rfl (lv_at hl 2 rfl) ?_
  have hPc := hP.sub (ws' := [(mo, .inr (8, [.int (nI n), .ref m1, .ref m2, .ref m3, .long ka, .long kb, .ref m6, .ref m7, .ref m8, .ref m9, .ref m10, .ref m11, .ref m12, .ref m13, .ref m14, .ref m15, .ref m16]))]) [0] rfl
  refine va_calli (va_runV (As := [.int p2]) (rest := []) ⟨hx, hb, hml, hown, hts⟩ (mz_h_m_isSetting l dC dI cI cJ cZ mo m1 m2 m3 m6 m7 m8 m9 m10 m11 m12 m13 m14 m15 m16 n ka kb p2 s.heap (by first | assumption | omega)) (cwV 1 hts gX8_draw_X8_isSetting rfl rfl rfl (by decide +kernel) ⟨Nat.le_of_ble_eq_true rfl, Nat.le_of_ble_eq_true rfl⟩) ⟨fun a U g mk q => mz_blP q, va_recv hK hPc (ci := 8) (q0 := 0) rfl rfl, fun U hU hW => ⟨rfl, hU, hPc, va_K.moved hW.alike hK, mz_nw hW hN⟩⟩ rfl rfl hl.1 rfl (lv_room (Nat.le_of_ble_eq_true rfl)) dX8_draw_2 ⟨Nat.le_of_ble_eq_true rfl, Nat.le_of_ble_eq_true rfl⟩) hS (fun q _ h => h.elim) (fun q h => h.elim) (fun r_2 u t H1 locs ht hvm hw_2 hB hz1 hk1 hS => ?_)
  have hE : s.heap = H1 := hB.symm.trans ht
  subst hE
  rcases (show (r_2 = 1 ∧ mz_stg n p2) ∨ (r_2 = 0 ∧ ¬ mz_stg n p2) from hw_2) with ⟨rfl, hc_2⟩ | ⟨rfl, hc_2⟩
  · skip
    refine lv_if_ne (tgt := 10) hx hb dX8_draw_5 (by decide) (fun _ => ?_) (fun c_5 => absurd c_5 (by decide +kernel))
    exact absurd hc_2 hnset
  · skip
    refine lv_if_ne (tgt := 10) hx hb dX8_draw_5 (by decide) (fun c_5 => absurd (by decide +kernel) c_5) (fun _ => ?_)
    refine lv_iconst (v := (-1)) hx hb dX8_draw_8 (by decide +kernel) ?_
    refine W.widen (k := 0) (n := 0) (Nat.le_of_ble_eq_true rfl) (Nat.le_of_ble_eq_true rfl) ?_
    exact W.iret (v := (-1)) hx hb hr (fun t ht hW => ⟨⟨(-1), (), rfl, rfl, ht⟩, hS.F ht⟩) hS.2.2 dX8_draw_9
