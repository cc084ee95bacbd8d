/-! MadeItSo without things: every method answers so -/
set_option maxHeartbeats 1000000 in
set_option maxRecDepth 100000 in
theorem mz_bit0 (l : Launch) (dC : Nat → ClassId) (dI : Nat → Nat → Nat) (cI cJ cZ : ClassId)  (Hq : Heap)  : Met l yX7_bit wsX7_bit ({ frames := 0, cells := 0, slots := 0, locals := 0 }) (va_Pc [.int 0] (fun U => U.heap = Hq ∧ va_P (dC, dI) vwCl [] Hq ∧ va_K (dC, dI) vwCl [(cI, FieldType.int), (cJ, FieldType.long), (cZ, FieldType.boolean)] U ∧ mz_N U)) (va_Qi (fun (r : Int32) (_ : Unit) => r = 1) (fun _ t => t.heap = Hq) (fun _ : Nat => False)) 0 0 (fun _ : Nat => False) := by
  refine Met.ofW (cc := cX7_bit) (maxL := 1) (ret := (some .int)) (by decide) rfl ?_
  intro p e s m args below meth c s₁ B hml hv
  obtain ⟨rfl, hH, hP, hK, hN⟩ := hv
  subst hH
  have hx := B.exec
  have hb := B.bytes
  have hr := B.returns
  have hts := atoms_spec (ws := wsX7_bit) B.pre
  have hown : s.vm.findClass RX7 = some m.cls := findClass_of_methodNamed B.named
  have hlocks := B.notSynchronized
  have hS : va_S (fun _ : Nat => False) s.heap s.heap [] := va_S.rf
  have hl := lv_entry ([.int 0]) (n := 1) (Nat.le_of_ble_eq_true rfl)
  rw [lg_entry_eq]
  generalize (lg_sl ([.int 0]) ++ List.replicate (1 - (lg_sl ([.int 0])).length) Slot.unset).toArray = ls at hl ⊢
  have hl : lv_has ls 1 [(0, .int 0)] := hl
  refine lv_iconst (v := 1) hx hb dX7_bit_0 (by decide +kernel) ?_
  refine lv_iload_n hx hb dX7_bit_1 rfl (lv_at hl 0 rfl) ?_
  refine lv_ishl hx hb dX7_bit_2 ?_
  refine mz_ti (y := 1) (by decide +kernel) ?_
  refine W.widen (k := 0) (n := 0) (Nat.le_of_ble_eq_true rfl) (Nat.le_of_ble_eq_true rfl) ?_
  exact W.iret (v := 1) hx hb hr (fun t ht hW => ⟨⟨1, (), rfl, rfl, ht⟩, hS.F ht⟩) hS.2.2 dX7_bit_3
set_option maxHeartbeats 1000000 in
set_option maxRecDepth 100000 in
theorem mz_inHeap0 (l : Launch) (dC : Nat → ClassId) (dI : Nat → Nat → Nat) (cI cJ cZ : ClassId) (p1 : Int32) (Hq : Heap)  : Met l yX7_inHeap wsX7_inHeap ({ frames := 0, cells := 0, slots := 0, locals := 0 }) (va_Pc [.int 0, .int p1] (fun U => U.heap = Hq ∧ va_P (dC, dI) vwCl [] Hq ∧ va_K (dC, dI) vwCl [(cI, FieldType.int), (cJ, FieldType.long), (cZ, FieldType.boolean)] U ∧ mz_N U)) (va_Qi (fun (r : Int32) (_ : Unit) => r = 0) (fun _ t => t.heap = Hq) (fun _ : Nat => False)) 0 0 (fun _ : Nat => False) := by
  refine Met.ofW (cc := cX7_inHeap) (maxL := 2) (ret := (some .boolean)) (by decide) rfl ?_
  intro p e s m args below meth c s₁ B hml hv
  obtain ⟨rfl, hH, hP, hK, hN⟩ := hv
  subst hH
  have hx := B.exec
  have hb := B.bytes
  have hr := B.returns
  have hts := atoms_spec (ws := wsX7_inHeap) B.pre
  have hown : s.vm.findClass RX7 = some m.cls := findClass_of_methodNamed B.named
  have hlocks := B.notSynchronized
  have hS : va_S (fun _ : Nat => False) s.heap s.heap [] := va_S.rf
  have hl := lv_entry ([.int 0, .int p1]) (n := 2) (Nat.le_of_ble_eq_true rfl)
  rw [lg_entry_eq]
  generalize (lg_sl ([.int 0, .int p1]) ++ List.replicate (2 - (lg_sl ([.int 0, .int p1])).length) Slot.unset).toArray = ls at hl ⊢
  have hl : lv_has ls 2 [(0, .int 0), (1, .int p1)] := hl
  refine lv_iload_n hx hb dX7_inHeap_0 rfl (lv_at hl 0 rfl) ?_
  refine lv_iload_n hx hb dX7_inHeap_1 rfl (lv_at hl 1 rfl) ?_
  refine lv_ishr hx hb dX7_inHeap_2 ?_
  refine mz_ti (y := 0) (mz_0s _) ?_
  refine lv_iconst (v := 1) hx hb dX7_inHeap_3 (by decide +kernel) ?_
  refine lv_iand hx hb dX7_inHeap_4 ?_
  refine mz_ti (y := 0) (by decide +kernel) ?_
  refine lv_iconst (v := 1) hx hb dX7_inHeap_5 (by decide +kernel) ?_
  refine lv_icmp_ne (tgt := 13) hx hb dX7_inHeap_6 (by decide) (fun _ => ?_) (fun c_6 => absurd c_6 (by decide +kernel))
  refine lv_iconst (v := 0) hx hb dX7_inHeap_13 (by decide +kernel) ?_
  refine W.widen (k := 0) (n := 0) (Nat.le_of_ble_eq_true rfl) (Nat.le_of_ble_eq_true rfl) ?_
  exact W.zret (v := 0) hx hb hr (mz_nz (by decide +kernel)) (fun t ht hW => ⟨⟨0, (), rfl, rfl, ht⟩, hS.F ht⟩) hS.2.2 dX7_inHeap_14
set_option maxHeartbeats 1000000 in
set_option maxRecDepth 100000 in
theorem mz_heapOf (l : Launch) (dC : Nat → ClassId) (dI : Nat → Nat → Nat) (cI cJ cZ : ClassId) (p0 : Int32) (Hq : Heap)  : Met l yX7_heapOf wsX7_heapOf ({ frames := 0, cells := 0, slots := 0, locals := 0 }) (va_Pc [.int p0] (fun U => U.heap = Hq ∧ va_P (dC, dI) vwCl [] Hq ∧ va_K (dC, dI) vwCl [(cI, FieldType.int), (cJ, FieldType.long), (cZ, FieldType.boolean)] U ∧ mz_N U)) (va_Qi (fun (r : Int32) (_ : Unit) => r = (p0 &&& 255)) (fun _ t => t.heap = Hq) (fun _ : Nat => False)) 0 0 (fun _ : Nat => False) := by
  refine Met.ofW (cc := cX7_heapOf) (maxL := 1) (ret := (some .int)) (by decide) rfl ?_
  intro p e s m args below meth c s₁ B hml hv
  obtain ⟨rfl, hH, hP, hK, hN⟩ := hv
  subst hH
  have hx := B.exec
  have hb := B.bytes
  have hr := B.returns
  have hts := atoms_spec (ws := wsX7_heapOf) B.pre
  have hown : s.vm.findClass RX7 = some m.cls := findClass_of_methodNamed B.named
  have hlocks := B.notSynchronized
  have hS : va_S (fun _ : Nat => False) s.heap s.heap [] := va_S.rf
  have hl := lv_entry ([.int p0]) (n := 1) (Nat.le_of_ble_eq_true rfl)
  rw [lg_entry_eq]
  generalize (lg_sl ([.int p0]) ++ List.replicate (1 - (lg_sl ([.int p0])).length) Slot.unset).toArray = ls at hl ⊢
  have hl : lv_has ls 1 [(0, .int p0)] := hl
  refine lv_iload_n hx hb dX7_heapOf_0 rfl (lv_at hl 0 rfl) ?_
  refine lv_sipush (v := 255) hx hb dX7_heapOf_1 (by decide +kernel) ?_
  refine lv_iand hx hb dX7_heapOf_4 ?_
  refine W.widen (k := 0) (n := 0) (Nat.le_of_ble_eq_true rfl) (Nat.le_of_ble_eq_true rfl) ?_
  exact W.iret (v := (p0 &&& 255)) hx hb hr (fun t ht hW => ⟨⟨(p0 &&& 255), (), rfl, rfl, ht⟩, hS.F ht⟩) hS.2.2 dX7_heapOf_5
set_option maxHeartbeats 1000000 in
set_option maxRecDepth 100000 in
theorem mz_onesOf (l : Launch) (dC : Nat → ClassId) (dI : Nat → Nat → Nat) (cI cJ cZ : ClassId) (p0 : Int32) (Hq : Heap)  : Met l yX7_onesOf wsX7_onesOf ({ frames := 0, cells := 0, slots := 0, locals := 0 }) (va_Pc [.int p0] (fun U => U.heap = Hq ∧ va_P (dC, dI) vwCl [] Hq ∧ va_K (dC, dI) vwCl [(cI, FieldType.int), (cJ, FieldType.long), (cZ, FieldType.boolean)] U ∧ mz_N U)) (va_Qi (fun (r : Int32) (_ : Unit) => r = ((p0 >>> (8 &&& 31)) &&& 255)) (fun _ t => t.heap = Hq) (fun _ : Nat => False)) 0 0 (fun _ : Nat => False) := by
  refine Met.ofW (cc := cX7_onesOf) (maxL := 1) (ret := (some .int)) (by decide) rfl ?_
  intro p e s m args below meth c s₁ B hml hv
  obtain ⟨rfl, hH, hP, hK, hN⟩ := hv
  subst hH
  have hx := B.exec
  have hb := B.bytes
  have hr := B.returns
  have hts := atoms_spec (ws := wsX7_onesOf) B.pre
  have hown : s.vm.findClass RX7 = some m.cls := findClass_of_methodNamed B.named
  have hlocks := B.notSynchronized
  have hS : va_S (fun _ : Nat => False) s.heap s.heap [] := va_S.rf
  have hl := lv_entry ([.int p0]) (n := 1) (Nat.le_of_ble_eq_true rfl)
  rw [lg_entry_eq]
  generalize (lg_sl ([.int p0]) ++ List.replicate (1 - (lg_sl ([.int p0])).length) Slot.unset).toArray = ls at hl ⊢
  have hl : lv_has ls 1 [(0, .int p0)] := hl
  refine lv_iload_n hx hb dX7_onesOf_0 rfl (lv_at hl 0 rfl) ?_
  refine lv_bipush (v := 8) hx hb dX7_onesOf_1 (by decide +kernel) ?_
  refine lv_ishr hx hb dX7_onesOf_3 ?_
  refine lv_sipush (v := 255) hx hb dX7_onesOf_4 (by decide +kernel) ?_
  refine lv_iand hx hb dX7_onesOf_7 ?_
  refine W.widen (k := 0) (n := 0) (Nat.le_of_ble_eq_true rfl) (Nat.le_of_ble_eq_true rfl) ?_
  exact W.iret (v := ((p0 >>> (8 &&& 31)) &&& 255)) hx hb hr (fun t ht hW => ⟨⟨((p0 >>> (8 &&& 31)) &&& 255), (), rfl, rfl, ht⟩, hS.F ht⟩) hS.2.2 dX7_onesOf_8
set_option maxHeartbeats 1000000 in
set_option maxRecDepth 100000 in
theorem mz_bitCount0 (l : Launch) (dC : Nat → ClassId) (dI : Nat → Nat → Nat) (cI cJ cZ : ClassId)  (Hq : Heap)  : Met l yJ6_bitCount_0f7a4 wsJ6_bitCount_0f7a4 ({ frames := 0, cells := 0, slots := 0, locals := 0 }) (va_Pc [.int 0] (fun U => U.heap = Hq ∧ va_P (dC, dI) vwCl [] Hq ∧ va_K (dC, dI) vwCl [(cI, FieldType.int), (cJ, FieldType.long), (cZ, FieldType.boolean)] U ∧ mz_N U)) (va_Qi (fun (r : Int32) (_ : Unit) => r = 0) (fun _ t => t.heap = Hq) (fun _ : Nat => False)) 0 0 (fun _ : Nat => False) := by
  refine Met.ofW (cc := cJ6_bitCount_0f7a4) (maxL := 1) (ret := (some .int)) (by decide) rfl ?_
  intro p e s m args below meth c s₁ B hml hv
  obtain ⟨rfl, hH, hP, hK, hN⟩ := hv
  subst hH
  have hx := B.exec
  have hb := B.bytes
  have hr := B.returns
  have hts := atoms_spec (ws := wsJ6_bitCount_0f7a4) B.pre
  have hown : s.vm.findClass RJ6 = some m.cls := findClass_of_methodNamed B.named
  have hlocks := B.notSynchronized
  have hS : va_S (fun _ : Nat => False) s.heap s.heap [] := va_S.rf
  have hl := lv_entry ([.int 0]) (n := 1) (Nat.le_of_ble_eq_true rfl)
  rw [lg_entry_eq]
  generalize (lg_sl ([.int 0]) ++ List.replicate (1 - (lg_sl ([.int 0])).length) Slot.unset).toArray = ls at hl ⊢
  have hl : lv_has ls 1 [(0, .int 0)] := hl
  refine lv_iload_n hx hb dJ6_bitCount_0f7a4_0 rfl (lv_at hl 0 rfl) ?_
  refine lv_iload_n hx hb dJ6_bitCount_0f7a4_1 rfl (lv_at hl 0 rfl) ?_
  refine lv_iconst (v := 1) hx hb dJ6_bitCount_0f7a4_2 (by decide +kernel) ?_
  refine lv_iushr (v := 0) hx hb dJ6_bitCount_0f7a4_3 (by decide +kernel) ?_
  refine lv_ldcw hx hb hown (hts (.constant RJ6 265 (1431655765)) (by decide +kernel)) dJ6_bitCount_0f7a4_4 ?_
  refine lv_iand hx hb dJ6_bitCount_0f7a4_7 ?_
  refine mz_ti (y := 0) (by decide +kernel) ?_
  refine lv_isub hx hb dJ6_bitCount_0f7a4_8 ?_
  refine mz_ti (y := 0) (by decide +kernel) ?_
  refine lv_istore_n (lv' := [(0, .int 0)]) hx hb dJ6_bitCount_0f7a4_9 rfl hl (by decide) rfl (fun ls hl => ?_)
  refine lv_iload_n hx hb dJ6_bitCount_0f7a4_10 rfl (lv_at hl 0 rfl) ?_
  refine lv_ldcw hx hb hown (hts (.constant RJ6 266 (858993459)) (by decide +kernel)) dJ6_bitCount_0f7a4_11 ?_
  refine lv_iand hx hb dJ6_bitCount_0f7a4_14 ?_
  refine mz_ti (y := 0) (by decide +kernel) ?_
  refine lv_iload_n hx hb dJ6_bitCount_0f7a4_15 rfl (lv_at hl 0 rfl) ?_
  refine lv_iconst (v := 2) hx hb dJ6_bitCount_0f7a4_16 (by decide +kernel) ?_
  refine lv_iushr (v := 0) hx hb dJ6_bitCount_0f7a4_17 (by decide +kernel) ?_
  refine lv_ldcw hx hb hown (hts (.constant RJ6 266 (858993459)) (by decide +kernel)) dJ6_bitCount_0f7a4_18 ?_
  refine lv_iand hx hb dJ6_bitCount_0f7a4_21 ?_
  refine mz_ti (y := 0) (by decide +kernel) ?_
  refine lv_iadd hx hb dJ6_bitCount_0f7a4_22 ?_
  refine mz_ti (y := 0) (by decide +kernel) ?_
  refine lv_istore_n (lv' := [(0, .int 0)]) hx hb dJ6_bitCount_0f7a4_23 rfl hl (by decide) rfl (fun ls hl => ?_)
  refine lv_iload_n hx hb dJ6_bitCount_0f7a4_24 rfl (lv_at hl 0 rfl) ?_
  refine lv_iload_n hx hb dJ6_bitCount_0f7a4_25 rfl (lv_at hl 0 rfl) ?_
  refine lv_iconst (v := 4) hx hb dJ6_bitCount_0f7a4_26 (by decide +kernel) ?_
  refine lv_iushr (v := 0) hx hb dJ6_bitCount_0f7a4_27 (by decide +kernel) ?_
  refine lv_iadd hx hb dJ6_bitCount_0f7a4_28 ?_
  refine mz_ti (y := 0) (by decide +kernel) ?_
  refine lv_ldcw hx hb hown (hts (.constant RJ6 267 (252645135)) (by decide +kernel)) dJ6_bitCount_0f7a4_29 ?_
  refine lv_iand hx hb dJ6_bitCount_0f7a4_32 ?_
  refine mz_ti (y := 0) (by decide +kernel) ?_
  refine lv_istore_n (lv' := [(0, .int 0)]) hx hb dJ6_bitCount_0f7a4_33 rfl hl (by decide) rfl (fun ls hl => ?_)
  refine lv_iload_n hx hb dJ6_bitCount_0f7a4_34 rfl (lv_at hl 0 rfl) ?_
  refine lv_iload_n hx hb dJ6_bitCount_0f7a4_35 rfl (lv_at hl 0 rfl) ?_
  refine lv_bipush (v := 8) hx hb dJ6_bitCount_0f7a4_36 (by decide +kernel) ?_
  refine lv_iushr (v := 0) hx hb dJ6_bitCount_0f7a4_38 (by decide +kernel) ?_
  refine lv_iadd hx hb dJ6_bitCount_0f7a4_39 ?_
  refine mz_ti (y := 0) (by decide +kernel) ?_
  refine lv_istore_n (lv' := [(0, .int 0)]) hx hb dJ6_bitCount_0f7a4_40 rfl hl (by decide) rfl (fun ls hl => ?_)
  refine lv_iload_n hx hb dJ6_bitCount_0f7a4_41 rfl (lv_at hl 0 rfl) ?_
  refine lv_iload_n hx hb dJ6_bitCount_0f7a4_42 rfl (lv_at hl 0 rfl) ?_
  refine lv_bipush (v := 16) hx hb dJ6_bitCount_0f7a4_43 (by decide +kernel) ?_
  refine lv_iushr (v := 0) hx hb dJ6_bitCount_0f7a4_45 (by decide +kernel) ?_
  refine lv_iadd hx hb dJ6_bitCount_0f7a4_46 ?_
  refine mz_ti (y := 0) (by decide +kernel) ?_
  refine lv_istore_n (lv' := [(0, .int 0)]) hx hb dJ6_bitCount_0f7a4_47 rfl hl (by decide) rfl (fun ls hl => ?_)
  refine lv_iload_n hx hb dJ6_bitCount_0f7a4_48 rfl (lv_at hl 0 rfl) ?_
  refine lv_bipush (v := 63) hx hb dJ6_bitCount_0f7a4_49 (by decide +kernel) ?_
  refine lv_iand hx hb dJ6_bitCount_0f7a4_51 ?_
  refine mz_ti (y := 0) (by decide +kernel) ?_
  refine W.widen (k := 0) (n := 0) (Nat.le_of_ble_eq_true rfl) (Nat.le_of_ble_eq_true rfl) ?_
  exact W.iret (v := 0) hx hb hr (fun t ht hW => ⟨⟨0, (), rfl, rfl, ht⟩, hS.F ht⟩) hS.2.2 dJ6_bitCount_0f7a4_52
set_option maxHeartbeats 1000000 in
set_option maxRecDepth 100000 in
theorem mz_partsOf0 (l : Launch) (dC : Nat → ClassId) (dI : Nat → Nat → Nat) (cI cJ cZ : ClassId)  (Hq : Heap)  : Met l yX7_partsOf wsX7_partsOf ({ frames := 1, cells := 0, slots := 0, locals := 20 }) (va_Pc [.int 0] (fun U => U.heap = Hq ∧ va_P (dC, dI) vwCl [] Hq ∧ va_K (dC, dI) vwCl [(cI, FieldType.int), (cJ, FieldType.long), (cZ, FieldType.boolean)] U ∧ mz_N U)) (va_Qi (fun (r : Int32) (_ : Unit) => r = 1) (fun _ t => t.heap = Hq) (fun _ : Nat => False)) 0 0 (fun _ : Nat => False) := by
  refine Met.ofW (cc := cX7_partsOf) (maxL := 1) (ret := (some .int)) (by decide) rfl ?_
  intro p e s m args below meth c s₁ B hml hv
  obtain ⟨rfl, hH, hP, hK, hN⟩ := hv
  subst hH
  have hx := B.exec
  have hb := B.bytes
  have hr := B.returns
  have hts := atoms_spec (ws := wsX7_partsOf) B.pre
  have hown : s.vm.findClass RX7 = some m.cls := findClass_of_methodNamed B.named
  have hlocks := B.notSynchronized
  have hS : va_S (fun _ : Nat => False) s.heap s.heap [] := va_S.rf
  have hl := lv_entry ([.int 0]) (n := 1) (Nat.le_of_ble_eq_true rfl)
  rw [lg_entry_eq]
  generalize (lg_sl ([.int 0]) ++ List.replicate (1 - (lg_sl ([.int 0])).length) Slot.unset).toArray = ls at hl ⊢
  have hl : lv_has ls 1 [(0, .int 0)] := hl
  refine lv_iconst (v := 1) hx hb dX7_partsOf_0 (by decide +kernel) ?_
  refine lv_iload_n hx hb dX7_partsOf_1 rfl (lv_at hl 0 rfl) ?_
  have hPc := hP.sub (ws' := []) [] rfl
  refine va_calli (va_runS (As := [.int 0]) (rest := [.int 1]) ⟨hx, hb, hml, hown, hts⟩ (mz_bitCount0 l dC dI cI cJ cZ  s.heap ) (va_cwS 1 hts gX7_partsOf_J6_bitCount_0f7a4 rfl rfl rfl (by decide +kernel) ⟨Nat.le_of_ble_eq_true rfl, Nat.le_of_ble_eq_true rfl⟩) ⟨fun a U g mk q => mz_blP q, fun U hU hW => ⟨rfl, hU, hPc, va_K.moved hW.alike hK, mz_nw hW hN⟩⟩ rfl rfl hl.1 rfl (lv_room (Nat.le_of_ble_eq_true rfl)) dX7_partsOf_2 ⟨Nat.le_of_ble_eq_true rfl, Nat.le_of_ble_eq_true rfl⟩) hS (fun q _ h => h.elim) (fun q h => h.elim) (fun r u t H1 locs ht hvm hw hB hz1 hk1 hS => ?_)
  have hE : s.heap = H1 := hB.symm.trans ht
  subst hE
  obtain rfl : r = 0 := hw
  refine lv_ishl hx hb dX7_partsOf_5 ?_
  refine mz_ti (y := 1) (by decide +kernel) ?_
  refine W.widen (k := 0) (n := 0) (Nat.le_of_ble_eq_true rfl) (Nat.le_of_ble_eq_true rfl) ?_
  exact W.iret (v := 1) hx hb hr (fun t ht hW => ⟨⟨1, (), rfl, rfl, ht⟩, hS.F ht⟩) hS.2.2 dX7_partsOf_6
set_option maxHeartbeats 1000000 in
set_option maxRecDepth 100000 in
theorem mz_nextPart0 (l : Launch) (dC : Nat → ClassId) (dI : Nat → Nat → Nat) (cI cJ cZ : ClassId)  (Hq : Heap)  : Met l yX7_nextPart wsX7_nextPart ({ frames := 0, cells := 0, slots := 0, locals := 0 }) (va_Pc [.int 0, .int 0] (fun U => U.heap = Hq ∧ va_P (dC, dI) vwCl [] Hq ∧ va_K (dC, dI) vwCl [(cI, FieldType.int), (cJ, FieldType.long), (cZ, FieldType.boolean)] U ∧ mz_N U)) (va_Qi (fun (r : Int32) (_ : Unit) => r = 0) (fun _ t => t.heap = Hq) (fun _ : Nat => False)) 0 0 (fun _ : Nat => False) := by
  refine Met.ofW (cc := cX7_nextPart) (maxL := 2) (ret := (some .int)) (by decide) rfl ?_
  intro p e s m args below meth c s₁ B hml hv
  obtain ⟨rfl, hH, hP, hK, hN⟩ := hv
  subst hH
  have hx := B.exec
  have hb := B.bytes
  have hr := B.returns
  have hts := atoms_spec (ws := wsX7_nextPart) B.pre
  have hown : s.vm.findClass RX7 = some m.cls := findClass_of_methodNamed B.named
  have hlocks := B.notSynchronized
  have hS : va_S (fun _ : Nat => False) s.heap s.heap [] := va_S.rf
  have hl := lv_entry ([.int 0, .int 0]) (n := 2) (Nat.le_of_ble_eq_true rfl)
  rw [lg_entry_eq]
  generalize (lg_sl ([.int 0, .int 0]) ++ List.replicate (2 - (lg_sl ([.int 0, .int 0])).length) Slot.unset).toArray = ls at hl ⊢
  have hl : lv_has ls 2 [(0, .int 0), (1, .int 0)] := hl
  refine lv_iload_n hx hb dX7_nextPart_0 rfl (lv_at hl 0 rfl) ?_
  refine lv_iload_n hx hb dX7_nextPart_1 rfl (lv_at hl 1 rfl) ?_
  refine lv_isub hx hb dX7_nextPart_2 ?_
  refine mz_ti (y := 0) (by decide +kernel) ?_
  refine lv_iload_n hx hb dX7_nextPart_3 rfl (lv_at hl 1 rfl) ?_
  refine lv_iand hx hb dX7_nextPart_4 ?_
  refine mz_ti (y := 0) (by decide +kernel) ?_
  refine W.widen (k := 0) (n := 0) (Nat.le_of_ble_eq_true rfl) (Nat.le_of_ble_eq_true rfl) ?_
  exact W.iret (v := 0) hx hb hr (fun t ht hW => ⟨⟨0, (), rfl, rfl, ht⟩, hS.F ht⟩) hS.2.2 dX7_nextPart_5
set_option maxHeartbeats 1000000 in
set_option maxRecDepth 100000 in
theorem mz_clash0 (l : Launch) (dC : Nat → ClassId) (dI : Nat → Nat → Nat) (cI cJ cZ : ClassId)  (Hq : Heap)  : Met l yX7_clash wsX7_clash ({ frames := 1, cells := 0, slots := 0, locals := 20 }) (va_Pc [.int 0, .int 0] (fun U => U.heap = Hq ∧ va_P (dC, dI) vwCl [] Hq ∧ va_K (dC, dI) vwCl [(cI, FieldType.int), (cJ, FieldType.long), (cZ, FieldType.boolean)] U ∧ mz_N U)) (va_Qi (fun (r : Int32) (_ : Unit) => r = 0) (fun _ t => t.heap = Hq) (fun _ : Nat => False)) 0 0 (fun _ : Nat => False) := by
  refine Met.ofW (cc := cX7_clash) (maxL := 2) (ret := (some .boolean)) (by decide) rfl ?_
  intro p e s m args below meth c s₁ B hml hv
  obtain ⟨rfl, hH, hP, hK, hN⟩ := hv
  subst hH
  have hx := B.exec
  have hb := B.bytes
  have hr := B.returns
  have hts := atoms_spec (ws := wsX7_clash) B.pre
  have hown : s.vm.findClass RX7 = some m.cls := findClass_of_methodNamed B.named
  have hlocks := B.notSynchronized
  have hS : va_S (fun _ : Nat => False) s.heap s.heap [] := va_S.rf
  have hl := lv_entry ([.int 0, .int 0]) (n := 2) (Nat.le_of_ble_eq_true rfl)
  rw [lg_entry_eq]
  generalize (lg_sl ([.int 0, .int 0]) ++ List.replicate (2 - (lg_sl ([.int 0, .int 0])).length) Slot.unset).toArray = ls at hl ⊢
  have hl : lv_has ls 2 [(0, .int 0), (1, .int 0)] := hl
  refine lv_iload_n hx hb dX7_clash_0 rfl (lv_at hl 0 rfl) ?_
  have hPc := hP.sub (ws' := []) [] rfl
  refine va_calli (va_runS (As := [.int 0]) (rest := []) ⟨hx, hb, hml, hown, hts⟩ (mz_heapOf l dC dI cI cJ cZ 0 s.heap ) (va_cwS 1 hts gX7_clash_X7_heapOf rfl rfl rfl (by decide +kernel) ⟨Nat.le_of_ble_eq_true rfl, Nat.le_of_ble_eq_true rfl⟩) ⟨fun a U g mk q => mz_blP q, fun U hU hW => ⟨rfl, hU, hPc, va_K.moved hW.alike hK, mz_nw hW hN⟩⟩ rfl rfl hl.1 rfl (lv_room (Nat.le_of_ble_eq_true rfl)) dX7_clash_1 ⟨Nat.le_of_ble_eq_true rfl, Nat.le_of_ble_eq_true rfl⟩) hS (fun q _ h => h.elim) (fun q h => h.elim) (fun r u t H1 locs ht hvm hw hB hz1 hk1 hS => ?_)
  have hE : s.heap = H1 := hB.symm.trans ht
  subst hE
  obtain rfl : r = ((0 : Int32) &&& 255) := hw
  refine mz_ti (y := 0) (by decide +kernel) ?_
  refine lv_iload_n hx hb dX7_clash_4 rfl (lv_at hl 1 rfl) ?_
  have hPc := hP.sub (ws' := []) [] rfl
  refine va_calli (va_runS (As := [.int 0]) (rest := [.int 0]) ⟨hx, hb, hml, hown, hts⟩ (mz_heapOf l dC dI cI cJ cZ 0 s.heap ) (va_cwS 1 hts gX7_clash_X7_heapOf rfl rfl rfl (by decide +kernel) ⟨Nat.le_of_ble_eq_true rfl, Nat.le_of_ble_eq_true rfl⟩) ⟨fun a U g mk q => mz_blP q, fun U hU hW => ⟨rfl, hU, hPc, va_K.moved hW.alike hK, mz_nw hW hN⟩⟩ rfl rfl hl.1 rfl (lv_room (Nat.le_of_ble_eq_true rfl)) dX7_clash_5 ⟨Nat.le_of_ble_eq_true rfl, Nat.le_of_ble_eq_true rfl⟩) hS (fun q _ h => h.elim) (fun q h => h.elim) (fun r u t H1 locs ht hvm hw hB hz1 hk1 hS => ?_)
  have hE : s.heap = H1 := hB.symm.trans ht
  subst hE
  obtain rfl : r = ((0 : Int32) &&& 255) := hw
  refine mz_ti (y := 0) (by decide +kernel) ?_
  refine lv_iand hx hb dX7_clash_8 ?_
  refine mz_ti (y := 0) (by decide +kernel) ?_
  refine lv_iload_n hx hb dX7_clash_9 rfl (lv_at hl 0 rfl) ?_
  have hPc := hP.sub (ws' := []) [] rfl
  refine va_calli (va_runS (As := [.int 0]) (rest := [.int 0]) ⟨hx, hb, hml, hown, hts⟩ (mz_onesOf l dC dI cI cJ cZ 0 s.heap ) (va_cwS 1 hts gX7_clash_X7_onesOf rfl rfl rfl (by decide +kernel) ⟨Nat.le_of_ble_eq_true rfl, Nat.le_of_ble_eq_true rfl⟩) ⟨fun a U g mk q => mz_blP q, fun U hU hW => ⟨rfl, hU, hPc, va_K.moved hW.alike hK, mz_nw hW hN⟩⟩ rfl rfl hl.1 rfl (lv_room (Nat.le_of_ble_eq_true rfl)) dX7_clash_10 ⟨Nat.le_of_ble_eq_true rfl, Nat.le_of_ble_eq_true rfl⟩) hS (fun q _ h => h.elim) (fun q h => h.elim) (fun r u t H1 locs ht hvm hw hB hz1 hk1 hS => ?_)
  have hE : s.heap = H1 := hB.symm.trans ht
  subst hE
  obtain rfl : r = (((0 : Int32) >>> (8 &&& 31)) &&& 255) := hw
  refine mz_ti (y := 0) (by decide +kernel) ?_
  refine lv_iload_n hx hb dX7_clash_13 rfl (lv_at hl 1 rfl) ?_
  have hPc := hP.sub (ws' := []) [] rfl
  refine va_calli (va_runS (As := [.int 0]) (rest := [.int 0, .int 0]) ⟨hx, hb, hml, hown, hts⟩ (mz_onesOf l dC dI cI cJ cZ 0 s.heap ) (va_cwS 1 hts gX7_clash_X7_onesOf rfl rfl rfl (by decide +kernel) ⟨Nat.le_of_ble_eq_true rfl, Nat.le_of_ble_eq_true rfl⟩) ⟨fun a U g mk q => mz_blP q, fun U hU hW => ⟨rfl, hU, hPc, va_K.moved hW.alike hK, mz_nw hW hN⟩⟩ rfl rfl hl.1 rfl (lv_room (Nat.le_of_ble_eq_true rfl)) dX7_clash_14 ⟨Nat.le_of_ble_eq_true rfl, Nat.le_of_ble_eq_true rfl⟩) hS (fun q _ h => h.elim) (fun q h => h.elim) (fun r u t H1 locs ht hvm hw hB hz1 hk1 hS => ?_)
  have hE : s.heap = H1 := hB.symm.trans ht
  subst hE
  obtain rfl : r = (((0 : Int32) >>> (8 &&& 31)) &&& 255) := hw
  refine mz_ti (y := 0) (by decide +kernel) ?_
  refine lv_ixor hx hb dX7_clash_17 ?_
  refine mz_ti (y := 0) (by decide +kernel) ?_
  refine lv_iand hx hb dX7_clash_18 ?_
  refine mz_ti (y := 0) (by decide +kernel) ?_
  refine lv_if_eq (tgt := 26) hx hb dX7_clash_19 (by decide) (fun _ => ?_) (fun c_19 => absurd (by decide +kernel) c_19)
  refine lv_iconst (v := 0) hx hb dX7_clash_26 (by decide +kernel) ?_
  refine W.widen (k := 0) (n := 0) (Nat.le_of_ble_eq_true rfl) (Nat.le_of_ble_eq_true rfl) ?_
  exact W.zret (v := 0) hx hb hr (mz_nz (by decide +kernel)) (fun t ht hW => ⟨⟨0, (), rfl, rfl, ht⟩, hS.F ht⟩) hS.2.2 dX7_clash_27
set_option maxHeartbeats 1000000 in
set_option maxRecDepth 100000 in
theorem mz_commonDivisor1 (l : Launch) (dC : Nat → ClassId) (dI : Nat → Nat → Nat) (cI cJ cZ : ClassId)  (Hq : Heap)  : Met l yX7_commonDivisor wsX7_commonDivisor ({ frames := 1, cells := 0, slots := 0, locals := 15 }) (va_Pc [.long 1, .long 1] (fun U => U.heap = Hq ∧ va_P (dC, dI) vwCl [] Hq ∧ va_K (dC, dI) vwCl [(cI, FieldType.int), (cJ, FieldType.long), (cZ, FieldType.boolean)] U ∧ mz_N U)) (va_Ql (fun (r : Int64) (_ : Unit) => r = 1) (fun _ t => t.heap = Hq) (fun _ : Nat => False)) 0 0 (fun _ : Nat => False) := by
  refine Met.ofW (cc := cX7_commonDivisor) (maxL := 11) (ret := (some .long)) (by decide) rfl ?_
  intro p e s m args below meth c s₁ B hml hv
  obtain ⟨rfl, hH, hP, hK, hN⟩ := hv
  subst hH
  have hx := B.exec
  have hb := B.bytes
  have hr := B.returns
  have hts := atoms_spec (ws := wsX7_commonDivisor) B.pre
  have hown : s.vm.findClass RX7 = some m.cls := findClass_of_methodNamed B.named
  have hlocks := B.notSynchronized
  have hS : va_S (fun _ : Nat => False) s.heap s.heap [] := va_S.rf
  have hl := lv_entry ([.long 1, .long 1]) (n := 11) (Nat.le_of_ble_eq_true rfl)
  rw [lg_entry_eq]
  generalize (lg_sl ([.long 1, .long 1]) ++ List.replicate (11 - (lg_sl ([.long 1, .long 1])).length) Slot.unset).toArray = ls at hl ⊢
  have hl : lv_has ls 11 [(0, .long 1), (2, .long 1)] := hl
  refine lv_lload_n hx hb dX7_commonDivisor_0 rfl (lv_at hl 0 rfl) ?_
  refine lv_lstore (lv' := [(4, .long 1), (0, .long 1), (2, .long 1)]) hx hb dX7_commonDivisor_1 hl (by decide) rfl (fun ls hl => ?_)
  refine lv_lload_n hx hb dX7_commonDivisor_3 rfl (lv_at hl 2 rfl) ?_
  refine lv_lstore (lv' := [(6, .long 1), (4, .long 1), (0, .long 1), (2, .long 1)]) hx hb dX7_commonDivisor_4 hl (by decide) rfl (fun ls hl => ?_)
  refine lv_iconst (v := 0) hx hb dX7_commonDivisor_6 (by decide +kernel) ?_
  refine lv_istore (lv' := [(8, .int 0), (6, .long 1), (4, .long 1), (0, .long 1), (2, .long 1)]) hx hb dX7_commonDivisor_7 hl (by decide) rfl (fun ls hl => ?_)
  refine lv_iload hx hb dX7_commonDivisor_9 (lv_at hl 0 rfl) ?_
  refine lv_bipush (v := 100) hx hb dX7_commonDivisor_11 (by decide +kernel) ?_
  refine lv_icmp_ge (tgt := 44) hx hb dX7_commonDivisor_13 (by decide) (fun c_13 => absurd c_13 (by decide +kernel)) (fun _ => ?_)
  refine lv_lload hx hb dX7_commonDivisor_16 (lv_at hl 1 rfl) ?_
  refine lv_lconst (v := 0) hx hb dX7_commonDivisor_18 (by decide +kernel) ?_
  refine W.lcmp hx hb dX7_commonDivisor_19 ?_
  refine mz_ti (y := 1) (by decide +kernel) ?_
  refine lv_if_eq (tgt := 44) hx hb dX7_commonDivisor_20 (by decide) (fun c_20 => absurd c_20 (by decide +kernel)) (fun _ => ?_)
  refine lv_lload hx hb dX7_commonDivisor_23 (lv_at hl 2 rfl) ?_
  refine lv_lload hx hb dX7_commonDivisor_25 (lv_at hl 1 rfl) ?_
  refine lv_lrem hx hb dX7_commonDivisor_27 (by decide +kernel) ?_
  refine mz_tl (y := 0) (by decide +kernel) ?_
  refine lv_lstore (lv' := [(9, .long 0), (8, .int 0), (6, .long 1), (4, .long 1), (0, .long 1), (2, .long 1)]) hx hb dX7_commonDivisor_28 hl (by decide) rfl (fun ls hl => ?_)
  refine lv_lload hx hb dX7_commonDivisor_30 (lv_at hl 2 rfl) ?_
  refine lv_lstore (lv' := [(4, .long 1), (9, .long 0), (8, .int 0), (6, .long 1), (0, .long 1), (2, .long 1)]) hx hb dX7_commonDivisor_32 hl (by decide) rfl (fun ls hl => ?_)
  refine lv_lload hx hb dX7_commonDivisor_34 (lv_at hl 1 rfl) ?_
  refine lv_lstore (lv' := [(6, .long 0), (4, .long 1), (9, .long 0), (8, .int 0), (0, .long 1), (2, .long 1)]) hx hb dX7_commonDivisor_36 hl (by decide) rfl (fun ls hl => ?_)
  refine lv_iinc (v := 1) (lv' := [(8, .int 1), (6, .long 0), (4, .long 1), (9, .long 0), (0, .long 1), (2, .long 1)]) hx hb dX7_commonDivisor_38 hl (k := 3) rfl (by decide +kernel) (by decide) rfl (fun ls hl => ?_)
  refine lv_goto (tgt := 9) hx hb dX7_commonDivisor_41 (by decide) ?_
  refine lv_iload hx hb dX7_commonDivisor_9 (lv_at hl 0 rfl) ?_
  refine lv_bipush (v := 100) hx hb dX7_commonDivisor_11 (by decide +kernel) ?_
  refine lv_icmp_ge (tgt := 44) hx hb dX7_commonDivisor_13 (by decide) (fun c_13 => absurd c_13 (by decide +kernel)) (fun _ => ?_)
  refine lv_lload hx hb dX7_commonDivisor_16 (lv_at hl 1 rfl) ?_
  refine lv_lconst (v := 0) hx hb dX7_commonDivisor_18 (by decide +kernel) ?_
  refine W.lcmp hx hb dX7_commonDivisor_19 ?_
  refine mz_ti (y := 0) (by decide +kernel) ?_
  refine lv_if_eq (tgt := 44) hx hb dX7_commonDivisor_20 (by decide) (fun _ => ?_) (fun c_20 => absurd (by decide +kernel) c_20)
  refine lv_lconst (v := 1) hx hb dX7_commonDivisor_44 (by decide +kernel) ?_
  refine lv_lload hx hb dX7_commonDivisor_45 (lv_at hl 2 rfl) ?_
  refine va_mmax_long hx hb (by rw [hml]; exact hl.1.symm) hown (hts (.methodLink RX7 199 Lib.MathLoose.max_long.x) (by decide +kernel)) (hts (.static Lib.MathLoose.max_long.x) (by decide +kernel)) (hts (.initialized "java/lang/Math") (by decide +kernel)) (hts (.code Lib.MathLoose.max_long.x Lib.MathLoose.max_long.code 4 (some .long)) (by decide +kernel)) (Nat.le_of_ble_eq_true rfl) (Nat.le_of_ble_eq_true rfl) (Nat.le_of_ble_eq_true rfl) (Nat.le_of_ble_eq_true rfl) dX7_commonDivisor_47 ?_
  refine mz_tl (y := 1) (by decide +kernel) ?_
  refine W.widen (k := 0) (n := 0) (Nat.le_of_ble_eq_true rfl) (Nat.le_of_ble_eq_true rfl) ?_
  exact W.lret (v := 1) hx hb hr (fun t ht hW => ⟨⟨1, (), rfl, rfl, ht⟩, hS.F ht⟩) hS.2.2 dX7_commonDivisor_50
set_option maxHeartbeats 1000000 in
set_option maxRecDepth 100000 in
theorem mz_Drawing_size (l : Launch) (dC : Nat → ClassId) (dI : Nat → Nat → Nat) (cI cJ cZ : ClassId) (dr : Nat) (dp : Nat) (dc : Nat) (Hq : Heap)  : Met l yX2_size wsX2_size ({ frames := 0, cells := 0, slots := 0, locals := 0 }) (va_Pc [.ref dr] (fun U => U.heap = Hq ∧ va_P (dC, dI) vwCl [(dr, .inr (2, [.ref dp, .ref dc, .int 0]))] Hq ∧ va_K (dC, dI) vwCl [(cI, FieldType.int), (cJ, FieldType.long), (cZ, FieldType.boolean)] U ∧ mz_N U)) (va_Qi (fun (r : Int32) (_ : Unit) => r = 0) (fun _ t => t.heap = Hq) (fun _ : Nat => False)) 0 0 (fun _ : Nat => False) := by
  refine Met.ofW (cc := cX2_size) (maxL := 1) (ret := (some .int)) (by decide) rfl ?_
  intro p e s m args below meth c s₁ B hml hv
  obtain ⟨rfl, hH, hP, hK, hN⟩ := hv
  subst hH
  have hx := B.exec
  have hb := B.bytes
  have hr := B.returns
  have hts := atoms_spec (ws := wsX2_size) B.pre
  have hown : s.vm.findClass RX2 = some m.cls := findClass_of_methodNamed B.named
  have hlocks := B.notSynchronized
  have hS : va_S (fun _ : Nat => False) s.heap s.heap [] := va_S.rf
  have hiX2 : ∀ w ∈ u_ws RX2 TX2 3, w ∈ wsX2_size := by decide +kernel
  have hl := lv_entry ([.ref dr]) (n := 1) (Nat.le_of_ble_eq_true rfl)
  rw [lg_entry_eq]
  generalize (lg_sl ([.ref dr]) ++ List.replicate (1 - (lg_sl ([.ref dr])).length) Slot.unset).toArray = ls at hl ⊢
  have hl : lv_has ls 1 [(0, .ref dr)] := hl
  refine lv_aload_n hx hb dX2_size_0 rfl (lv_at hl 0 rfl) ?_
  refine va_get (D := (dC, dI)) (ci := 2) (v := .int 0) (C := RX2) (T := TX2) (N := 3) hx hb hts hiX2 hown hK hP 0 rfl rfl 2 (by decide) (hts (.fieldLink RX2 18 "MadeItSo$Drawing" "things" "I") (by decide +kernel)) (fun _ h9 => h9) rfl dX2_size_1 ?_
  refine W.widen (k := 0) (n := 0) (Nat.le_of_ble_eq_true rfl) (Nat.le_of_ble_eq_true rfl) ?_
  exact W.iret (v := 0) hx hb hr (fun t ht hW => ⟨⟨0, (), rfl, rfl, ht⟩, hS.F ht⟩) hS.2.2 dX2_size_4
set_option maxHeartbeats 1000000 in
set_option maxRecDepth 100000 in
theorem mz_Drawing_has (l : Launch) (dC : Nat → ClassId) (dI : Nat → Nat → Nat) (cI cJ cZ : ClassId) (dr : Nat) (dp : Nat) (dc : Nat) (p0 : Int32) (Hq : Heap)  : Met l yX2_has wsX2_has ({ frames := 0, cells := 0, slots := 0, locals := 0 }) (va_Pc [.ref dr, .int p0] (fun U => U.heap = Hq ∧ va_P (dC, dI) vwCl [(dr, .inr (2, [.ref dp, .ref dc, .int 0]))] Hq ∧ va_K (dC, dI) vwCl [(cI, FieldType.int), (cJ, FieldType.long), (cZ, FieldType.boolean)] U ∧ mz_N U)) (va_Qi (fun (r : Int32) (_ : Unit) => r = 0) (fun _ t => t.heap = Hq) (fun _ : Nat => False)) 0 0 (fun _ : Nat => False) := by
  refine Met.ofW (cc := cX2_has) (maxL := 2) (ret := (some .boolean)) (by decide) rfl ?_
  intro p e s m args below meth c s₁ B hml hv
  obtain ⟨rfl, hH, hP, hK, hN⟩ := hv
  subst hH
  have hx := B.exec
  have hb := B.bytes
  have hr := B.returns
  have hts := atoms_spec (ws := wsX2_has) B.pre
  have hown : s.vm.findClass RX2 = some m.cls := findClass_of_methodNamed B.named
  have hlocks := B.notSynchronized
  have hS : va_S (fun _ : Nat => False) s.heap s.heap [] := va_S.rf
  have hiX2 : ∀ w ∈ u_ws RX2 TX2 3, w ∈ wsX2_has := by decide +kernel
  have hl := lv_entry ([.ref dr, .int p0]) (n := 2) (Nat.le_of_ble_eq_true rfl)
  rw [lg_entry_eq]
  generalize (lg_sl ([.ref dr, .int p0]) ++ List.replicate (2 - (lg_sl ([.ref dr, .int p0])).length) Slot.unset).toArray = ls at hl ⊢
  have hl : lv_has ls 2 [(0, .ref dr), (1, .int p0)] := hl
  refine lv_iload_n hx hb dX2_has_0 rfl (lv_at hl 1 rfl) ?_
  refine lv_if_lt (tgt := 16) hx hb dX2_has_1 (by decide) (fun c_1 => ?_) (fun c_1 => ?_)
  · skip
    refine lv_iconst (v := 0) hx hb dX2_has_16 (by decide +kernel) ?_
    refine W.widen (k := 0) (n := 0) (Nat.le_of_ble_eq_true rfl) (Nat.le_of_ble_eq_true rfl) ?_
    exact W.zret (v := 0) hx hb hr (mz_nz (by decide +kernel)) (fun t ht hW => ⟨⟨0, (), rfl, rfl, ht⟩, hS.F ht⟩) hS.2.2 dX2_has_17
  · skip
    refine lv_iload_n hx hb dX2_has_4 rfl (lv_at hl 1 rfl) ?_
    refine lv_aload_n hx hb dX2_has_5 rfl (lv_at hl 0 rfl) ?_
    refine va_get (D := (dC, dI)) (ci := 2) (v := .int 0) (C := RX2) (T := TX2) (N := 3) hx hb hts hiX2 hown hK hP 0 rfl rfl 2 (by decide) (hts (.fieldLink RX2 18 "MadeItSo$Drawing" "things" "I") (by decide +kernel)) (fun _ h9 => h9) rfl dX2_has_6 ?_
    refine lv_icmp_ge (tgt := 16) hx hb dX2_has_9 (by decide) (fun _ => ?_) (fun c_9 => absurd (mz_nn c_1) c_9)
    refine lv_iconst (v := 0) hx hb dX2_has_16 (by decide +kernel) ?_
    refine W.widen (k := 0) (n := 0) (Nat.le_of_ble_eq_true rfl) (Nat.le_of_ble_eq_true rfl) ?_
    exact W.zret (v := 0) hx hb hr (mz_nz (by decide +kernel)) (fun t ht hW => ⟨⟨0, (), rfl, rfl, ht⟩, hS.F ht⟩) hS.2.2 dX2_has_17
set_option maxHeartbeats 1000000 in
set_option maxRecDepth 100000 in
theorem mz_Drawing_everything (l : Launch) (dC : Nat → ClassId) (dI : Nat → Nat → Nat) (cI cJ cZ : ClassId) (dr : Nat) (dp : Nat) (dc : Nat) (Hq : Heap)  : Met l yX2_everything wsX2_everything ({ frames := 0, cells := 0, slots := 0, locals := 0 }) (va_Pc [.ref dr] (fun U => U.heap = Hq ∧ va_P (dC, dI) vwCl [(dr, .inr (2, [.ref dp, .ref dc, .int 0]))] Hq ∧ va_K (dC, dI) vwCl [(cI, FieldType.int), (cJ, FieldType.long), (cZ, FieldType.boolean)] U ∧ mz_N U)) (va_Qi (fun (r : Int32) (_ : Unit) => r = 0) (fun _ t => t.heap = Hq) (fun _ : Nat => False)) 0 0 (fun _ : Nat => False) := by
  refine Met.ofW (cc := cX2_everything) (maxL := 1) (ret := (some .int)) (by decide) rfl ?_
  intro p e s m args below meth c s₁ B hml hv
  obtain ⟨rfl, hH, hP, hK, hN⟩ := hv
  subst hH
  have hx := B.exec
  have hb := B.bytes
  have hr := B.returns
  have hts := atoms_spec (ws := wsX2_everything) B.pre
  have hown : s.vm.findClass RX2 = some m.cls := findClass_of_methodNamed B.named
  have hlocks := B.notSynchronized
  have hS : va_S (fun _ : Nat => False) s.heap s.heap [] := va_S.rf
  have hiX2 : ∀ w ∈ u_ws RX2 TX2 3, w ∈ wsX2_everything := by decide +kernel
  have hl := lv_entry ([.ref dr]) (n := 1) (Nat.le_of_ble_eq_true rfl)
  rw [lg_entry_eq]
  generalize (lg_sl ([.ref dr]) ++ List.replicate (1 - (lg_sl ([.ref dr])).length) Slot.unset).toArray = ls at hl ⊢
  have hl : lv_has ls 1 [(0, .ref dr)] := hl
  refine lv_iconst (v := 1) hx hb dX2_everything_0 (by decide +kernel) ?_
  refine lv_aload_n hx hb dX2_everything_1 rfl (lv_at hl 0 rfl) ?_
  refine va_get (D := (dC, dI)) (ci := 2) (v := .int 0) (C := RX2) (T := TX2) (N := 3) hx hb hts hiX2 hown hK hP 0 rfl rfl 2 (by decide) (hts (.fieldLink RX2 18 "MadeItSo$Drawing" "things" "I") (by decide +kernel)) (fun _ h9 => h9) rfl dX2_everything_2 ?_
  refine lv_ishl hx hb dX2_everything_5 ?_
  refine mz_ti (y := 1) (by decide +kernel) ?_
  refine lv_iconst (v := 1) hx hb dX2_everything_6 (by decide +kernel) ?_
  refine lv_isub hx hb dX2_everything_7 ?_
  refine mz_ti (y := 0) (by decide +kernel) ?_
  refine W.widen (k := 0) (n := 0) (Nat.le_of_ble_eq_true rfl) (Nat.le_of_ble_eq_true rfl) ?_
  exact W.iret (v := 0) hx hb hr (fun t ht hW => ⟨⟨0, (), rfl, rfl, ht⟩, hS.F ht⟩) hS.2.2 dX2_everything_8
set_option maxHeartbeats 1000000 in
set_option maxRecDepth 100000 in
theorem mz_Drawing_leads (l : Launch) (dC : Nat → ClassId) (dI : Nat → Nat → Nat) (cI cJ cZ : ClassId) (dr : Nat) (dp : Nat) (dc : Nat) (p0 : Int32) (p1 : Int32) (Hq : Heap)  : Met l yX2_leads wsX2_leads ({ frames := 1, cells := 0, slots := 0, locals := 21 }) (va_Pc [.ref dr, .int p0, .int p1] (fun U => U.heap = Hq ∧ va_P (dC, dI) vwCl [(dr, .inr (2, [.ref dp, .ref dc, .int 0]))] Hq ∧ va_K (dC, dI) vwCl [(cI, FieldType.int), (cJ, FieldType.long), (cZ, FieldType.boolean)] U ∧ mz_N U)) (va_Qi (fun (r : Int32) (_ : Unit) => r = 0) (fun _ t => t.heap = Hq) (fun _ : Nat => False)) 0 0 (fun _ : Nat => False) := by
  refine Met.ofW (cc := cX2_leads) (maxL := 3) (ret := (some .boolean)) (by decide) rfl ?_
  intro p e s m args below meth c s₁ B hml hv
  obtain ⟨rfl, hH, hP, hK, hN⟩ := hv
  subst hH
  have hx := B.exec
  have hb := B.bytes
  have hr := B.returns
  have hts := atoms_spec (ws := wsX2_leads) B.pre
  have hown : s.vm.findClass RX2 = some m.cls := findClass_of_methodNamed B.named
  have hlocks := B.notSynchronized
  have hS : va_S (fun _ : Nat => False) s.heap s.heap [] := va_S.rf
  have hl := lv_entry ([.ref dr, .int p0, .int p1]) (n := 3) (Nat.le_of_ble_eq_true rfl)
  rw [lg_entry_eq]
  generalize (lg_sl ([.ref dr, .int p0, .int p1]) ++ List.replicate (3 - (lg_sl ([.ref dr, .int p0, .int p1])).length) Slot.unset).toArray = ls at hl ⊢
  have hl : lv_has ls 3 [(0, .ref dr), (1, .int p0), (2, .int p1)] := hl
  refine lv_aload_n hx hb dX2_leads_0 rfl (lv_at hl 0 rfl) ?_
  refine lv_iload_n hx hb dX2_leads_1 rfl (lv_at hl 1 rfl) ?_
  have hPc := hP.sub (ws' := [(dr, .inr (2, [.ref dp, .ref dc, .int 0]))]) [0] rfl
  refine va_calli (va_runV (As := [.int p0]) (rest := []) ⟨hx, hb, hml, hown, hts⟩ (mz_Drawing_has l dC dI cI cJ cZ dr dp dc p0 s.heap ) (cwV 1 hts gX2_leads_X2_has rfl rfl rfl (by decide +kernel) ⟨Nat.le_of_ble_eq_true rfl, Nat.le_of_ble_eq_true rfl⟩) ⟨fun a U g mk q => mz_blP q, va_recv hK hPc (ci := 2) (q0 := 0) rfl rfl, fun U hU hW => ⟨rfl, hU, hPc, va_K.moved hW.alike hK, mz_nw hW hN⟩⟩ rfl rfl hl.1 rfl (lv_room (Nat.le_of_ble_eq_true rfl)) dX2_leads_2 ⟨Nat.le_of_ble_eq_true rfl, Nat.le_of_ble_eq_true rfl⟩) hS (fun q _ h => h.elim) (fun q h => h.elim) (fun r u t H1 locs ht hvm hw hB hz1 hk1 hS => ?_)
  have hE : s.heap = H1 := hB.symm.trans ht
  subst hE
  obtain rfl : r = 0 := hw
  refine lv_if_eq (tgt := 33) hx hb dX2_leads_5 (by decide) (fun _ => ?_) (fun c_5 => absurd (by decide +kernel) c_5)
  refine lv_iconst (v := 0) hx hb dX2_leads_33 (by decide +kernel) ?_
  refine W.widen (k := 0) (n := 0) (Nat.le_of_ble_eq_true rfl) (Nat.le_of_ble_eq_true rfl) ?_
  exact W.zret (v := 0) hx hb hr (mz_nz (by decide +kernel)) (fun t ht hW => ⟨⟨0, (), rfl, rfl, ht⟩, hS.F ht⟩) hS.2.2 dX2_leads_34
set_option maxHeartbeats 1000000 in
set_option maxRecDepth 100000 in
theorem mz_Drawing_arrows (l : Launch) (dC : Nat → ClassId) (dI : Nat → Nat → Nat) (cI cJ cZ : ClassId) (dr : Nat) (dp : Nat) (dc : Nat) (Hq : Heap)  : Met l yX2_arrows wsX2_arrows ({ frames := 0, cells := 0, slots := 0, locals := 0 }) (va_Pc [.ref dr] (fun U => U.heap = Hq ∧ va_P (dC, dI) vwCl [(dr, .inr (2, [.ref dp, .ref dc, .int 0]))] Hq ∧ va_K (dC, dI) vwCl [(cI, FieldType.int), (cJ, FieldType.long), (cZ, FieldType.boolean)] U ∧ mz_N U)) (va_Qi (fun (r : Int32) (_ : Unit) => r = 0) (fun _ t => t.heap = Hq) (fun _ : Nat => False)) 0 0 (fun _ : Nat => False) := by
  refine Met.ofW (cc := cX2_arrows) (maxL := 3) (ret := (some .int)) (by decide) rfl ?_
  intro p e s m args below meth c s₁ B hml hv
  obtain ⟨rfl, hH, hP, hK, hN⟩ := hv
  subst hH
  have hx := B.exec
  have hb := B.bytes
  have hr := B.returns
  have hts := atoms_spec (ws := wsX2_arrows) B.pre
  have hown : s.vm.findClass RX2 = some m.cls := findClass_of_methodNamed B.named
  have hlocks := B.notSynchronized
  have hS : va_S (fun _ : Nat => False) s.heap s.heap [] := va_S.rf
  have hiX2 : ∀ w ∈ u_ws RX2 TX2 3, w ∈ wsX2_arrows := by decide +kernel
  have hl := lv_entry ([.ref dr]) (n := 3) (Nat.le_of_ble_eq_true rfl)
  rw [lg_entry_eq]
  generalize (lg_sl ([.ref dr]) ++ List.replicate (3 - (lg_sl ([.ref dr])).length) Slot.unset).toArray = ls at hl ⊢
  have hl : lv_has ls 3 [(0, .ref dr)] := hl
  refine lv_iconst (v := 0) hx hb dX2_arrows_0 (by decide +kernel) ?_
  refine lv_istore_n (lv' := [(1, .int 0), (0, .ref dr)]) hx hb dX2_arrows_1 rfl hl (by decide) rfl (fun ls hl => ?_)
  refine lv_iconst (v := 0) hx hb dX2_arrows_2 (by decide +kernel) ?_
  refine lv_istore_n (lv' := [(2, .int 0), (1, .int 0), (0, .ref dr)]) hx hb dX2_arrows_3 rfl hl (by decide) rfl (fun ls hl => ?_)
  refine lv_iload_n hx hb dX2_arrows_4 rfl (lv_at hl 0 rfl) ?_
  refine lv_aload_n hx hb dX2_arrows_5 rfl (lv_at hl 2 rfl) ?_
  refine va_get (D := (dC, dI)) (ci := 2) (v := .int 0) (C := RX2) (T := TX2) (N := 3) hx hb hts hiX2 hown hK hP 0 rfl rfl 2 (by decide) (hts (.fieldLink RX2 18 "MadeItSo$Drawing" "things" "I") (by decide +kernel)) (fun _ h9 => h9) rfl dX2_arrows_6 ?_
  refine lv_icmp_ge (tgt := 30) hx hb dX2_arrows_9 (by decide) (fun _ => ?_) (fun c_9 => absurd (by decide +kernel) c_9)
  refine lv_iload_n hx hb dX2_arrows_30 rfl (lv_at hl 1 rfl) ?_
  refine W.widen (k := 0) (n := 0) (Nat.le_of_ble_eq_true rfl) (Nat.le_of_ble_eq_true rfl) ?_
  exact W.iret (v := 0) hx hb hr (fun t ht hW => ⟨⟨0, (), rfl, rfl, ht⟩, hS.F ht⟩) hS.2.2 dX2_arrows_31
set_option maxHeartbeats 1000000 in
set_option maxRecDepth 100000 in
theorem mz_gather0 (l : Launch) (dC : Nat → ClassId) (dI : Nat → Nat → Nat) (cI cJ cZ : ClassId) (ar : Nat) (f : Nat → Int32) (Hq : Heap)  : Met l yX2_gather wsX2_gather ({ frames := 1, cells := 0, slots := 0, locals := 21 }) (va_Pc [.int 0, .ref ar] (fun U => U.heap = Hq ∧ va_P (dC, dI) vwCl [(ar, .inl (cI, 8, .inl f))] Hq ∧ va_K (dC, dI) vwCl [(cI, FieldType.int), (cJ, FieldType.long), (cZ, FieldType.boolean)] U ∧ mz_N U)) (va_Qi (fun (r : Int32) (_ : Unit) => r = 0) (fun _ t => t.heap = Hq) (fun _ : Nat => False)) 0 0 (fun _ : Nat => False) := by
  refine Met.ofW (cc := cX2_gather) (maxL := 4) (ret := (some .int)) (by decide) rfl ?_
  intro p e s m args below meth c s₁ B hml hv
  obtain ⟨rfl, hH, hP, hK, hN⟩ := hv
  subst hH
  have hx := B.exec
  have hb := B.bytes
  have hr := B.returns
  have hts := atoms_spec (ws := wsX2_gather) B.pre
  have hown : s.vm.findClass RX2 = some m.cls := findClass_of_methodNamed B.named
  have hlocks := B.notSynchronized
  have hS : va_S (fun _ : Nat => False) s.heap s.heap [] := va_S.rf
  have hl := lv_entry ([.int 0, .ref ar]) (n := 4) (Nat.le_of_ble_eq_true rfl)
  rw [lg_entry_eq]
  generalize (lg_sl ([.int 0, .ref ar]) ++ List.replicate (4 - (lg_sl ([.int 0, .ref ar])).length) Slot.unset).toArray = ls at hl ⊢
  have hl : lv_has ls 4 [(0, .int 0), (1, .ref ar)] := hl
  refine lv_iconst (v := 0) hx hb dX2_gather_0 (by decide +kernel) ?_
  refine lv_istore_n (lv' := [(2, .int 0), (0, .int 0), (1, .ref ar)]) hx hb dX2_gather_1 rfl hl (by decide) rfl (fun ls hl => ?_)
  refine lv_iconst (v := 0) hx hb dX2_gather_2 (by decide +kernel) ?_
  refine lv_istore_n (lv' := [(3, .int 0), (2, .int 0), (0, .int 0), (1, .ref ar)]) hx hb dX2_gather_3 rfl hl (by decide) rfl (fun ls hl => ?_)
  refine lv_iload_n hx hb dX2_gather_4 rfl (lv_at hl 0 rfl) ?_
  refine lv_aload_n hx hb dX2_gather_5 rfl (lv_at hl 3 rfl) ?_
  refine va_alen (v := 8) hx hb hK hP 0 0 rfl rfl rfl dX2_gather_6 ?_
  refine lv_icmp_ge (tgt := 30) hx hb dX2_gather_7 (by decide) (fun c_7 => absurd c_7 (by decide +kernel)) (fun _ => ?_)
  refine lv_iload_n hx hb dX2_gather_10 rfl (lv_at hl 2 rfl) ?_
  refine lv_iload_n hx hb dX2_gather_11 rfl (lv_at hl 0 rfl) ?_
  have hPc := hP.sub (ws' := []) [] rfl
  refine va_calli (va_runSN (As := [.int 0, .int 0]) (rest := []) ⟨hx, hb, hml, hown, hts⟩ (mz_inHeap0 l dC dI cI cJ cZ 0 s.heap ) ⟨va_cnB (host := "MadeItSo") 2 hts gX2_gather_X7_inHeap_n26 rfl rfl rfl (hN (RX2, 26, yX7_inHeap, "MadeItSo") (by decide +kernel)) (hts (.initialized RX7) (by decide +kernel)) (by decide +kernel) ⟨Nat.le_of_ble_eq_true rfl, Nat.le_of_ble_eq_true rfl⟩, hts (.static yX7_inHeap) (by decide +kernel), trivial⟩ ⟨fun a U g mk q => mz_blP q, fun U hU hW => ⟨rfl, hU, hPc, va_K.moved hW.alike hK, mz_nw hW hN⟩⟩ rfl rfl hl.1 rfl (lv_room (Nat.le_of_ble_eq_true rfl)) dX2_gather_12 ⟨Nat.le_of_ble_eq_true rfl, Nat.le_of_ble_eq_true rfl⟩) hS (fun q _ h => h.elim) (fun q h => h.elim) (fun r u t H1 locs ht hvm hw hB hz1 hk1 hS => ?_)
  have hE : s.heap = H1 := hB.symm.trans ht
  subst hE
  obtain rfl : r = 0 := hw
  refine lv_if_eq (tgt := 24) hx hb dX2_gather_15 (by decide) (fun _ => ?_) (fun c_15 => absurd (by decide +kernel) c_15)
  refine lv_iinc (v := 1) (lv' := [(3, .int 1), (2, .int 0), (0, .int 0), (1, .ref ar)]) hx hb dX2_gather_24 hl (k := 0) rfl (by decide +kernel) (by decide) rfl (fun ls hl => ?_)
  refine lv_goto (tgt := 4) hx hb dX2_gather_27 (by decide) ?_
  refine lv_iload_n hx hb dX2_gather_4 rfl (lv_at hl 0 rfl) ?_
  refine lv_aload_n hx hb dX2_gather_5 rfl (lv_at hl 3 rfl) ?_
  refine va_alen (v := 8) hx hb hK hP 0 0 rfl rfl rfl dX2_gather_6 ?_
  refine lv_icmp_ge (tgt := 30) hx hb dX2_gather_7 (by decide) (fun c_7 => absurd c_7 (by decide +kernel)) (fun _ => ?_)
  refine lv_iload_n hx hb dX2_gather_10 rfl (lv_at hl 2 rfl) ?_
  refine lv_iload_n hx hb dX2_gather_11 rfl (lv_at hl 0 rfl) ?_
  have hPc := hP.sub (ws' := []) [] rfl
  refine va_calli (va_runSN (As := [.int 0, .int 1]) (rest := []) ⟨hx, hb, hml, hown, hts⟩ (mz_inHeap0 l dC dI cI cJ cZ 1 s.heap ) ⟨va_cnB (host := "MadeItSo") 2 hts gX2_gather_X7_inHeap_n26 rfl rfl rfl (hN (RX2, 26, yX7_inHeap, "MadeItSo") (by decide +kernel)) (hts (.initialized RX7) (by decide +kernel)) (by decide +kernel) ⟨Nat.le_of_ble_eq_true rfl, Nat.le_of_ble_eq_true rfl⟩, hts (.static yX7_inHeap) (by decide +kernel), trivial⟩ ⟨fun a U g mk q => mz_blP q, fun U hU hW => ⟨rfl, hU, hPc, va_K.moved hW.alike hK, mz_nw hW hN⟩⟩ rfl rfl hl.1 rfl (lv_room (Nat.le_of_ble_eq_true rfl)) dX2_gather_12 ⟨Nat.le_of_ble_eq_true rfl, Nat.le_of_ble_eq_true rfl⟩) hS (fun q _ h => h.elim) (fun q h => h.elim) (fun r u t H1 locs ht hvm hw hB hz1 hk1 hS => ?_)
  have hE : s.heap = H1 := hB.symm.trans ht
  subst hE
  obtain rfl : r = 0 := hw
  refine lv_if_eq (tgt := 24) hx hb dX2_gather_15 (by decide) (fun _ => ?_) (fun c_15 => absurd (by decide +kernel) c_15)
  refine lv_iinc (v := 2) (lv' := [(3, .int 2), (2, .int 0), (0, .int 0), (1, .ref ar)]) hx hb dX2_gather_24 hl (k := 0) rfl (by decide +kernel) (by decide) rfl (fun ls hl => ?_)
  refine lv_goto (tgt := 4) hx hb dX2_gather_27 (by decide) ?_
  refine lv_iload_n hx hb dX2_gather_4 rfl (lv_at hl 0 rfl) ?_
  refine lv_aload_n hx hb dX2_gather_5 rfl (lv_at hl 3 rfl) ?_
  refine va_alen (v := 8) hx hb hK hP 0 0 rfl rfl rfl dX2_gather_6 ?_
  refine lv_icmp_ge (tgt := 30) hx hb dX2_gather_7 (by decide) (fun c_7 => absurd c_7 (by decide +kernel)) (fun _ => ?_)
  refine lv_iload_n hx hb dX2_gather_10 rfl (lv_at hl 2 rfl) ?_
  refine lv_iload_n hx hb dX2_gather_11 rfl (lv_at hl 0 rfl) ?_
  have hPc := hP.sub (ws' := []) [] rfl
  refine va_calli (va_runSN (As := [.int 0, .int 2]) (rest := []) ⟨hx, hb, hml, hown, hts⟩ (mz_inHeap0 l dC dI cI cJ cZ 2 s.heap ) ⟨va_cnB (host := "MadeItSo") 2 hts gX2_gather_X7_inHeap_n26 rfl rfl rfl (hN (RX2, 26, yX7_inHeap, "MadeItSo") (by decide +kernel)) (hts (.initialized RX7) (by decide +kernel)) (by decide +kernel) ⟨Nat.le_of_ble_eq_true rfl, Nat.le_of_ble_eq_true rfl⟩, hts (.static yX7_inHeap) (by decide +kernel), trivial⟩ ⟨fun a U g mk q => mz_blP q, fun U hU hW => ⟨rfl, hU, hPc, va_K.moved hW.alike hK, mz_nw hW hN⟩⟩ rfl rfl hl.1 rfl (lv_room (Nat.le_of_ble_eq_true rfl)) dX2_gather_12 ⟨Nat.le_of_ble_eq_true rfl, Nat.le_of_ble_eq_true rfl⟩) hS (fun q _ h => h.elim) (fun q h => h.elim) (fun r u t H1 locs ht hvm hw hB hz1 hk1 hS => ?_)
  have hE : s.heap = H1 := hB.symm.trans ht
  subst hE
  obtain rfl : r = 0 := hw
  refine lv_if_eq (tgt := 24) hx hb dX2_gather_15 (by decide) (fun _ => ?_) (fun c_15 => absurd (by decide +kernel) c_15)
  refine lv_iinc (v := 3) (lv' := [(3, .int 3), (2, .int 0), (0, .int 0), (1, .ref ar)]) hx hb dX2_gather_24 hl (k := 0) rfl (by decide +kernel) (by decide) rfl (fun ls hl => ?_)
  refine lv_goto (tgt := 4) hx hb dX2_gather_27 (by decide) ?_
  refine lv_iload_n hx hb dX2_gather_4 rfl (lv_at hl 0 rfl) ?_
  refine lv_aload_n hx hb dX2_gather_5 rfl (lv_at hl 3 rfl) ?_
  refine va_alen (v := 8) hx hb hK hP 0 0 rfl rfl rfl dX2_gather_6 ?_
  refine lv_icmp_ge (tgt := 30) hx hb dX2_gather_7 (by decide) (fun c_7 => absurd c_7 (by decide +kernel)) (fun _ => ?_)
  refine lv_iload_n hx hb dX2_gather_10 rfl (lv_at hl 2 rfl) ?_
  refine lv_iload_n hx hb dX2_gather_11 rfl (lv_at hl 0 rfl) ?_
  have hPc := hP.sub (ws' := []) [] rfl
  refine va_calli (va_runSN (As := [.int 0, .int 3]) (rest := []) ⟨hx, hb, hml, hown, hts⟩ (mz_inHeap0 l dC dI cI cJ cZ 3 s.heap ) ⟨va_cnB (host := "MadeItSo") 2 hts gX2_gather_X7_inHeap_n26 rfl rfl rfl (hN (RX2, 26, yX7_inHeap, "MadeItSo") (by decide +kernel)) (hts (.initialized RX7) (by decide +kernel)) (by decide +kernel) ⟨Nat.le_of_ble_eq_true rfl, Nat.le_of_ble_eq_true rfl⟩, hts (.static yX7_inHeap) (by decide +kernel), trivial⟩ ⟨fun a U g mk q => mz_blP q, fun U hU hW => ⟨rfl, hU, hPc, va_K.moved hW.alike hK, mz_nw hW hN⟩⟩ rfl rfl hl.1 rfl (lv_room (Nat.le_of_ble_eq_true rfl)) dX2_gather_12 ⟨Nat.le_of_ble_eq_true rfl, Nat.le_of_ble_eq_true rfl⟩) hS (fun q _ h => h.elim) (fun q h => h.elim) (fun r u t H1 locs ht hvm hw hB hz1 hk1 hS => ?_)
  have hE : s.heap = H1 := hB.symm.trans ht
  subst hE
  obtain rfl : r = 0 := hw
  refine lv_if_eq (tgt := 24) hx hb dX2_gather_15 (by decide) (fun _ => ?_) (fun c_15 => absurd (by decide +kernel) c_15)
  refine lv_iinc (v := 4) (lv' := [(3, .int 4), (2, .int 0), (0, .int 0), (1, .ref ar)]) hx hb dX2_gather_24 hl (k := 0) rfl (by decide +kernel) (by decide) rfl (fun ls hl => ?_)
  refine lv_goto (tgt := 4) hx hb dX2_gather_27 (by decide) ?_
  refine lv_iload_n hx hb dX2_gather_4 rfl (lv_at hl 0 rfl) ?_
  refine lv_aload_n hx hb dX2_gather_5 rfl (lv_at hl 3 rfl) ?_
  refine va_alen (v := 8) hx hb hK hP 0 0 rfl rfl rfl dX2_gather_6 ?_
  refine lv_icmp_ge (tgt := 30) hx hb dX2_gather_7 (by decide) (fun c_7 => absurd c_7 (by decide +kernel)) (fun _ => ?_)
  refine lv_iload_n hx hb dX2_gather_10 rfl (lv_at hl 2 rfl) ?_
  refine lv_iload_n hx hb dX2_gather_11 rfl (lv_at hl 0 rfl) ?_
  have hPc := hP.sub (ws' := []) [] rfl
  refine va_calli (va_runSN (As := [.int 0, .int 4]) (rest := []) ⟨hx, hb, hml, hown, hts⟩ (mz_inHeap0 l dC dI cI cJ cZ 4 s.heap ) ⟨va_cnB (host := "MadeItSo") 2 hts gX2_gather_X7_inHeap_n26 rfl rfl rfl (hN (RX2, 26, yX7_inHeap, "MadeItSo") (by decide +kernel)) (hts (.initialized RX7) (by decide +kernel)) (by decide +kernel) ⟨Nat.le_of_ble_eq_true rfl, Nat.le_of_ble_eq_true rfl⟩, hts (.static yX7_inHeap) (by decide +kernel), trivial⟩ ⟨fun a U g mk q => mz_blP q, fun U hU hW => ⟨rfl, hU, hPc, va_K.moved hW.alike hK, mz_nw hW hN⟩⟩ rfl rfl hl.1 rfl (lv_room (Nat.le_of_ble_eq_true rfl)) dX2_gather_12 ⟨Nat.le_of_ble_eq_true rfl, Nat.le_of_ble_eq_true rfl⟩) hS (fun q _ h => h.elim) (fun q h => h.elim) (fun r u t H1 locs ht hvm hw hB hz1 hk1 hS => ?_)
  have hE : s.heap = H1 := hB.symm.trans ht
  subst hE
  obtain rfl : r = 0 := hw
  refine lv_if_eq (tgt := 24) hx hb dX2_gather_15 (by decide) (fun _ => ?_) (fun c_15 => absurd (by decide +kernel) c_15)
  refine lv_iinc (v := 5) (lv' := [(3, .int 5), (2, .int 0), (0, .int 0), (1, .ref ar)]) hx hb dX2_gather_24 hl (k := 0) rfl (by decide +kernel) (by decide) rfl (fun ls hl => ?_)
  refine lv_goto (tgt := 4) hx hb dX2_gather_27 (by decide) ?_
  refine lv_iload_n hx hb dX2_gather_4 rfl (lv_at hl 0 rfl) ?_
  refine lv_aload_n hx hb dX2_gather_5 rfl (lv_at hl 3 rfl) ?_
  refine va_alen (v := 8) hx hb hK hP 0 0 rfl rfl rfl dX2_gather_6 ?_
  refine lv_icmp_ge (tgt := 30) hx hb dX2_gather_7 (by decide) (fun c_7 => absurd c_7 (by decide +kernel)) (fun _ => ?_)
  refine lv_iload_n hx hb dX2_gather_10 rfl (lv_at hl 2 rfl) ?_
  refine lv_iload_n hx hb dX2_gather_11 rfl (lv_at hl 0 rfl) ?_
  have hPc := hP.sub (ws' := []) [] rfl
  refine va_calli (va_runSN (As := [.int 0, .int 5]) (rest := []) ⟨hx, hb, hml, hown, hts⟩ (mz_inHeap0 l dC dI cI cJ cZ 5 s.heap ) ⟨va_cnB (host := "MadeItSo") 2 hts gX2_gather_X7_inHeap_n26 rfl rfl rfl (hN (RX2, 26, yX7_inHeap, "MadeItSo") (by decide +kernel)) (hts (.initialized RX7) (by decide +kernel)) (by decide +kernel) ⟨Nat.le_of_ble_eq_true rfl, Nat.le_of_ble_eq_true rfl⟩, hts (.static yX7_inHeap) (by decide +kernel), trivial⟩ ⟨fun a U g mk q => mz_blP q, fun U hU hW => ⟨rfl, hU, hPc, va_K.moved hW.alike hK, mz_nw hW hN⟩⟩ rfl rfl hl.1 rfl (lv_room (Nat.le_of_ble_eq_true rfl)) dX2_gather_12 ⟨Nat.le_of_ble_eq_true rfl, Nat.le_of_ble_eq_true rfl⟩) hS (fun q _ h => h.elim) (fun q h => h.elim) (fun r u t H1 locs ht hvm hw hB hz1 hk1 hS => ?_)
  have hE : s.heap = H1 := hB.symm.trans ht
  subst hE
  obtain rfl : r = 0 := hw
  refine lv_if_eq (tgt := 24) hx hb dX2_gather_15 (by decide) (fun _ => ?_) (fun c_15 => absurd (by decide +kernel) c_15)
  refine lv_iinc (v := 6) (lv' := [(3, .int 6), (2, .int 0), (0, .int 0), (1, .ref ar)]) hx hb dX2_gather_24 hl (k := 0) rfl (by decide +kernel) (by decide) rfl (fun ls hl => ?_)
  refine lv_goto (tgt := 4) hx hb dX2_gather_27 (by decide) ?_
  refine lv_iload_n hx hb dX2_gather_4 rfl (lv_at hl 0 rfl) ?_
  refine lv_aload_n hx hb dX2_gather_5 rfl (lv_at hl 3 rfl) ?_
  refine va_alen (v := 8) hx hb hK hP 0 0 rfl rfl rfl dX2_gather_6 ?_
  refine lv_icmp_ge (tgt := 30) hx hb dX2_gather_7 (by decide) (fun c_7 => absurd c_7 (by decide +kernel)) (fun _ => ?_)
  refine lv_iload_n hx hb dX2_gather_10 rfl (lv_at hl 2 rfl) ?_
  refine lv_iload_n hx hb dX2_gather_11 rfl (lv_at hl 0 rfl) ?_
  have hPc := hP.sub (ws' := []) [] rfl
  refine va_calli (va_runSN (As := [.int 0, .int 6]) (rest := []) ⟨hx, hb, hml, hown, hts⟩ (mz_inHeap0 l dC dI cI cJ cZ 6 s.heap ) ⟨va_cnB (host := "MadeItSo") 2 hts gX2_gather_X7_inHeap_n26 rfl rfl rfl (hN (RX2, 26, yX7_inHeap, "MadeItSo") (by decide +kernel)) (hts (.initialized RX7) (by decide +kernel)) (by decide +kernel) ⟨Nat.le_of_ble_eq_true rfl, Nat.le_of_ble_eq_true rfl⟩, hts (.static yX7_inHeap) (by decide +kernel), trivial⟩ ⟨fun a U g mk q => mz_blP q, fun U hU hW => ⟨rfl, hU, hPc, va_K.moved hW.alike hK, mz_nw hW hN⟩⟩ rfl rfl hl.1 rfl (lv_room (Nat.le_of_ble_eq_true rfl)) dX2_gather_12 ⟨Nat.le_of_ble_eq_true rfl, Nat.le_of_ble_eq_true rfl⟩) hS (fun q _ h => h.elim) (fun q h => h.elim) (fun r u t H1 locs ht hvm hw hB hz1 hk1 hS => ?_)
  have hE : s.heap = H1 := hB.symm.trans ht
  subst hE
  obtain rfl : r = 0 := hw
  refine lv_if_eq (tgt := 24) hx hb dX2_gather_15 (by decide) (fun _ => ?_) (fun c_15 => absurd (by decide +kernel) c_15)
  refine lv_iinc (v := 7) (lv' := [(3, .int 7), (2, .int 0), (0, .int 0), (1, .ref ar)]) hx hb dX2_gather_24 hl (k := 0) rfl (by decide +kernel) (by decide) rfl (fun ls hl => ?_)
  refine lv_goto (tgt := 4) hx hb dX2_gather_27 (by decide) ?_
  refine lv_iload_n hx hb dX2_gather_4 rfl (lv_at hl 0 rfl) ?_
  refine lv_aload_n hx hb dX2_gather_5 rfl (lv_at hl 3 rfl) ?_
  refine va_alen (v := 8) hx hb hK hP 0 0 rfl rfl rfl dX2_gather_6 ?_
  refine lv_icmp_ge (tgt := 30) hx hb dX2_gather_7 (by decide) (fun c_7 => absurd c_7 (by decide +kernel)) (fun _ => ?_)
  refine lv_iload_n hx hb dX2_gather_10 rfl (lv_at hl 2 rfl) ?_
  refine lv_iload_n hx hb dX2_gather_11 rfl (lv_at hl 0 rfl) ?_
  have hPc := hP.sub (ws' := []) [] rfl
  refine va_calli (va_runSN (As := [.int 0, .int 7]) (rest := []) ⟨hx, hb, hml, hown, hts⟩ (mz_inHeap0 l dC dI cI cJ cZ 7 s.heap ) ⟨va_cnB (host := "MadeItSo") 2 hts gX2_gather_X7_inHeap_n26 rfl rfl rfl (hN (RX2, 26, yX7_inHeap, "MadeItSo") (by decide +kernel)) (hts (.initialized RX7) (by decide +kernel)) (by decide +kernel) ⟨Nat.le_of_ble_eq_true rfl, Nat.le_of_ble_eq_true rfl⟩, hts (.static yX7_inHeap) (by decide +kernel), trivial⟩ ⟨fun a U g mk q => mz_blP q, fun U hU hW => ⟨rfl, hU, hPc, va_K.moved hW.alike hK, mz_nw hW hN⟩⟩ rfl rfl hl.1 rfl (lv_room (Nat.le_of_ble_eq_true rfl)) dX2_gather_12 ⟨Nat.le_of_ble_eq_true rfl, Nat.le_of_ble_eq_true rfl⟩) hS (fun q _ h => h.elim) (fun q h => h.elim) (fun r u t H1 locs ht hvm hw hB hz1 hk1 hS => ?_)
  have hE : s.heap = H1 := hB.symm.trans ht
  subst hE
  obtain rfl : r = 0 := hw
  refine lv_if_eq (tgt := 24) hx hb dX2_gather_15 (by decide) (fun _ => ?_) (fun c_15 => absurd (by decide +kernel) c_15)
  refine lv_iinc (v := 8) (lv' := [(3, .int 8), (2, .int 0), (0, .int 0), (1, .ref ar)]) hx hb dX2_gather_24 hl (k := 0) rfl (by decide +kernel) (by decide) rfl (fun ls hl => ?_)
  refine lv_goto (tgt := 4) hx hb dX2_gather_27 (by decide) ?_
  refine lv_iload_n hx hb dX2_gather_4 rfl (lv_at hl 0 rfl) ?_
  refine lv_aload_n hx hb dX2_gather_5 rfl (lv_at hl 3 rfl) ?_
  refine va_alen (v := 8) hx hb hK hP 0 0 rfl rfl rfl dX2_gather_6 ?_
  refine lv_icmp_ge (tgt := 30) hx hb dX2_gather_7 (by decide) (fun _ => ?_) (fun c_7 => absurd (by decide +kernel) c_7)
  refine lv_iload_n hx hb dX2_gather_30 rfl (lv_at hl 1 rfl) ?_
  refine W.widen (k := 0) (n := 0) (Nat.le_of_ble_eq_true rfl) (Nat.le_of_ble_eq_true rfl) ?_
  exact W.iret (v := 0) hx hb hr (fun t ht hW => ⟨⟨0, (), rfl, rfl, ht⟩, hS.F ht⟩) hS.2.2 dX2_gather_31
set_option maxHeartbeats 1000000 in
set_option maxRecDepth 100000 in
theorem mz_spread0 (l : Launch) (dC : Nat → ClassId) (dI : Nat → Nat → Nat) (cI cJ cZ : ClassId) (dr : Nat) (dp : Nat) (dc : Nat) (ar : Nat) (f : Nat → Int32) (Hq : Heap)  : Met l yX2_spread wsX2_spread ({ frames := 2, cells := 0, slots := 0, locals := 44 }) (va_Pc [.ref dr, .int 0, .ref ar] (fun U => U.heap = Hq ∧ va_P (dC, dI) vwCl [(dr, .inr (2, [.ref dp, .ref dc, .int 0])), (ar, .inl (cI, 8, .inl f))] Hq ∧ va_K (dC, dI) vwCl [(cI, FieldType.int), (cJ, FieldType.long), (cZ, FieldType.boolean)] U ∧ mz_N U)) (va_Qi (fun (r : Int32) (_ : Unit) => r = 0) (fun _ t => t.heap = Hq) (fun _ : Nat => False)) 0 0 (fun _ : Nat => False) := by
  refine Met.ofW (cc := cX2_spread) (maxL := 6) (ret := (some .int)) (by decide) rfl ?_
  intro p e s m args below meth c s₁ B hml hv
  obtain ⟨rfl, hH, hP, hK, hN⟩ := hv
  subst hH
  have hx := B.exec
  have hb := B.bytes
  have hr := B.returns
  have hts := atoms_spec (ws := wsX2_spread) B.pre
  have hown : s.vm.findClass RX2 = some m.cls := findClass_of_methodNamed B.named
  have hlocks := B.notSynchronized
  have hS : va_S (fun _ : Nat => False) s.heap s.heap [] := va_S.rf
  have hl := lv_entry ([.ref dr, .int 0, .ref ar]) (n := 6) (Nat.le_of_ble_eq_true rfl)
  rw [lg_entry_eq]
  generalize (lg_sl ([.ref dr, .int 0, .ref ar]) ++ List.replicate (6 - (lg_sl ([.ref dr, .int 0, .ref ar])).length) Slot.unset).toArray = ls at hl ⊢
  have hl : lv_has ls 6 [(0, .ref dr), (1, .int 0), (2, .ref ar)] := hl
  refine lv_iload_n hx hb dX2_spread_0 rfl (lv_at hl 1 rfl) ?_
  refine lv_istore_n (lv' := [(3, .int 0), (0, .ref dr), (1, .int 0), (2, .ref ar)]) hx hb dX2_spread_1 rfl hl (by decide) rfl (fun ls hl => ?_)
  refine lv_iconst (v := 0) hx hb dX2_spread_2 (by decide +kernel) ?_
  refine lv_istore (lv' := [(4, .int 0), (3, .int 0), (0, .ref dr), (1, .int 0), (2, .ref ar)]) hx hb dX2_spread_3 hl (by decide) rfl (fun ls hl => ?_)
  refine lv_iload hx hb dX2_spread_5 (lv_at hl 0 rfl) ?_
  refine lv_bipush (v := 8) hx hb dX2_spread_7 (by decide +kernel) ?_
  refine lv_icmp_ge (tgt := 39) hx hb dX2_spread_9 (by decide) (fun c_9 => absurd c_9 (by decide +kernel)) (fun _ => ?_)
  refine lv_iload_n hx hb dX2_spread_12 rfl (lv_at hl 1 rfl) ?_
  refine lv_iload_n hx hb dX2_spread_13 rfl (lv_at hl 1 rfl) ?_
  refine lv_aload_n hx hb dX2_spread_14 rfl (lv_at hl 4 rfl) ?_
  have hPc := hP.sub (ws' := [(ar, .inl (cI, 8, .inl f))]) [1] rfl
  refine va_calli (va_runS (As := [.int 0, .ref ar]) (rest := [.int 0]) ⟨hx, hb, hml, hown, hts⟩ (mz_gather0 l dC dI cI cJ cZ ar f s.heap ) (va_cwS 2 hts gX2_spread_X2_gather rfl rfl rfl (by decide +kernel) ⟨Nat.le_of_ble_eq_true rfl, Nat.le_of_ble_eq_true rfl⟩) ⟨fun a U g mk q => mz_blP q, fun U hU hW => ⟨rfl, hU, hPc, va_K.moved hW.alike hK, mz_nw hW hN⟩⟩ rfl rfl hl.1 rfl (lv_room (Nat.le_of_ble_eq_true rfl)) dX2_spread_15 ⟨Nat.le_of_ble_eq_true rfl, Nat.le_of_ble_eq_true rfl⟩) hS (fun q _ h => h.elim) (fun q h => h.elim) (fun r u t H1 locs ht hvm hw hB hz1 hk1 hS => ?_)
  have hE : s.heap = H1 := hB.symm.trans ht
  subst hE
  obtain rfl : r = 0 := hw
  refine lv_ior hx hb dX2_spread_18 ?_
  refine mz_ti (y := 0) (by decide +kernel) ?_
  refine lv_istore (lv' := [(5, .int 0), (4, .int 0), (3, .int 0), (0, .ref dr), (1, .int 0), (2, .ref ar)]) hx hb dX2_spread_19 hl (by decide) rfl (fun ls hl => ?_)
  refine lv_iload hx hb dX2_spread_21 (lv_at hl 0 rfl) ?_
  refine lv_iload_n hx hb dX2_spread_23 rfl (lv_at hl 2 rfl) ?_
  refine lv_icmp_ne (tgt := 30) hx hb dX2_spread_24 (by decide) (fun c_24 => absurd (by decide +kernel) c_24) (fun _ => ?_)
  refine lv_goto (tgt := 39) hx hb dX2_spread_27 (by decide) ?_
  refine lv_iload_n hx hb dX2_spread_39 rfl (lv_at hl 2 rfl) ?_
  refine W.widen (k := 0) (n := 0) (Nat.le_of_ble_eq_true rfl) (Nat.le_of_ble_eq_true rfl) ?_
  exact W.iret (v := 0) hx hb hr (fun t ht hW => ⟨⟨0, (), rfl, rfl, ht⟩, hS.F ht⟩) hS.2.2 dX2_spread_40
set_option maxHeartbeats 1000000 in
set_option maxRecDepth 100000 in
theorem mz_barred0 (l : Launch) (dC : Nat → ClassId) (dI : Nat → Nat → Nat) (cI cJ cZ : ClassId) (dr : Nat) (dp : Nat) (dc : Nat) (fp : Nat → Int32) (fc : Nat → Int32) (Hq : Heap)  : Met l yX2_barred wsX2_barred ({ frames := 3, cells := 0, slots := 0, locals := 69 }) (va_Pc [.ref dr, .int 0, .int 0, .int 0] (fun U => U.heap = Hq ∧ va_P (dC, dI) vwCl [(dr, .inr (2, [.ref dp, .ref dc, .int 0])), (dp, .inl (cI, 8, .inl fp)), (dc, .inl (cI, 8, .inl fc))] Hq ∧ va_K (dC, dI) vwCl [(cI, FieldType.int), (cJ, FieldType.long), (cZ, FieldType.boolean)] U ∧ mz_N U)) (va_Qi (fun (r : Int32) (_ : Unit) => r = 1) (fun _ t => t.heap = Hq) (fun _ : Nat => False)) 0 0 (fun _ : Nat => False) := by
  refine Met.ofW (cc := cX2_barred) (maxL := 12) (ret := (some .boolean)) (by decide) rfl ?_
  intro p e s m args below meth c s₁ B hml hv
  obtain ⟨rfl, hH, hP, hK, hN⟩ := hv
  subst hH
  have hx := B.exec
  have hb := B.bytes
  have hr := B.returns
  have hts := atoms_spec (ws := wsX2_barred) B.pre
  have hown : s.vm.findClass RX2 = some m.cls := findClass_of_methodNamed B.named
  have hlocks := B.notSynchronized
  have hS : va_S (fun _ : Nat => False) s.heap s.heap [] := va_S.rf
  have hiX2 : ∀ w ∈ u_ws RX2 TX2 3, w ∈ wsX2_barred := by decide +kernel
  have hl := lv_entry ([.ref dr, .int 0, .int 0, .int 0]) (n := 12) (Nat.le_of_ble_eq_true rfl)
  rw [lg_entry_eq]
  generalize (lg_sl ([.ref dr, .int 0, .int 0, .int 0]) ++ List.replicate (12 - (lg_sl ([.ref dr, .int 0, .int 0, .int 0])).length) Slot.unset).toArray = ls at hl ⊢
  have hl : lv_has ls 12 [(0, .ref dr), (1, .int 0), (2, .int 0), (3, .int 0)] := hl
  refine lv_aload_n hx hb dX2_barred_0 rfl (lv_at hl 0 rfl) ?_
  refine lv_iload_n hx hb dX2_barred_1 rfl (lv_at hl 3 rfl) ?_
  refine lv_aload_n hx hb dX2_barred_2 rfl (lv_at hl 0 rfl) ?_
  refine va_get (D := (dC, dI)) (ci := 2) (v := .ref dp) (C := RX2) (T := TX2) (N := 3) hx hb hts hiX2 hown hK hP 0 rfl rfl 0 (by decide) (hts (.fieldLink RX2 9 "MadeItSo$Drawing" "parents" "[I") (by decide +kernel)) (fun _ h9 => h9) rfl dX2_barred_3 ?_
  have hPc := hP.sub (ws' := [(dr, .inr (2, [.ref dp, .ref dc, .int 0])), (dp, .inl (cI, 8, .inl fp))]) [0, 1] rfl
  refine va_calli (va_runV (As := [.int 0, .ref dp]) (rest := []) ⟨hx, hb, hml, hown, hts⟩ (mz_spread0 l dC dI cI cJ cZ dr dp dc dp fp s.heap ) (cwV 2 hts gX2_barred_X2_spread rfl rfl rfl (by decide +kernel) ⟨Nat.le_of_ble_eq_true rfl, Nat.le_of_ble_eq_true rfl⟩) ⟨fun a U g mk q => mz_blP q, va_recv hK hPc (ci := 2) (q0 := 0) rfl rfl, fun U hU hW => ⟨rfl, hU, hPc, va_K.moved hW.alike hK, mz_nw hW hN⟩⟩ rfl rfl hl.1 rfl (lv_room (Nat.le_of_ble_eq_true rfl)) dX2_barred_6 ⟨Nat.le_of_ble_eq_true rfl, Nat.le_of_ble_eq_true rfl⟩) hS (fun q _ h => h.elim) (fun q h => h.elim) (fun r u t H1 locs ht hvm hw hB hz1 hk1 hS => ?_)
  have hE : s.heap = H1 := hB.symm.trans ht
  subst hE
  obtain rfl : r = 0 := hw
  refine lv_istore (lv' := [(4, .int 0), (0, .ref dr), (1, .int 0), (2, .int 0), (3, .int 0)]) hx hb dX2_barred_9 hl (by decide) rfl (fun ls hl => ?_)
  refine lv_iload_n hx hb dX2_barred_11 rfl (lv_at hl 2 rfl) ?_
  refine lv_istore (lv' := [(5, .int 0), (4, .int 0), (0, .ref dr), (1, .int 0), (2, .int 0), (3, .int 0)]) hx hb dX2_barred_12 hl (by decide) rfl (fun ls hl => ?_)
  refine lv_iconst (v := 0) hx hb dX2_barred_14 (by decide +kernel) ?_
  refine lv_istore (lv' := [(6, .int 0), (5, .int 0), (4, .int 0), (0, .ref dr), (1, .int 0), (2, .int 0), (3, .int 0)]) hx hb dX2_barred_15 hl (by decide) rfl (fun ls hl => ?_)
  refine lv_iconst (v := 0) hx hb dX2_barred_17 (by decide +kernel) ?_
  refine lv_istore (lv' := [(7, .int 0), (6, .int 0), (5, .int 0), (4, .int 0), (0, .ref dr), (1, .int 0), (2, .int 0), (3, .int 0)]) hx hb dX2_barred_18 hl (by decide) rfl (fun ls hl => ?_)
  refine lv_iload hx hb dX2_barred_20 (lv_at hl 0 rfl) ?_
  refine lv_bipush (v := 16) hx hb dX2_barred_22 (by decide +kernel) ?_
  refine lv_icmp_ge (tgt := 111) hx hb dX2_barred_24 (by decide) (fun c_24 => absurd c_24 (by decide +kernel)) (fun _ => ?_)
  refine lv_iload hx hb dX2_barred_27 (lv_at hl 2 rfl) ?_
  refine lv_iload_n hx hb dX2_barred_29 rfl (lv_at hl 7 rfl) ?_
  refine lv_iconst (v := (-1)) hx hb dX2_barred_30 (by decide +kernel) ?_
  refine lv_ixor hx hb dX2_barred_31 ?_
  refine mz_ti (y := (-1)) (by decide +kernel) ?_
  refine lv_iand hx hb dX2_barred_32 ?_
  refine mz_ti (y := 0) (by decide +kernel) ?_
  refine lv_iload hx hb dX2_barred_33 (lv_at hl 1 rfl) ?_
  refine lv_iload hx hb dX2_barred_35 (lv_at hl 3 rfl) ?_
  refine lv_iand hx hb dX2_barred_37 ?_
  refine mz_ti (y := 0) (by decide +kernel) ?_
  refine lv_ior hx hb dX2_barred_38 ?_
  refine mz_ti (y := 0) (by decide +kernel) ?_
  refine lv_istore (lv' := [(8, .int 0), (7, .int 0), (6, .int 0), (5, .int 0), (4, .int 0), (0, .ref dr), (1, .int 0), (2, .int 0), (3, .int 0)]) hx hb dX2_barred_39 hl (by decide) rfl (fun ls hl => ?_)
  refine lv_iload hx hb dX2_barred_41 (lv_at hl 3 rfl) ?_
  refine lv_iload hx hb dX2_barred_43 (lv_at hl 2 rfl) ?_
  refine lv_ior hx hb dX2_barred_45 ?_
  refine mz_ti (y := 0) (by decide +kernel) ?_
  refine lv_iload_n hx hb dX2_barred_46 rfl (lv_at hl 8 rfl) ?_
  refine lv_iconst (v := (-1)) hx hb dX2_barred_47 (by decide +kernel) ?_
  refine lv_ixor hx hb dX2_barred_48 ?_
  refine mz_ti (y := (-1)) (by decide +kernel) ?_
  refine lv_iand hx hb dX2_barred_49 ?_
  refine mz_ti (y := 0) (by decide +kernel) ?_
  refine lv_istore (lv' := [(9, .int 0), (8, .int 0), (7, .int 0), (6, .int 0), (5, .int 0), (4, .int 0), (0, .ref dr), (1, .int 0), (2, .int 0), (3, .int 0)]) hx hb dX2_barred_50 hl (by decide) rfl (fun ls hl => ?_)
  refine lv_iload hx hb dX2_barred_52 (lv_at hl 4 rfl) ?_
  refine lv_iload hx hb dX2_barred_54 (lv_at hl 1 rfl) ?_
  refine lv_aload_n hx hb dX2_barred_56 rfl (lv_at hl 6 rfl) ?_
  refine va_get (D := (dC, dI)) (ci := 2) (v := .ref dp) (C := RX2) (T := TX2) (N := 3) hx hb hts hiX2 hown hK hP 0 rfl rfl 0 (by decide) (hts (.fieldLink RX2 9 "MadeItSo$Drawing" "parents" "[I") (by decide +kernel)) (fun _ h9 => h9) rfl dX2_barred_57 ?_
  have hPc := hP.sub (ws' := [(dp, .inl (cI, 8, .inl fp))]) [1] rfl
  refine va_calli (va_runS (As := [.int 0, .ref dp]) (rest := [.int 0]) ⟨hx, hb, hml, hown, hts⟩ (mz_gather0 l dC dI cI cJ cZ dp fp s.heap ) (va_cwS 2 hts gX2_barred_X2_gather rfl rfl rfl (by decide +kernel) ⟨Nat.le_of_ble_eq_true rfl, Nat.le_of_ble_eq_true rfl⟩) ⟨fun a U g mk q => mz_blP q, fun U hU hW => ⟨rfl, hU, hPc, va_K.moved hW.alike hK, mz_nw hW hN⟩⟩ rfl rfl hl.1 rfl (lv_room (Nat.le_of_ble_eq_true rfl)) dX2_barred_60 ⟨Nat.le_of_ble_eq_true rfl, Nat.le_of_ble_eq_true rfl⟩) hS (fun q _ h => h.elim) (fun q h => h.elim) (fun r u t H1 locs ht hvm hw hB hz1 hk1 hS => ?_)
  have hE : s.heap = H1 := hB.symm.trans ht
  subst hE
  obtain rfl : r = 0 := hw
  refine lv_ior hx hb dX2_barred_63 ?_
  refine mz_ti (y := 0) (by decide +kernel) ?_
  refine lv_istore (lv' := [(10, .int 0), (9, .int 0), (8, .int 0), (7, .int 0), (6, .int 0), (5, .int 0), (4, .int 0), (0, .ref dr), (1, .int 0), (2, .int 0), (3, .int 0)]) hx hb dX2_barred_64 hl (by decide) rfl (fun ls hl => ?_)
  refine lv_iload hx hb dX2_barred_66 (lv_at hl 4 rfl) ?_
  refine lv_iload hx hb dX2_barred_68 (lv_at hl 1 rfl) ?_
  refine lv_aload_n hx hb dX2_barred_70 rfl (lv_at hl 7 rfl) ?_
  refine va_get (D := (dC, dI)) (ci := 2) (v := .ref dc) (C := RX2) (T := TX2) (N := 3) hx hb hts hiX2 hown hK hP 0 rfl rfl 1 (by decide) (hts (.fieldLink RX2 15 "MadeItSo$Drawing" "children" "[I") (by decide +kernel)) (fun _ h9 => h9) rfl dX2_barred_71 ?_
  have hPc := hP.sub (ws' := [(dc, .inl (cI, 8, .inl fc))]) [2] rfl
  refine va_calli (va_runS (As := [.int 0, .ref dc]) (rest := [.int 0]) ⟨hx, hb, hml, hown, hts⟩ (mz_gather0 l dC dI cI cJ cZ dc fc s.heap ) (va_cwS 2 hts gX2_barred_X2_gather rfl rfl rfl (by decide +kernel) ⟨Nat.le_of_ble_eq_true rfl, Nat.le_of_ble_eq_true rfl⟩) ⟨fun a U g mk q => mz_blP q, fun U hU hW => ⟨rfl, hU, hPc, va_K.moved hW.alike hK, mz_nw hW hN⟩⟩ rfl rfl hl.1 rfl (lv_room (Nat.le_of_ble_eq_true rfl)) dX2_barred_74 ⟨Nat.le_of_ble_eq_true rfl, Nat.le_of_ble_eq_true rfl⟩) hS (fun q _ h => h.elim) (fun q h => h.elim) (fun r u t H1 locs ht hvm hw hB hz1 hk1 hS => ?_)
  have hE : s.heap = H1 := hB.symm.trans ht
  subst hE
  obtain rfl : r = 0 := hw
  refine lv_ior hx hb dX2_barred_77 ?_
  refine mz_ti (y := 0) (by decide +kernel) ?_
  refine lv_istore (lv' := [(11, .int 0), (10, .int 0), (9, .int 0), (8, .int 0), (7, .int 0), (6, .int 0), (5, .int 0), (4, .int 0), (0, .ref dr), (1, .int 0), (2, .int 0), (3, .int 0)]) hx hb dX2_barred_78 hl (by decide) rfl (fun ls hl => ?_)
  refine lv_iload hx hb dX2_barred_80 (lv_at hl 1 rfl) ?_
  refine lv_iload hx hb dX2_barred_82 (lv_at hl 6 rfl) ?_
  refine lv_icmp_ne (tgt := 97) hx hb dX2_barred_84 (by decide) (fun c_84 => absurd (by decide +kernel) c_84) (fun _ => ?_)
  refine lv_iload hx hb dX2_barred_87 (lv_at hl 0 rfl) ?_
  refine lv_iload hx hb dX2_barred_89 (lv_at hl 5 rfl) ?_
  refine lv_icmp_ne (tgt := 97) hx hb dX2_barred_91 (by decide) (fun c_91 => absurd (by decide +kernel) c_91) (fun _ => ?_)
  refine lv_goto (tgt := 111) hx hb dX2_barred_94 (by decide) ?_
  refine lv_iload hx hb dX2_barred_111 (lv_at hl 6 rfl) ?_
  refine lv_iload hx hb dX2_barred_113 (lv_at hl 5 rfl) ?_
  refine lv_ior hx hb dX2_barred_115 ?_
  refine mz_ti (y := 0) (by decide +kernel) ?_
  refine lv_iload_n hx hb dX2_barred_116 rfl (lv_at hl 10 rfl) ?_
  refine lv_iand hx hb dX2_barred_117 ?_
  refine mz_ti (y := 0) (by decide +kernel) ?_
  refine lv_if_ne (tgt := 125) hx hb dX2_barred_118 (by decide) (fun c_118 => absurd (by decide +kernel) c_118) (fun _ => ?_)
  refine lv_iconst (v := 1) hx hb dX2_barred_121 (by decide +kernel) ?_
  refine lv_goto (tgt := 126) hx hb dX2_barred_122 (by decide) ?_
  refine W.widen (k := 0) (n := 0) (Nat.le_of_ble_eq_true rfl) (Nat.le_of_ble_eq_true rfl) ?_
  exact W.zret (v := 1) hx hb hr (mz_nz (by decide +kernel)) (fun t ht hW => ⟨⟨1, (), rfl, rfl, ht⟩, hS.F ht⟩) hS.2.2 dX2_barred_126
set_option maxHeartbeats 1000000 in
set_option maxRecDepth 100000 in
theorem mz_grow0 (l : Launch) (dC : Nat → ClassId) (dI : Nat → Nat → Nat) (cI cJ cZ : ClassId) (dr : Nat) (dp : Nat) (dc : Nat) (sz : Nat)  : Met l yX2_grow wsX2_grow ({ frames := 0, cells := 0, slots := 0, locals := 0 }) (va_Pc [.ref dr] (fun U => U.heap.size = sz ∧ va_P (dC, dI) vwCl [(dr, .inr (2, [.ref dp, .ref dc, .int 0]))] U.heap ∧ va_K (dC, dI) vwCl [(cI, FieldType.int), (cJ, FieldType.long), (cZ, FieldType.boolean)] U ∧ va_D (fun _ => True) [(dr, .inr (2, [.ref dp, .ref dc, .int 0]))] ∧ mz_N U)) (va_Qi (fun (r : Int32) (_ : Unit) => r = 0) (fun _ t => va_P (dC, dI) vwCl [] t.heap ∧ va_D (va_A [(dr, .inr (2, [.ref dp, .ref dc, .int 0]))] sz) []) (va_A [(dr, .inr (2, [.ref dp, .ref dc, .int 0]))] sz)) 0 0 (va_A [(dr, .inr (2, [.ref dp, .ref dc, .int 0]))] sz) := by
  refine Met.ofW (cc := cX2_grow) (maxL := 1) (ret := (some .int)) (by decide) rfl ?_
  intro p e s m args below meth c s₁ B hml hv
  obtain ⟨rfl, hsz, hP, hK, hD0, hN⟩ := hv
  subst hsz
  have hx := B.exec
  have hb := B.bytes
  have hr := B.returns
  have hts := atoms_spec (ws := wsX2_grow) B.pre
  have hown : s.vm.findClass RX2 = some m.cls := findClass_of_methodNamed B.named
  have hlocks := B.notSynchronized
  have hD := hD0.self (sz := s.heap.size)
  generalize hAe : va_A [(dr, .inr (2, [.ref dp, .ref dc, .int 0]))] s.heap.size = A at hD ⊢
  have hA : ∀ q : Nat, s.heap.size ≤ q → A q := fun q h => by rw [← hAe]; exact Or.inr h
  have hS : va_S A s.heap s.heap [] := va_S.rf
  have hiX2 : ∀ w ∈ u_ws RX2 TX2 3, w ∈ wsX2_grow := by decide +kernel
  have hl := lv_entry ([.ref dr]) (n := 1) (Nat.le_of_ble_eq_true rfl)
  rw [lg_entry_eq]
  generalize (lg_sl ([.ref dr]) ++ List.replicate (1 - (lg_sl ([.ref dr])).length) Slot.unset).toArray = ls at hl ⊢
  have hl : lv_has ls 1 [(0, .ref dr)] := hl
  refine lv_aload_n hx hb dX2_grow_0 rfl (lv_at hl 0 rfl) ?_
  refine va_get (D := (dC, dI)) (ci := 2) (v := .int 0) (C := RX2) (T := TX2) (N := 3) hx hb hts hiX2 hown hK hP 0 rfl rfl 2 (by decide) (hts (.fieldLink RX2 18 "MadeItSo$Drawing" "things" "I") (by decide +kernel)) (fun _ h9 => h9) rfl dX2_grow_1 ?_
  refine lv_bipush (v := 8) hx hb dX2_grow_4 (by decide +kernel) ?_
  refine lv_icmp_lt (tgt := 11) hx hb dX2_grow_6 (by decide) (fun _ => ?_) (fun c_6 => absurd (by decide +kernel) c_6)
  refine lv_aload_n hx hb dX2_grow_11 rfl (lv_at hl 0 rfl) ?_
  refine lv_dup hx hb dX2_grow_12 rfl ?_
  refine va_get (D := (dC, dI)) (ci := 2) (v := .int 0) (C := RX2) (T := TX2) (N := 3) hx hb hts hiX2 hown hK hP 0 rfl rfl 2 (by decide) (hts (.fieldLink RX2 18 "MadeItSo$Drawing" "things" "I") (by decide +kernel)) (fun _ h9 => h9) rfl dX2_grow_13 ?_
  refine lv_iconst (v := 1) hx hb dX2_grow_16 (by decide +kernel) ?_
  refine lv_iadd hx hb dX2_grow_17 ?_
  refine mz_ti (y := 1) (by decide +kernel) ?_
  refine va_put (D := (dC, dI)) (ci := 2) (v := .int 1) (ty := .int) (C := RX2) (T := TX2) (N := 3) hx hb hts hiX2 tyX2 tyX2_ok nmX2 hown hK hP hD hS 0 rfl rfl 2 (by decide) (hts (.fieldLink RX2 18 "MadeItSo$Drawing" "things" "I") (by decide +kernel)) (fun _ h9 => h9) rfl (by decide +kernel) rfl rfl (Nat.le_of_ble_eq_true rfl) dX2_grow_18 (fun H locs hP hD hS => ?_)
  have hP : va_P (dC, dI) vwCl [(dr, .inr (2, [.ref dp, .ref dc, .int 1]))] H := hP
  have hD : va_D A [(dr, .inr (2, [.ref dp, .ref dc, .int 1]))] := hD
  refine lv_aload_n hx hb dX2_grow_21 rfl (lv_at hl 0 rfl) ?_
  refine va_get (D := (dC, dI)) (ci := 2) (v := .int 1) (C := RX2) (T := TX2) (N := 3) hx hb hts hiX2 hown hK hP 0 rfl rfl 2 (by decide) (hts (.fieldLink RX2 18 "MadeItSo$Drawing" "things" "I") (by decide +kernel)) (fun _ h9 => h9) rfl dX2_grow_22 ?_
  refine lv_iconst (v := 1) hx hb dX2_grow_25 (by decide +kernel) ?_
  refine lv_isub hx hb dX2_grow_26 ?_
  refine mz_ti (y := 0) (by decide +kernel) ?_
  have hP9 := hP.sub (ws' := []) [] rfl
  have hD9 := hD.sub (ws' := []) [] (by decide) rfl
  refine W.widen (k := 0) (n := 0) (Nat.le_of_ble_eq_true rfl) (Nat.le_of_ble_eq_true rfl) ?_
  exact W.iret (v := 0) hx hb hr (fun t ht hW => ⟨⟨0, (), rfl, rfl, by rw [ht]; exact hP9, hD9⟩, hS.F ht⟩) hS.2.2 dX2_grow_27
set_option maxHeartbeats 1000000 in
set_option maxRecDepth 100000 in
theorem mz_blank0 (l : Launch) (dC : Nat → ClassId) (dI : Nat → Nat → Nat) (cI cJ cZ : ClassId) (bk : Nat) (bp : Nat) (fb : Nat → Int32) (sz : Nat)  : Met l yX1_blank wsX1_blank ({ frames := 0, cells := 0, slots := 0, locals := 0 }) (va_Pc [.ref bk, .int 0] (fun U => U.heap.size = sz ∧ va_P (dC, dI) vwCl [(bk, .inr (1, [.ref bp])), (bp, .inl (cI, 1024, .inl fb))] U.heap ∧ va_K (dC, dI) vwCl [(cI, FieldType.int), (cJ, FieldType.long), (cZ, FieldType.boolean)] U ∧ va_D (fun _ => True) [(bk, .inr (1, [.ref bp])), (bp, .inl (cI, 1024, .inl fb))] ∧ mz_N U)) (va_Qv (fun (_ : Unit) => True) (fun _ t => va_P (dC, dI) vwCl [] t.heap ∧ va_D (va_A [(bk, .inr (1, [.ref bp])), (bp, .inl (cI, 1024, .inl fb))] sz) []) (va_A [(bk, .inr (1, [.ref bp])), (bp, .inl (cI, 1024, .inl fb))] sz)) 0 0 (va_A [(bk, .inr (1, [.ref bp])), (bp, .inl (cI, 1024, .inl fb))] sz) := by
  refine Met.ofW (cc := cX1_blank) (maxL := 3) (ret := none) (by decide) rfl ?_
  intro p e s m args below meth c s₁ B hml hv
  obtain ⟨rfl, hsz, hP, hK, hD0, hN⟩ := hv
  subst hsz
  have hx := B.exec
  have hb := B.bytes
  have hr := B.returns
  have hts := atoms_spec (ws := wsX1_blank) B.pre
  have hown : s.vm.findClass RX1 = some m.cls := findClass_of_methodNamed B.named
  have hlocks := B.notSynchronized
  have hD := hD0.self (sz := s.heap.size)
  generalize hAe : va_A [(bk, .inr (1, [.ref bp])), (bp, .inl (cI, 1024, .inl fb))] s.heap.size = A at hD ⊢
  have hA : ∀ q : Nat, s.heap.size ≤ q → A q := fun q h => by rw [← hAe]; exact Or.inr h
  have hS : va_S A s.heap s.heap [] := va_S.rf
  have hiX1 : ∀ w ∈ u_ws RX1 TX1 1, w ∈ wsX1_blank := by decide +kernel
  have hl := lv_entry ([.ref bk, .int 0]) (n := 3) (Nat.le_of_ble_eq_true rfl)
  rw [lg_entry_eq]
  generalize (lg_sl ([.ref bk, .int 0]) ++ List.replicate (3 - (lg_sl ([.ref bk, .int 0])).length) Slot.unset).toArray = ls at hl ⊢
  have hl : lv_has ls 3 [(0, .ref bk), (1, .int 0)] := hl
  refine lv_iload_n hx hb dX1_blank_0 rfl (lv_at hl 1 rfl) ?_
  refine lv_if_lt (tgt := 39) hx hb dX1_blank_1 (by decide) (fun c_1 => absurd c_1 (by decide +kernel)) (fun _ => ?_)
  refine lv_iload_n hx hb dX1_blank_4 rfl (lv_at hl 1 rfl) ?_
  refine lv_bipush (v := 8) hx hb dX1_blank_5 (by decide +kernel) ?_
  refine lv_icmp_ge (tgt := 39) hx hb dX1_blank_7 (by decide) (fun c_7 => absurd c_7 (by decide +kernel)) (fun _ => ?_)
  refine lv_iconst (v := 0) hx hb dX1_blank_10 (by decide +kernel) ?_
  refine lv_istore_n (lv' := [(2, .int 0), (0, .ref bk), (1, .int 0)]) hx hb dX1_blank_11 rfl hl (by decide) rfl (fun ls hl => ?_)
  refine mz_loop 128 (fun i H locs ls => ∃ f : Nat → Int32, va_P (dC, dI) vwCl [(bk, .inr (1, [.ref bp])), (bp, .inl (cI, 1024, .inl f))] H ∧ va_D A [(bk, .inr (1, [.ref bp])), (bp, .inl (cI, 1024, .inl f))] ∧ va_S A s.heap H locs ∧ lv_has ls 3 [(2, .int (nI i)), (0, .ref bk), (1, .int 0)]) ?_ ?_ 0 (Nat.zero_le _) _ _ _ ⟨_, hP, hD, hS, hl⟩
  · intro i H locs ls hi_ hI kk
    obtain ⟨f, hP, hD, hS, hl⟩ := hI
    refine lv_iload_n hx hb dX1_blank_12 rfl (lv_at hl 0 rfl) ?_
    refine lv_sipush (v := 128) hx hb dX1_blank_13 (by decide +kernel) ?_
    refine lv_icmp_ge (tgt := 39) hx hb dX1_blank_16 (by decide) (fun c_16 => absurd c_16 (nI_ge hi_ (by decide))) (fun _ => ?_)
    refine lv_aload_n hx hb dX1_blank_19 rfl (lv_at hl 1 rfl) ?_
    refine va_get (D := (dC, dI)) (ci := 1) (v := .ref bp) (C := RX1) (T := TX1) (N := 1) hx hb hts hiX1 hown hK hP 0 rfl rfl 0 (by decide) (hts (.fieldLink RX1 9 "MadeItSo$Books" "parts" "[I") (by decide +kernel)) (fun _ h9 => h9) rfl dX1_blank_20 ?_
    refine lv_iload_n hx hb dX1_blank_23 rfl (lv_at hl 2 rfl) ?_
    refine lv_sipush (v := 128) hx hb dX1_blank_24 (by decide +kernel) ?_
    refine lv_imul hx hb dX1_blank_27 ?_
    refine mz_ti (y := 0) (by decide +kernel) ?_
    refine lv_iload_n hx hb dX1_blank_28 rfl (lv_at hl 0 rfl) ?_
    refine lv_iadd hx hb dX1_blank_29 ?_
    refine mz_ti (y := (nI i)) (mz_z0 _) ?_
    refine lv_bipush (v := 50) hx hb dX1_blank_30 (by decide +kernel) ?_
    refine va_iast hx hb hK hP hD hS 1 0 rfl rfl (vp_in_nI (Nat.lt_of_lt_of_le hi_ (by decide)) (by decide)) dX1_blank_32 (fun H locs hP hD hS => ?_)
    have hP : va_P (dC, dI) vwCl [(bk, .inr (1, [.ref bp])), (bp, .inl (cI, 1024, .inl (upd f ((nI i) : Int32).toNatClampNeg 50)))] H := hP
    have hD : va_D A [(bk, .inr (1, [.ref bp])), (bp, .inl (cI, 1024, .inl (upd f ((nI i) : Int32).toNatClampNeg 50)))] := hD
    refine lv_iinc (v := (nI (i + 1))) (lv' := [(2, .int (nI (i + 1))), (0, .ref bk), (1, .int 0)]) hx hb dX1_blank_33 hl (k := 0) rfl (nI_1 i) (by decide) rfl (fun ls hl => ?_)
    refine lv_goto (tgt := 12) hx hb dX1_blank_36 (by decide) ?_
    exact kk _ _ _ ⟨_, hP, hD, hS, lv_sub hl [0, 1, 2] rfl⟩
  · intro H locs ls hI
    obtain ⟨f, hP, hD, hS, hl⟩ := hI
    have hl : lv_has ls 3 [(2, .int 128), (0, .ref bk), (1, .int 0)] := hl
    refine lv_iload_n hx hb dX1_blank_12 rfl (lv_at hl 0 rfl) ?_
    refine lv_sipush (v := 128) hx hb dX1_blank_13 (by decide +kernel) ?_
    refine lv_icmp_ge (tgt := 39) hx hb dX1_blank_16 (by decide) (fun _ => ?_) (fun c_16 => absurd (by decide +kernel) c_16)
    have hP9 := hP.sub (ws' := []) [] rfl
    have hD9 := hD.sub (ws' := []) [] (by decide) rfl
    refine W.widen (k := 0) (n := 0) (Nat.le_of_ble_eq_true rfl) (Nat.le_of_ble_eq_true rfl) ?_
    exact W.vret hx hb hr (fun t ht hW => ⟨⟨(), rfl, trivial, by rw [ht]; exact hP9, hD9⟩, hS.F ht⟩) hS.2.2 dX1_blank_39
set_option maxHeartbeats 1000000 in
set_option maxRecDepth 100000 in
theorem mz_weigh0 (l : Launch) (dC : Nat → ClassId) (dI : Nat → Nat → Nat) (cI cJ cZ : ClassId) (wt : Nat) (wo : Nat) (fw : Nat → Int64) (dr : Nat) (dp : Nat) (dc : Nat) (bk : Nat) (p2 : Int32) (sz : Nat)  : Met l yX6_weigh wsX6_weigh ({ frames := 1, cells := 0, slots := 0, locals := 20 }) (va_Pc [.ref wt, .ref dr, .ref bk, .int p2] (fun U => U.heap.size = sz ∧ va_P (dC, dI) vwCl [(wt, .inr (6, [.ref wo, .int 0])), (wo, .inl (cJ, 256, .inr (.inl fw))), (dr, .inr (2, [.ref dp, .ref dc, .int 0]))] U.heap ∧ va_K (dC, dI) vwCl [(cI, FieldType.int), (cJ, FieldType.long), (cZ, FieldType.boolean)] U ∧ va_D (fun _ => True) [(wt, .inr (6, [.ref wo, .int 0])), (wo, .inl (cJ, 256, .inr (.inl fw))), (dr, .inr (2, [.ref dp, .ref dc, .int 0]))] ∧ mz_N U)) (va_Qv (fun (_ : Unit) => True) (fun _ t => ∃ (fx : Nat → Int64), fx 0 = 1 ∧ va_P (dC, dI) vwCl [(wt, .inr (6, [.ref wo, .int 0])), (wo, .inl (cJ, 256, .inr (.inl fx))), (dr, .inr (2, [.ref dp, .ref dc, .int 0]))] t.heap ∧ va_D (va_A [(wt, .inr (6, [.ref wo, .int 0])), (wo, .inl (cJ, 256, .inr (.inl fw))), (dr, .inr (2, [.ref dp, .ref dc, .int 0]))] sz) [(wt, .inr (6, [.ref wo, .int 0])), (wo, .inl (cJ, 256, .inr (.inl fx))), (dr, .inr (2, [.ref dp, .ref dc, .int 0]))]) (va_A [(wt, .inr (6, [.ref wo, .int 0])), (wo, .inl (cJ, 256, .inr (.inl fw))), (dr, .inr (2, [.ref dp, .ref dc, .int 0]))] sz)) 0 0 (va_A [(wt, .inr (6, [.ref wo, .int 0])), (wo, .inl (cJ, 256, .inr (.inl fw))), (dr, .inr (2, [.ref dp, .ref dc, .int 0]))] sz) := by
  refine Met.ofW (cc := cX6_weigh) (maxL := 10) (ret := none) (by decide) rfl ?_
  intro p e s m args below meth c s₁ B hml hv
  obtain ⟨rfl, hsz, hP, hK, hD0, hN⟩ := hv
  subst hsz
  have hx := B.exec
  have hb := B.bytes
  have hr := B.returns
  have hts := atoms_spec (ws := wsX6_weigh) B.pre
  have hown : s.vm.findClass RX6 = some m.cls := findClass_of_methodNamed B.named
  have hlocks := B.notSynchronized
  have hD := hD0.self (sz := s.heap.size)
  generalize hAe : va_A [(wt, .inr (6, [.ref wo, .int 0])), (wo, .inl (cJ, 256, .inr (.inl fw))), (dr, .inr (2, [.ref dp, .ref dc, .int 0]))] s.heap.size = A at hD ⊢
  have hA : ∀ q : Nat, s.heap.size ≤ q → A q := fun q h => by rw [← hAe]; exact Or.inr h
  have hS : va_S A s.heap s.heap [] := va_S.rf
  have hiX6 : ∀ w ∈ u_ws RX6 TX6 2, w ∈ wsX6_weigh := by decide +kernel
  have hl := lv_entry ([.ref wt, .ref dr, .ref bk, .int p2]) (n := 10) (Nat.le_of_ble_eq_true rfl)
  rw [lg_entry_eq]
  generalize (lg_sl ([.ref wt, .ref dr, .ref bk, .int p2]) ++ List.replicate (10 - (lg_sl ([.ref wt, .ref dr, .ref bk, .int p2])).length) Slot.unset).toArray = ls at hl ⊢
  have hl : lv_has ls 10 [(0, .ref wt), (1, .ref dr), (2, .ref bk), (3, .int p2)] := hl
  refine lv_aload_n hx hb dX6_weigh_0 rfl (lv_at hl 0 rfl) ?_
  refine lv_aload_n hx hb dX6_weigh_1 rfl (lv_at hl 1 rfl) ?_
  have hPc := hP.sub (ws' := [(dr, .inr (2, [.ref dp, .ref dc, .int 0]))]) [2] rfl
  refine va_calli (va_runV (As := []) (rest := [.ref wt]) ⟨hx, hb, hml, hown, hts⟩ (mz_Drawing_everything l dC dI cI cJ cZ dr dp dc s.heap ) (cwV 0 hts gX6_weigh_X2_everything rfl rfl rfl (by decide +kernel) ⟨Nat.le_of_ble_eq_true rfl, Nat.le_of_ble_eq_true rfl⟩) ⟨fun a U g mk q => mz_blP q, va_recv hK hPc (ci := 2) (q0 := 0) rfl rfl, fun U hU hW => ⟨rfl, hU, hPc, va_K.moved hW.alike hK, mz_nw hW hN⟩⟩ rfl rfl hl.1 rfl (lv_room (Nat.le_of_ble_eq_true rfl)) dX6_weigh_2 ⟨Nat.le_of_ble_eq_true rfl, Nat.le_of_ble_eq_true rfl⟩) hS (fun q _ h => h.elim) (fun q h => h.elim) (fun r u t H1 locs ht hvm hw hB hz1 hk1 hS => ?_)
  have hE : s.heap = H1 := hB.symm.trans ht
  subst hE
  obtain rfl : r = 0 := hw
  refine va_put (D := (dC, dI)) (ci := 6) (v := .int 0) (ty := .int) (C := RX6) (T := TX6) (N := 2) hx hb hts hiX6 tyX6 tyX6_ok nmX6 hown hK hP hD hS 0 rfl rfl 1 (by decide) (hts (.fieldLink RX6 15 "MadeItSo$Weights" "everything" "I") (by decide +kernel)) (fun _ h9 => h9) rfl (by decide +kernel) rfl rfl (Nat.le_of_ble_eq_true rfl) dX6_weigh_5 (fun H locs hP hD hS => ?_)
  have hP : va_P (dC, dI) vwCl [(wt, .inr (6, [.ref wo, .int 0])), (wo, .inl (cJ, 256, .inr (.inl fw))), (dr, .inr (2, [.ref dp, .ref dc, .int 0]))] H := hP
  have hD : va_D A [(wt, .inr (6, [.ref wo, .int 0])), (wo, .inl (cJ, 256, .inr (.inl fw))), (dr, .inr (2, [.ref dp, .ref dc, .int 0]))] := hD
  refine lv_aload_n hx hb dX6_weigh_8 rfl (lv_at hl 0 rfl) ?_
  refine va_get (D := (dC, dI)) (ci := 6) (v := .ref wo) (C := RX6) (T := TX6) (N := 2) hx hb hts hiX6 hown hK hP 0 rfl rfl 0 (by decide) (hts (.fieldLink RX6 9 "MadeItSo$Weights" "ofCase" "[J") (by decide +kernel)) (fun _ h9 => h9) rfl dX6_weigh_9 ?_
  refine lv_iconst (v := 0) hx hb dX6_weigh_12 (by decide +kernel) ?_
  refine lv_lconst (v := 1) hx hb dX6_weigh_13 (by decide +kernel) ?_
  refine va_last hx hb hK hP hD hS 1 1 rfl rfl (mz_in (by decide +kernel)) dX6_weigh_14 (fun H locs hP hD hS => ?_)
  have hP : va_P (dC, dI) vwCl [(wt, .inr (6, [.ref wo, .int 0])), (wo, .inl (cJ, 256, .inr (.inl (vp_updL fw (0 : Int32).toNatClampNeg 1)))), (dr, .inr (2, [.ref dp, .ref dc, .int 0]))] H := hP
  have hD : va_D A [(wt, .inr (6, [.ref wo, .int 0])), (wo, .inl (cJ, 256, .inr (.inl (vp_updL fw (0 : Int32).toNatClampNeg 1)))), (dr, .inr (2, [.ref dp, .ref dc, .int 0]))] := hD
  refine lv_iconst (v := 0) hx hb dX6_weigh_15 (by decide +kernel) ?_
  refine lv_istore (lv' := [(4, .int 0), (0, .ref wt), (1, .ref dr), (2, .ref bk), (3, .int p2)]) hx hb dX6_weigh_16 hl (by decide) rfl (fun ls hl => ?_)
  refine lv_iconst (v := 0) hx hb dX6_weigh_18 (by decide +kernel) ?_
  refine lv_istore (lv' := [(5, .int 0), (4, .int 0), (0, .ref wt), (1, .ref dr), (2, .ref bk), (3, .int p2)]) hx hb dX6_weigh_19 hl (by decide) rfl (fun ls hl => ?_)
  refine lv_iload hx hb dX6_weigh_21 (lv_at hl 0 rfl) ?_
  refine lv_aload_n hx hb dX6_weigh_23 rfl (lv_at hl 3 rfl) ?_
  have hPc := hP.sub (ws' := [(dr, .inr (2, [.ref dp, .ref dc, .int 0]))]) [2] rfl
  refine va_calli (va_runV (As := []) (rest := [.int 0]) ⟨hx, hb, hml, hown, hts⟩ (mz_Drawing_size l dC dI cI cJ cZ dr dp dc H ) (cwV 0 hts gX6_weigh_X2_size rfl rfl rfl (by decide +kernel) ⟨Nat.le_of_ble_eq_true rfl, Nat.le_of_ble_eq_true rfl⟩) ⟨fun a U g mk q => mz_blP q, va_recv hK hPc (ci := 2) (q0 := 0) rfl rfl, fun U hU hW => ⟨rfl, hU, hPc, va_K.moved hW.alike hK, mz_nw hW hN⟩⟩ rfl rfl hl.1 rfl (lv_room (Nat.le_of_ble_eq_true rfl)) dX6_weigh_24 ⟨Nat.le_of_ble_eq_true rfl, Nat.le_of_ble_eq_true rfl⟩) hS (fun q _ h => h.elim) (fun q h => h.elim) (fun r u t H1 locs ht hvm hw hB hz1 hk1 hS => ?_)
  have hE : H = H1 := hB.symm.trans ht
  subst hE
  obtain rfl : r = 0 := hw
  refine lv_icmp_ge (tgt := 119) hx hb dX6_weigh_27 (by decide) (fun _ => ?_) (fun c_27 => absurd (by decide +kernel) c_27)
  have hP9 := hP.sub (ws' := [(wt, .inr (6, [.ref wo, .int 0])), (wo, .inl (cJ, 256, .inr (.inl (vp_updL fw (0 : Int32).toNatClampNeg 1)))), (dr, .inr (2, [.ref dp, .ref dc, .int 0]))]) [0, 1, 2] rfl
  have hD9 := hD.sub (ws' := [(wt, .inr (6, [.ref wo, .int 0])), (wo, .inl (cJ, 256, .inr (.inl (vp_updL fw (0 : Int32).toNatClampNeg 1)))), (dr, .inr (2, [.ref dp, .ref dc, .int 0]))]) [0, 1, 2] (by decide) rfl
  refine W.widen (k := 0) (n := 0) (Nat.le_of_ble_eq_true rfl) (Nat.le_of_ble_eq_true rfl) ?_
  exact W.vret hx hb hr (fun t ht hW => ⟨⟨(), rfl, trivial, (vp_updL fw (0 : Int32).toNatClampNeg 1), rfl, by rw [ht]; exact hP9, hD9⟩, hS.F ht⟩) hS.2.2 dX6_weigh_119
set_option maxHeartbeats 1000000 in
set_option maxRecDepth 100000 in
theorem mz_having0 (l : Launch) (dC : Nat → ClassId) (dI : Nat → Nat → Nat) (cI cJ cZ : ClassId) (wt : Nat) (wo : Nat) (fw : Nat → Int64) (Hq : Heap) (hw0 : fw 0 = 1) : Met l yX6_having wsX6_having ({ frames := 2, cells := 0, slots := 0, locals := 40 }) (va_Pc [.ref wt, .int 0, .int 0] (fun U => U.heap = Hq ∧ va_P (dC, dI) vwCl [(wt, .inr (6, [.ref wo, .int 0])), (wo, .inl (cJ, 256, .inr (.inl fw)))] Hq ∧ va_K (dC, dI) vwCl [(cI, FieldType.int), (cJ, FieldType.long), (cZ, FieldType.boolean)] U ∧ mz_N U)) (va_Ql (fun (r : Int64) (_ : Unit) => r = 1) (fun _ t => t.heap = Hq) (fun _ : Nat => False)) 0 0 (fun _ : Nat => False) := by
  refine Met.ofW (cc := cX6_having) (maxL := 9) (ret := (some .long)) (by decide) rfl ?_
  intro p e s m args below meth c s₁ B hml hv
  obtain ⟨rfl, hH, hP, hK, hN⟩ := hv
  subst hH
  have hx := B.exec
  have hb := B.bytes
  have hr := B.returns
  have hts := atoms_spec (ws := wsX6_having) B.pre
  have hown : s.vm.findClass RX6 = some m.cls := findClass_of_methodNamed B.named
  have hlocks := B.notSynchronized
  have hS : va_S (fun _ : Nat => False) s.heap s.heap [] := va_S.rf
  have hiX6 : ∀ w ∈ u_ws RX6 TX6 2, w ∈ wsX6_having := by decide +kernel
  have hl := lv_entry ([.ref wt, .int 0, .int 0]) (n := 9) (Nat.le_of_ble_eq_true rfl)
  rw [lg_entry_eq]
  generalize (lg_sl ([.ref wt, .int 0, .int 0]) ++ List.replicate (9 - (lg_sl ([.ref wt, .int 0, .int 0])).length) Slot.unset).toArray = ls at hl ⊢
  have hl : lv_has ls 9 [(0, .ref wt), (1, .int 0), (2, .int 0)] := hl
  refine lv_aload_n hx hb dX6_having_0 rfl (lv_at hl 0 rfl) ?_
  refine va_get (D := (dC, dI)) (ci := 6) (v := .int 0) (C := RX6) (T := TX6) (N := 2) hx hb hts hiX6 hown hK hP 0 rfl rfl 1 (by decide) (hts (.fieldLink RX6 15 "MadeItSo$Weights" "everything" "I") (by decide +kernel)) (fun _ h9 => h9) rfl dX6_having_1 ?_
  refine lv_iload_n hx hb dX6_having_4 rfl (lv_at hl 1 rfl) ?_
  refine lv_iconst (v := (-1)) hx hb dX6_having_5 (by decide +kernel) ?_
  refine lv_ixor hx hb dX6_having_6 ?_
  refine mz_ti (y := (-1)) (by decide +kernel) ?_
  refine lv_iand hx hb dX6_having_7 ?_
  refine mz_ti (y := 0) (by decide +kernel) ?_
  refine lv_istore_n (lv' := [(3, .int 0), (0, .ref wt), (1, .int 0), (2, .int 0)]) hx hb dX6_having_8 rfl hl (by decide) rfl (fun ls hl => ?_)
  refine lv_iload_n hx hb dX6_having_9 rfl (lv_at hl 0 rfl) ?_
  have hPc := hP.sub (ws' := []) [] rfl
  refine va_calli (va_runSN (As := [.int 0]) (rest := []) ⟨hx, hb, hml, hown, hts⟩ (mz_partsOf0 l dC dI cI cJ cZ  s.heap ) ⟨va_cnB (host := "MadeItSo") 1 hts gX6_having_X7_partsOf_n31 rfl rfl rfl (hN (RX6, 31, yX7_partsOf, "MadeItSo") (by decide +kernel)) (hts (.initialized RX7) (by decide +kernel)) (by decide +kernel) ⟨Nat.le_of_ble_eq_true rfl, Nat.le_of_ble_eq_true rfl⟩, hts (.static yX7_partsOf) (by decide +kernel), trivial⟩ ⟨fun a U g mk q => mz_blP q, fun U hU hW => ⟨rfl, hU, hPc, va_K.moved hW.alike hK, mz_nw hW hN⟩⟩ rfl rfl hl.1 rfl (lv_room (Nat.le_of_ble_eq_true rfl)) dX6_having_10 ⟨Nat.le_of_ble_eq_true rfl, Nat.le_of_ble_eq_true rfl⟩) hS (fun q _ h => h.elim) (fun q h => h.elim) (fun r u t H1 locs ht hvm hw hB hz1 hk1 hS => ?_)
  have hE : s.heap = H1 := hB.symm.trans ht
  subst hE
  obtain rfl : r = 1 := hw
  refine lv_istore (lv' := [(4, .int 1), (3, .int 0), (0, .ref wt), (1, .int 0), (2, .int 0)]) hx hb dX6_having_13 hl (by decide) rfl (fun ls hl => ?_)
  refine lv_lconst (v := 0) hx hb dX6_having_15 (by decide +kernel) ?_
  refine lv_lstore (lv' := [(5, .long 0), (4, .int 1), (3, .int 0), (0, .ref wt), (1, .int 0), (2, .int 0)]) hx hb dX6_having_16 hl (by decide) rfl (fun ls hl => ?_)
  refine lv_iconst (v := 0) hx hb dX6_having_18 (by decide +kernel) ?_
  refine lv_istore (lv' := [(7, .int 0), (5, .long 0), (4, .int 1), (3, .int 0), (0, .ref wt), (1, .int 0), (2, .int 0)]) hx hb dX6_having_19 hl (by decide) rfl (fun ls hl => ?_)
  refine lv_iconst (v := 0) hx hb dX6_having_21 (by decide +kernel) ?_
  refine lv_istore (lv' := [(8, .int 0), (7, .int 0), (5, .long 0), (4, .int 1), (3, .int 0), (0, .ref wt), (1, .int 0), (2, .int 0)]) hx hb dX6_having_22 hl (by decide) rfl (fun ls hl => ?_)
  refine lv_iload hx hb dX6_having_24 (lv_at hl 1 rfl) ?_
  refine lv_iload hx hb dX6_having_26 (lv_at hl 3 rfl) ?_
  refine lv_icmp_ge (tgt := 63) hx hb dX6_having_28 (by decide) (fun c_28 => absurd c_28 (by decide +kernel)) (fun _ => ?_)
  refine lv_lload hx hb dX6_having_31 (lv_at hl 2 rfl) ?_
  refine lv_aload_n hx hb dX6_having_33 rfl (lv_at hl 5 rfl) ?_
  refine va_get (D := (dC, dI)) (ci := 6) (v := .ref wo) (C := RX6) (T := TX6) (N := 2) hx hb hts hiX6 hown hK hP 0 rfl rfl 0 (by decide) (hts (.fieldLink RX6 9 "MadeItSo$Weights" "ofCase" "[J") (by decide +kernel)) (fun _ h9 => h9) rfl dX6_having_34 ?_
  refine lv_iload_n hx hb dX6_having_37 rfl (lv_at hl 7 rfl) ?_
  refine lv_iload hx hb dX6_having_38 (lv_at hl 0 rfl) ?_
  refine lv_ior hx hb dX6_having_40 ?_
  refine mz_ti (y := 0) (by decide +kernel) ?_
  refine lv_sipush (v := 255) hx hb dX6_having_41 (by decide +kernel) ?_
  refine lv_iand hx hb dX6_having_44 ?_
  refine mz_ti (y := 0) (by decide +kernel) ?_
  refine va_lald hx hb hK hP 1 1 rfl rfl (mz_in (by decide +kernel)) dX6_having_45 ?_
  refine mz_tl (y := 1) hw0 ?_
  refine lv_ladd hx hb dX6_having_46 ?_
  refine mz_tl (y := 1) (by decide +kernel) ?_
  refine lv_lstore (lv' := [(5, .long 1), (8, .int 0), (7, .int 0), (4, .int 1), (3, .int 0), (0, .ref wt), (1, .int 0), (2, .int 0)]) hx hb dX6_having_47 hl (by decide) rfl (fun ls hl => ?_)
  refine lv_iinc (v := 1) (lv' := [(7, .int 1), (5, .long 1), (8, .int 0), (4, .int 1), (3, .int 0), (0, .ref wt), (1, .int 0), (2, .int 0)]) hx hb dX6_having_49 hl (k := 2) rfl (by decide +kernel) (by decide) rfl (fun ls hl => ?_)
  refine lv_iload hx hb dX6_having_52 (lv_at hl 2 rfl) ?_
  refine lv_iload_n hx hb dX6_having_54 rfl (lv_at hl 4 rfl) ?_
  have hPc := hP.sub (ws' := []) [] rfl
  refine va_calli (va_runSN (As := [.int 0, .int 0]) (rest := []) ⟨hx, hb, hml, hown, hts⟩ (mz_nextPart0 l dC dI cI cJ cZ  s.heap ) ⟨va_cnB (host := "MadeItSo") 2 hts gX6_having_X7_nextPart_n47 rfl rfl rfl (hN (RX6, 47, yX7_nextPart, "MadeItSo") (by decide +kernel)) (hts (.initialized RX7) (by decide +kernel)) (by decide +kernel) ⟨Nat.le_of_ble_eq_true rfl, Nat.le_of_ble_eq_true rfl⟩, hts (.static yX7_nextPart) (by decide +kernel), trivial⟩ ⟨fun a U g mk q => mz_blP q, fun U hU hW => ⟨rfl, hU, hPc, va_K.moved hW.alike hK, mz_nw hW hN⟩⟩ rfl rfl hl.1 rfl (lv_room (Nat.le_of_ble_eq_true rfl)) dX6_having_55 ⟨Nat.le_of_ble_eq_true rfl, Nat.le_of_ble_eq_true rfl⟩) hS (fun q _ h => h.elim) (fun q h => h.elim) (fun r u t H1 locs ht hvm hw hB hz1 hk1 hS => ?_)
  have hE : s.heap = H1 := hB.symm.trans ht
  subst hE
  obtain rfl : r = 0 := hw
  refine lv_istore (lv' := [(8, .int 0), (7, .int 1), (5, .long 1), (4, .int 1), (3, .int 0), (0, .ref wt), (1, .int 0), (2, .int 0)]) hx hb dX6_having_58 hl (by decide) rfl (fun ls hl => ?_)
  refine lv_goto (tgt := 24) hx hb dX6_having_60 (by decide) ?_
  refine lv_iload hx hb dX6_having_24 (lv_at hl 1 rfl) ?_
  refine lv_iload hx hb dX6_having_26 (lv_at hl 3 rfl) ?_
  refine lv_icmp_ge (tgt := 63) hx hb dX6_having_28 (by decide) (fun _ => ?_) (fun c_28 => absurd (by decide +kernel) c_28)
  refine lv_lload hx hb dX6_having_63 (lv_at hl 2 rfl) ?_
  refine W.widen (k := 0) (n := 0) (Nat.le_of_ble_eq_true rfl) (Nat.le_of_ble_eq_true rfl) ?_
  exact W.lret (v := 1) hx hb hr (fun t ht hW => ⟨⟨1, (), rfl, rfl, ht⟩, hS.F ht⟩) hS.2.2 dX6_having_65
set_option maxHeartbeats 1000000 in
set_option maxRecDepth 100000 in
theorem mz_reckon0 (l : Launch) (dC : Nat → ClassId) (dI : Nat → Nat → Nat) (cI cJ cZ : ClassId) (la : Nat) (lw : Nat) (fl : Nat → Int32) (dr : Nat) (dp : Nat) (dc : Nat) (sz : Nat)  : Met l yX4_reckon wsX4_reckon ({ frames := 1, cells := 0, slots := 0, locals := 20 }) (va_Pc [.ref la, .ref dr, .int (-1), .int (-1)] (fun U => U.heap.size = sz ∧ va_P (dC, dI) vwCl [(la, .inr (4, [.ref lw])), (lw, .inl (cI, 256, .inl fl)), (dr, .inr (2, [.ref dp, .ref dc, .int 0]))] U.heap ∧ va_K (dC, dI) vwCl [(cI, FieldType.int), (cJ, FieldType.long), (cZ, FieldType.boolean)] U ∧ va_D (fun _ => True) [(la, .inr (4, [.ref lw])), (lw, .inl (cI, 256, .inl fl)), (dr, .inr (2, [.ref dp, .ref dc, .int 0]))] ∧ mz_N U)) (va_Qi (fun (r : Int32) (_ : Unit) => r = 1) (fun _ t => va_P (dC, dI) vwCl [] t.heap ∧ va_D (va_A [(la, .inr (4, [.ref lw])), (lw, .inl (cI, 256, .inl fl)), (dr, .inr (2, [.ref dp, .ref dc, .int 0]))] sz) []) (va_A [(la, .inr (4, [.ref lw])), (lw, .inl (cI, 256, .inl fl)), (dr, .inr (2, [.ref dp, .ref dc, .int 0]))] sz)) 0 0 (va_A [(la, .inr (4, [.ref lw])), (lw, .inl (cI, 256, .inl fl)), (dr, .inr (2, [.ref dp, .ref dc, .int 0]))] sz) := by
  refine Met.ofW (cc := cX4_reckon) (maxL := 7) (ret := (some .int)) (by decide) rfl ?_
  intro p e s m args below meth c s₁ B hml hv
  obtain ⟨rfl, hsz, hP, hK, hD0, hN⟩ := hv
  subst hsz
  have hx := B.exec
  have hb := B.bytes
  have hr := B.returns
  have hts := atoms_spec (ws := wsX4_reckon) B.pre
  have hown : s.vm.findClass RX4 = some m.cls := findClass_of_methodNamed B.named
  have hlocks := B.notSynchronized
  have hD := hD0.self (sz := s.heap.size)
  generalize hAe : va_A [(la, .inr (4, [.ref lw])), (lw, .inl (cI, 256, .inl fl)), (dr, .inr (2, [.ref dp, .ref dc, .int 0]))] s.heap.size = A at hD ⊢
  have hA : ∀ q : Nat, s.heap.size ≤ q → A q := fun q h => by rw [← hAe]; exact Or.inr h
  have hS : va_S A s.heap s.heap [] := va_S.rf
  have hiX4 : ∀ w ∈ u_ws RX4 TX4 1, w ∈ wsX4_reckon := by decide +kernel
  have hl := lv_entry ([.ref la, .ref dr, .int (-1), .int (-1)]) (n := 7) (Nat.le_of_ble_eq_true rfl)
  rw [lg_entry_eq]
  generalize (lg_sl ([.ref la, .ref dr, .int (-1), .int (-1)]) ++ List.replicate (7 - (lg_sl ([.ref la, .ref dr, .int (-1), .int (-1)])).length) Slot.unset).toArray = ls at hl ⊢
  have hl : lv_has ls 7 [(0, .ref la), (1, .ref dr), (2, .int (-1)), (3, .int (-1))] := hl
  refine lv_aload_n hx hb dX4_reckon_0 rfl (lv_at hl 1 rfl) ?_
  have hPc := hP.sub (ws' := [(dr, .inr (2, [.ref dp, .ref dc, .int 0]))]) [2] rfl
  refine va_calli (va_runV (As := []) (rest := []) ⟨hx, hb, hml, hown, hts⟩ (mz_Drawing_everything l dC dI cI cJ cZ dr dp dc s.heap ) (cwV 0 hts gX4_reckon_X2_everything rfl rfl rfl (by decide +kernel) ⟨Nat.le_of_ble_eq_true rfl, Nat.le_of_ble_eq_true rfl⟩) ⟨fun a U g mk q => mz_blP q, va_recv hK hPc (ci := 2) (q0 := 0) rfl rfl, fun U hU hW => ⟨rfl, hU, hPc, va_K.moved hW.alike hK, mz_nw hW hN⟩⟩ rfl rfl hl.1 rfl (lv_room (Nat.le_of_ble_eq_true rfl)) dX4_reckon_1 ⟨Nat.le_of_ble_eq_true rfl, Nat.le_of_ble_eq_true rfl⟩) hS (fun q _ h => h.elim) (fun q h => h.elim) (fun r u t H1 locs ht hvm hw hB hz1 hk1 hS => ?_)
  have hE : s.heap = H1 := hB.symm.trans ht
  subst hE
  obtain rfl : r = 0 := hw
  refine lv_sipush (v := 255) hx hb dX4_reckon_4 (by decide +kernel) ?_
  refine lv_iand hx hb dX4_reckon_7 ?_
  refine mz_ti (y := 0) (by decide +kernel) ?_
  refine lv_istore (lv' := [(4, .int 0), (0, .ref la), (1, .ref dr), (2, .int (-1)), (3, .int (-1))]) hx hb dX4_reckon_8 hl (by decide) rfl (fun ls hl => ?_)
  refine lv_aload_n hx hb dX4_reckon_10 rfl (lv_at hl 1 rfl) ?_
  refine va_get (D := (dC, dI)) (ci := 4) (v := .ref lw) (C := RX4) (T := TX4) (N := 1) hx hb hts hiX4 hown hK hP 0 rfl rfl 0 (by decide) (hts (.fieldLink RX4 9 "MadeItSo$Lookalikes" "waysOf" "[I") (by decide +kernel)) (fun _ h9 => h9) rfl dX4_reckon_11 ?_
  refine lv_iconst (v := 0) hx hb dX4_reckon_14 (by decide +kernel) ?_
  refine lv_iconst (v := 1) hx hb dX4_reckon_15 (by decide +kernel) ?_
  refine va_iast hx hb hK hP hD hS 1 0 rfl rfl (mz_in (by decide +kernel)) dX4_reckon_16 (fun H locs hP hD hS => ?_)
  have hP : va_P (dC, dI) vwCl [(la, .inr (4, [.ref lw])), (lw, .inl (cI, 256, .inl (upd fl (0 : Int32).toNatClampNeg 1))), (dr, .inr (2, [.ref dp, .ref dc, .int 0]))] H := hP
  have hD : va_D A [(la, .inr (4, [.ref lw])), (lw, .inl (cI, 256, .inl (upd fl (0 : Int32).toNatClampNeg 1))), (dr, .inr (2, [.ref dp, .ref dc, .int 0]))] := hD
  refine lv_iconst (v := 1) hx hb dX4_reckon_17 (by decide +kernel) ?_
  refine lv_istore (lv' := [(5, .int 1), (4, .int 0), (0, .ref la), (1, .ref dr), (2, .int (-1)), (3, .int (-1))]) hx hb dX4_reckon_18 hl (by decide) rfl (fun ls hl => ?_)
  refine lv_iload hx hb dX4_reckon_20 (lv_at hl 0 rfl) ?_
  refine lv_iload hx hb dX4_reckon_22 (lv_at hl 1 rfl) ?_
  refine lv_icmp_gt (tgt := 82) hx hb dX4_reckon_24 (by decide) (fun _ => ?_) (fun c_24 => absurd (by decide +kernel) c_24)
  refine lv_aload_n hx hb dX4_reckon_82 rfl (lv_at hl 2 rfl) ?_
  refine va_get (D := (dC, dI)) (ci := 4) (v := .ref lw) (C := RX4) (T := TX4) (N := 1) hx hb hts hiX4 hown hK hP 0 rfl rfl 0 (by decide) (hts (.fieldLink RX4 9 "MadeItSo$Lookalikes" "waysOf" "[I") (by decide +kernel)) (fun _ h9 => h9) rfl dX4_reckon_83 ?_
  refine lv_iload hx hb dX4_reckon_86 (lv_at hl 1 rfl) ?_
  refine va_iald hx hb hK hP 1 0 rfl rfl (mz_in (by decide +kernel)) dX4_reckon_88 ?_
  refine mz_ti (y := 1) rfl ?_
  have hP9 := hP.sub (ws' := []) [] rfl
  have hD9 := hD.sub (ws' := []) [] (by decide) rfl
  refine W.widen (k := 0) (n := 0) (Nat.le_of_ble_eq_true rfl) (Nat.le_of_ble_eq_true rfl) ?_
  exact W.iret (v := 1) hx hb hr (fun t ht hW => ⟨⟨1, (), rfl, rfl, by rw [ht]; exact hP9, hD9⟩, hS.F ht⟩) hS.2.2 dX4_reckon_89
set_option maxHeartbeats 1000000 in
set_option maxRecDepth 100000 in
theorem mz_hasRow (l : Launch) (dC : Nat → ClassId) (dI : Nat → Nat → Nat) (cI cJ cZ : ClassId) (mx : Nat) (dr : Nat) (th : Nat) (bk : Nat) (wt : Nat) (tt : Nat) (lh : Nat) (la : Nat) (dp : Nat) (dc : Nat) (p0 : Int32) (p1 : Int32) (Hq : Heap)  : Met l yX7_hasRow wsX7_hasRow ({ frames := 1, cells := 0, slots := 0, locals := 21 }) (va_Pc [.ref mx, .int p0, .int p1] (fun U => U.heap = Hq ∧ va_P (dC, dI) vwCl [(mx, .inr (7, [.ref dr, .ref th, .ref bk, .ref wt, .ref tt, .ref lh, .ref la, .int 0, .long 0, .long 1])), (dr, .inr (2, [.ref dp, .ref dc, .int 0]))] Hq ∧ va_K (dC, dI) vwCl [(cI, FieldType.int), (cJ, FieldType.long), (cZ, FieldType.boolean)] U ∧ mz_N U)) (va_Qi (fun (r : Int32) (_ : Unit) => r = 0) (fun _ t => t.heap = Hq) (fun _ : Nat => False)) 0 0 (fun _ : Nat => False) := by
  refine Met.ofW (cc := cX7_hasRow) (maxL := 3) (ret := (some .boolean)) (by decide) rfl ?_
  intro p e s m args below meth c s₁ B hml hv
  obtain ⟨rfl, hH, hP, hK, hN⟩ := hv
  subst hH
  have hx := B.exec
  have hb := B.bytes
  have hr := B.returns
  have hts := atoms_spec (ws := wsX7_hasRow) B.pre
  have hown : s.vm.findClass RX7 = some m.cls := findClass_of_methodNamed B.named
  have hlocks := B.notSynchronized
  have hS : va_S (fun _ : Nat => False) s.heap s.heap [] := va_S.rf
  have hiX7 : ∀ w ∈ u_ws RX7 TX7 10, w ∈ wsX7_hasRow := by decide +kernel
  have hl := lv_entry ([.ref mx, .int p0, .int p1]) (n := 3) (Nat.le_of_ble_eq_true rfl)
  rw [lg_entry_eq]
  generalize (lg_sl ([.ref mx, .int p0, .int p1]) ++ List.replicate (3 - (lg_sl ([.ref mx, .int p0, .int p1])).length) Slot.unset).toArray = ls at hl ⊢
  have hl : lv_has ls 3 [(0, .ref mx), (1, .int p0), (2, .int p1)] := hl
  refine lv_aload_n hx hb dX7_hasRow_0 rfl (lv_at hl 0 rfl) ?_
  refine va_get (D := (dC, dI)) (ci := 7) (v := .ref dr) (C := RX7) (T := TX7) (N := 10) hx hb hts hiX7 hown hK hP 0 rfl rfl 0 (by decide) (hts (.fieldLink RX7 12 "MadeItSo" "drawing" "LMadeItSo$Drawing;") (by decide +kernel)) (fun _ h9 => h9) rfl dX7_hasRow_1 ?_
  refine lv_iload_n hx hb dX7_hasRow_4 rfl (lv_at hl 1 rfl) ?_
  have hPc := hP.sub (ws' := [(dr, .inr (2, [.ref dp, .ref dc, .int 0]))]) [1] rfl
  refine va_calli (va_runV (As := [.int p0]) (rest := []) ⟨hx, hb, hml, hown, hts⟩ (mz_Drawing_has l dC dI cI cJ cZ dr dp dc p0 s.heap ) (cwV 1 hts gX7_hasRow_X2_has rfl rfl rfl (by decide +kernel) ⟨Nat.le_of_ble_eq_true rfl, Nat.le_of_ble_eq_true rfl⟩) ⟨fun a U g mk q => mz_blP q, va_recv hK hPc (ci := 2) (q0 := 0) rfl rfl, fun U hU hW => ⟨rfl, hU, hPc, va_K.moved hW.alike hK, mz_nw hW hN⟩⟩ rfl rfl hl.1 rfl (lv_room (Nat.le_of_ble_eq_true rfl)) dX7_hasRow_5 ⟨Nat.le_of_ble_eq_true rfl, Nat.le_of_ble_eq_true rfl⟩) hS (fun q _ h => h.elim) (fun q h => h.elim) (fun r u t H1 locs ht hvm hw hB hz1 hk1 hS => ?_)
  have hE : s.heap = H1 := hB.symm.trans ht
  subst hE
  obtain rfl : r = 0 := hw
  refine lv_if_eq (tgt := 34) hx hb dX7_hasRow_8 (by decide) (fun _ => ?_) (fun c_8 => absurd (by decide +kernel) c_8)
  refine lv_iconst (v := 0) hx hb dX7_hasRow_34 (by decide +kernel) ?_
  refine W.widen (k := 0) (n := 0) (Nat.le_of_ble_eq_true rfl) (Nat.le_of_ble_eq_true rfl) ?_
  exact W.zret (v := 0) hx hb hr (mz_nz (by decide +kernel)) (fun t ht hW => ⟨⟨0, (), rfl, rfl, ht⟩, hS.F ht⟩) hS.2.2 dX7_hasRow_35
set_option maxHeartbeats 1000000 in
set_option maxRecDepth 100000 in
theorem mz_areTwo (l : Launch) (dC : Nat → ClassId) (dI : Nat → Nat → Nat) (cI cJ cZ : ClassId) (mx : Nat) (dr : Nat) (th : Nat) (bk : Nat) (wt : Nat) (tt : Nat) (lh : Nat) (la : Nat) (dp : Nat) (dc : Nat) (p0 : Int32) (p1 : Int32) (Hq : Heap)  : Met l yX7_areTwo wsX7_areTwo ({ frames := 1, cells := 0, slots := 0, locals := 21 }) (va_Pc [.ref mx, .int p0, .int p1] (fun U => U.heap = Hq ∧ va_P (dC, dI) vwCl [(mx, .inr (7, [.ref dr, .ref th, .ref bk, .ref wt, .ref tt, .ref lh, .ref la, .int 0, .long 0, .long 1])), (dr, .inr (2, [.ref dp, .ref dc, .int 0]))] Hq ∧ va_K (dC, dI) vwCl [(cI, FieldType.int), (cJ, FieldType.long), (cZ, FieldType.boolean)] U ∧ mz_N U)) (va_Qi (fun (r : Int32) (_ : Unit) => r = 0) (fun _ t => t.heap = Hq) (fun _ : Nat => False)) 0 0 (fun _ : Nat => False) := by
  refine Met.ofW (cc := cX7_areTwo) (maxL := 3) (ret := (some .boolean)) (by decide) rfl ?_
  intro p e s m args below meth c s₁ B hml hv
  obtain ⟨rfl, hH, hP, hK, hN⟩ := hv
  subst hH
  have hx := B.exec
  have hb := B.bytes
  have hr := B.returns
  have hts := atoms_spec (ws := wsX7_areTwo) B.pre
  have hown : s.vm.findClass RX7 = some m.cls := findClass_of_methodNamed B.named
  have hlocks := B.notSynchronized
  have hS : va_S (fun _ : Nat => False) s.heap s.heap [] := va_S.rf
  have hiX7 : ∀ w ∈ u_ws RX7 TX7 10, w ∈ wsX7_areTwo := by decide +kernel
  have hl := lv_entry ([.ref mx, .int p0, .int p1]) (n := 3) (Nat.le_of_ble_eq_true rfl)
  rw [lg_entry_eq]
  generalize (lg_sl ([.ref mx, .int p0, .int p1]) ++ List.replicate (3 - (lg_sl ([.ref mx, .int p0, .int p1])).length) Slot.unset).toArray = ls at hl ⊢
  have hl : lv_has ls 3 [(0, .ref mx), (1, .int p0), (2, .int p1)] := hl
  refine lv_aload_n hx hb dX7_areTwo_0 rfl (lv_at hl 0 rfl) ?_
  refine va_get (D := (dC, dI)) (ci := 7) (v := .ref dr) (C := RX7) (T := TX7) (N := 10) hx hb hts hiX7 hown hK hP 0 rfl rfl 0 (by decide) (hts (.fieldLink RX7 12 "MadeItSo" "drawing" "LMadeItSo$Drawing;") (by decide +kernel)) (fun _ h9 => h9) rfl dX7_areTwo_1 ?_
  refine lv_iload_n hx hb dX7_areTwo_4 rfl (lv_at hl 1 rfl) ?_
  have hPc := hP.sub (ws' := [(dr, .inr (2, [.ref dp, .ref dc, .int 0]))]) [1] rfl
  refine va_calli (va_runV (As := [.int p0]) (rest := []) ⟨hx, hb, hml, hown, hts⟩ (mz_Drawing_has l dC dI cI cJ cZ dr dp dc p0 s.heap ) (cwV 1 hts gX7_areTwo_X2_has rfl rfl rfl (by decide +kernel) ⟨Nat.le_of_ble_eq_true rfl, Nat.le_of_ble_eq_true rfl⟩) ⟨fun a U g mk q => mz_blP q, va_recv hK hPc (ci := 2) (q0 := 0) rfl rfl, fun U hU hW => ⟨rfl, hU, hPc, va_K.moved hW.alike hK, mz_nw hW hN⟩⟩ rfl rfl hl.1 rfl (lv_room (Nat.le_of_ble_eq_true rfl)) dX7_areTwo_5 ⟨Nat.le_of_ble_eq_true rfl, Nat.le_of_ble_eq_true rfl⟩) hS (fun q _ h => h.elim) (fun q h => h.elim) (fun r u t H1 locs ht hvm hw hB hz1 hk1 hS => ?_)
  have hE : s.heap = H1 := hB.symm.trans ht
  subst hE
  obtain rfl : r = 0 := hw
  refine lv_if_eq (tgt := 31) hx hb dX7_areTwo_8 (by decide) (fun _ => ?_) (fun c_8 => absurd (by decide +kernel) c_8)
  refine lv_iconst (v := 0) hx hb dX7_areTwo_31 (by decide +kernel) ?_
  refine W.widen (k := 0) (n := 0) (Nat.le_of_ble_eq_true rfl) (Nat.le_of_ble_eq_true rfl) ?_
  exact W.zret (v := 0) hx hb hr (mz_nz (by decide +kernel)) (fun t ht hW => ⟨⟨0, (), rfl, rfl, ht⟩, hS.F ht⟩) hS.2.2 dX7_areTwo_32
set_option maxHeartbeats 1000000 in
set_option maxRecDepth 100000 in
theorem mz_isHeap_0 (l : Launch) (dC : Nat → ClassId) (dI : Nat → Nat → Nat) (cI cJ cZ : ClassId) (mx : Nat) (dr : Nat) (th : Nat) (bk : Nat) (wt : Nat) (tt : Nat) (lh : Nat) (la : Nat) (dp : Nat) (dc : Nat) (la1 : Int64) (lb1 : Int64) (Hq : Heap)  : Met l yX7_isHeap wsX7_isHeap ({ frames := 1, cells := 0, slots := 0, locals := 20 }) (va_Pc [.ref mx, .int 0] (fun U => U.heap = Hq ∧ va_P (dC, dI) vwCl [(mx, .inr (7, [.ref dr, .ref th, .ref bk, .ref wt, .ref tt, .ref lh, .ref la, .int 0, .long la1, .long lb1])), (dr, .inr (2, [.ref dp, .ref dc, .int 0]))] Hq ∧ va_K (dC, dI) vwCl [(cI, FieldType.int), (cJ, FieldType.long), (cZ, FieldType.boolean)] U ∧ mz_N U)) (va_Qi (fun (r : Int32) (_ : Unit) => r = 1) (fun _ t => t.heap = Hq) (fun _ : Nat => False)) 0 0 (fun _ : Nat => False) := by
  refine Met.ofW (cc := cX7_isHeap) (maxL := 2) (ret := (some .boolean)) (by decide) rfl ?_
  intro p e s m args below meth c s₁ B hml hv
  obtain ⟨rfl, hH, hP, hK, hN⟩ := hv
  subst hH
  have hx := B.exec
  have hb := B.bytes
  have hr := B.returns
  have hts := atoms_spec (ws := wsX7_isHeap) B.pre
  have hown : s.vm.findClass RX7 = some m.cls := findClass_of_methodNamed B.named
  have hlocks := B.notSynchronized
  have hS : va_S (fun _ : Nat => False) s.heap s.heap [] := va_S.rf
  have hiX7 : ∀ w ∈ u_ws RX7 TX7 10, w ∈ wsX7_isHeap := by decide +kernel
  have hl := lv_entry ([.ref mx, .int 0]) (n := 2) (Nat.le_of_ble_eq_true rfl)
  rw [lg_entry_eq]
  generalize (lg_sl ([.ref mx, .int 0]) ++ List.replicate (2 - (lg_sl ([.ref mx, .int 0])).length) Slot.unset).toArray = ls at hl ⊢
  have hl : lv_has ls 2 [(0, .ref mx), (1, .int 0)] := hl
  refine lv_iload_n hx hb dX7_isHeap_0 rfl (lv_at hl 1 rfl) ?_
  refine lv_aload_n hx hb dX7_isHeap_1 rfl (lv_at hl 0 rfl) ?_
  refine va_get (D := (dC, dI)) (ci := 7) (v := .ref dr) (C := RX7) (T := TX7) (N := 10) hx hb hts hiX7 hown hK hP 0 rfl rfl 0 (by decide) (hts (.fieldLink RX7 12 "MadeItSo" "drawing" "LMadeItSo$Drawing;") (by decide +kernel)) (fun _ h9 => h9) rfl dX7_isHeap_2 ?_
  have hPc := hP.sub (ws' := [(dr, .inr (2, [.ref dp, .ref dc, .int 0]))]) [1] rfl
  refine va_calli (va_runV (As := []) (rest := [.int 0]) ⟨hx, hb, hml, hown, hts⟩ (mz_Drawing_everything l dC dI cI cJ cZ dr dp dc s.heap ) (cwV 0 hts gX7_isHeap_X2_everything rfl rfl rfl (by decide +kernel) ⟨Nat.le_of_ble_eq_true rfl, Nat.le_of_ble_eq_true rfl⟩) ⟨fun a U g mk q => mz_blP q, va_recv hK hPc (ci := 2) (q0 := 0) rfl rfl, fun U hU hW => ⟨rfl, hU, hPc, va_K.moved hW.alike hK, mz_nw hW hN⟩⟩ rfl rfl hl.1 rfl (lv_room (Nat.le_of_ble_eq_true rfl)) dX7_isHeap_5 ⟨Nat.le_of_ble_eq_true rfl, Nat.le_of_ble_eq_true rfl⟩) hS (fun q _ h => h.elim) (fun q h => h.elim) (fun r u t H1 locs ht hvm hw hB hz1 hk1 hS => ?_)
  have hE : s.heap = H1 := hB.symm.trans ht
  subst hE
  obtain rfl : r = 0 := hw
  refine lv_iconst (v := (-1)) hx hb dX7_isHeap_8 (by decide +kernel) ?_
  refine lv_ixor hx hb dX7_isHeap_9 ?_
  refine mz_ti (y := (-1)) (by decide +kernel) ?_
  refine lv_iand hx hb dX7_isHeap_10 ?_
  refine mz_ti (y := 0) (by decide +kernel) ?_
  refine lv_if_ne (tgt := 18) hx hb dX7_isHeap_11 (by decide) (fun c_11 => absurd (by decide +kernel) c_11) (fun _ => ?_)
  refine lv_iconst (v := 1) hx hb dX7_isHeap_14 (by decide +kernel) ?_
  refine lv_goto (tgt := 19) hx hb dX7_isHeap_15 (by decide) ?_
  refine W.widen (k := 0) (n := 0) (Nat.le_of_ble_eq_true rfl) (Nat.le_of_ble_eq_true rfl) ?_
  exact W.zret (v := 1) hx hb hr (mz_nz (by decide +kernel)) (fun t ht hW => ⟨⟨1, (), rfl, rfl, ht⟩, hS.F ht⟩) hS.2.2 dX7_isHeap_19
set_option maxHeartbeats 1000000 in
set_option maxRecDepth 100000 in
theorem mz_isHeap_n (l : Launch) (dC : Nat → ClassId) (dI : Nat → Nat → Nat) (cI cJ cZ : ClassId) (mx : Nat) (dr : Nat) (th : Nat) (bk : Nat) (wt : Nat) (tt : Nat) (lh : Nat) (la : Nat) (dp : Nat) (dc : Nat) (la1 : Int64) (lb1 : Int64) (p0 : Int32) (Hq : Heap) (hne : ¬ p0 = 0) : Met l yX7_isHeap wsX7_isHeap ({ frames := 1, cells := 0, slots := 0, locals := 20 }) (va_Pc [.ref mx, .int p0] (fun U => U.heap = Hq ∧ va_P (dC, dI) vwCl [(mx, .inr (7, [.ref dr, .ref th, .ref bk, .ref wt, .ref tt, .ref lh, .ref la, .int 0, .long la1, .long lb1])), (dr, .inr (2, [.ref dp, .ref dc, .int 0]))] Hq ∧ va_K (dC, dI) vwCl [(cI, FieldType.int), (cJ, FieldType.long), (cZ, FieldType.boolean)] U ∧ mz_N U)) (va_Qi (fun (r : Int32) (_ : Unit) => r = 0) (fun _ t => t.heap = Hq) (fun _ : Nat => False)) 0 0 (fun _ : Nat => False) := by
  refine Met.ofW (cc := cX7_isHeap) (maxL := 2) (ret := (some .boolean)) (by decide) rfl ?_
  intro p e s m args below meth c s₁ B hml hv
  obtain ⟨rfl, hH, hP, hK, hN⟩ := hv
  subst hH
  have hx := B.exec
  have hb := B.bytes
  have hr := B.returns
  have hts := atoms_spec (ws := wsX7_isHeap) B.pre
  have hown : s.vm.findClass RX7 = some m.cls := findClass_of_methodNamed B.named
  have hlocks := B.notSynchronized
  have hS : va_S (fun _ : Nat => False) s.heap s.heap [] := va_S.rf
  have hiX7 : ∀ w ∈ u_ws RX7 TX7 10, w ∈ wsX7_isHeap := by decide +kernel
  have hl := lv_entry ([.ref mx, .int p0]) (n := 2) (Nat.le_of_ble_eq_true rfl)
  rw [lg_entry_eq]
  generalize (lg_sl ([.ref mx, .int p0]) ++ List.replicate (2 - (lg_sl ([.ref mx, .int p0])).length) Slot.unset).toArray = ls at hl ⊢
  have hl : lv_has ls 2 [(0, .ref mx), (1, .int p0)] := hl
  refine lv_iload_n hx hb dX7_isHeap_0 rfl (lv_at hl 1 rfl) ?_
  refine lv_aload_n hx hb dX7_isHeap_1 rfl (lv_at hl 0 rfl) ?_
  refine va_get (D := (dC, dI)) (ci := 7) (v := .ref dr) (C := RX7) (T := TX7) (N := 10) hx hb hts hiX7 hown hK hP 0 rfl rfl 0 (by decide) (hts (.fieldLink RX7 12 "MadeItSo" "drawing" "LMadeItSo$Drawing;") (by decide +kernel)) (fun _ h9 => h9) rfl dX7_isHeap_2 ?_
  have hPc := hP.sub (ws' := [(dr, .inr (2, [.ref dp, .ref dc, .int 0]))]) [1] rfl
  refine va_calli (va_runV (As := []) (rest := [.int p0]) ⟨hx, hb, hml, hown, hts⟩ (mz_Drawing_everything l dC dI cI cJ cZ dr dp dc s.heap ) (cwV 0 hts gX7_isHeap_X2_everything rfl rfl rfl (by decide +kernel) ⟨Nat.le_of_ble_eq_true rfl, Nat.le_of_ble_eq_true rfl⟩) ⟨fun a U g mk q => mz_blP q, va_recv hK hPc (ci := 2) (q0 := 0) rfl rfl, fun U hU hW => ⟨rfl, hU, hPc, va_K.moved hW.alike hK, mz_nw hW hN⟩⟩ rfl rfl hl.1 rfl (lv_room (Nat.le_of_ble_eq_true rfl)) dX7_isHeap_5 ⟨Nat.le_of_ble_eq_true rfl, Nat.le_of_ble_eq_true rfl⟩) hS (fun q _ h => h.elim) (fun q h => h.elim) (fun r u t H1 locs ht hvm hw hB hz1 hk1 hS => ?_)
  have hE : s.heap = H1 := hB.symm.trans ht
  subst hE
  obtain rfl : r = 0 := hw
  refine lv_iconst (v := (-1)) hx hb dX7_isHeap_8 (by decide +kernel) ?_
  refine lv_ixor hx hb dX7_isHeap_9 ?_
  refine mz_ti (y := (-1)) (by decide +kernel) ?_
  refine lv_iand hx hb dX7_isHeap_10 ?_
  refine mz_ti (y := p0) (mz_am _) ?_
  refine lv_if_ne (tgt := 18) hx hb dX7_isHeap_11 (by decide) (fun _ => ?_) (fun c_11 => absurd c_11 hne)
  refine lv_iconst (v := 0) hx hb dX7_isHeap_18 (by decide +kernel) ?_
  refine W.widen (k := 0) (n := 0) (Nat.le_of_ble_eq_true rfl) (Nat.le_of_ble_eq_true rfl) ?_
  exact W.zret (v := 0) hx hb hr (mz_nz (by decide +kernel)) (fun t ht hW => ⟨⟨0, (), rfl, rfl, ht⟩, hS.F ht⟩) hS.2.2 dX7_isHeap_19
set_option maxHeartbeats 1000000 in
set_option maxRecDepth 100000 in
theorem mz_isSetting_0 (l : Launch) (dC : Nat → ClassId) (dI : Nat → Nat → Nat) (cI cJ cZ : ClassId) (mx : Nat) (dr : Nat) (th : Nat) (bk : Nat) (wt : Nat) (tt : Nat) (lh : Nat) (la : Nat) (dp : Nat) (dc : Nat) (la1 : Int64) (lb1 : Int64) (Hq : Heap)  : Met l yX7_isSetting wsX7_isSetting ({ frames := 2, cells := 0, slots := 0, locals := 41 }) (va_Pc [.ref mx, .int 0] (fun U => U.heap = Hq ∧ va_P (dC, dI) vwCl [(mx, .inr (7, [.ref dr, .ref th, .ref bk, .ref wt, .ref tt, .ref lh, .ref la, .int 0, .long la1, .long lb1])), (dr, .inr (2, [.ref dp, .ref dc, .int 0]))] Hq ∧ va_K (dC, dI) vwCl [(cI, FieldType.int), (cJ, FieldType.long), (cZ, FieldType.boolean)] U ∧ mz_N U)) (va_Qi (fun (r : Int32) (_ : Unit) => r = 1) (fun _ t => t.heap = Hq) (fun _ : Nat => False)) 0 0 (fun _ : Nat => False) := by
  refine Met.ofW (cc := cX7_isSetting) (maxL := 2) (ret := (some .boolean)) (by decide) rfl ?_
  intro p e s m args below meth c s₁ B hml hv
  obtain ⟨rfl, hH, hP, hK, hN⟩ := hv
  subst hH
  have hx := B.exec
  have hb := B.bytes
  have hr := B.returns
  have hts := atoms_spec (ws := wsX7_isSetting) B.pre
  have hown : s.vm.findClass RX7 = some m.cls := findClass_of_methodNamed B.named
  have hlocks := B.notSynchronized
  have hS : va_S (fun _ : Nat => False) s.heap s.heap [] := va_S.rf
  have hl := lv_entry ([.ref mx, .int 0]) (n := 2) (Nat.le_of_ble_eq_true rfl)
  rw [lg_entry_eq]
  generalize (lg_sl ([.ref mx, .int 0]) ++ List.replicate (2 - (lg_sl ([.ref mx, .int 0])).length) Slot.unset).toArray = ls at hl ⊢
  have hl : lv_has ls 2 [(0, .ref mx), (1, .int 0)] := hl
  refine lv_iload_n hx hb dX7_isSetting_0 rfl (lv_at hl 1 rfl) ?_
  refine lv_bipush (v := 16) hx hb dX7_isSetting_1 (by decide +kernel) ?_
  refine lv_iushr (v := 0) hx hb dX7_isSetting_3 (by decide +kernel) ?_
  refine lv_if_ne (tgt := 36) hx hb dX7_isSetting_4 (by decide) (fun c_4 => absurd (by decide +kernel) c_4) (fun _ => ?_)
  refine lv_aload_n hx hb dX7_isSetting_7 rfl (lv_at hl 0 rfl) ?_
  refine lv_iload_n hx hb dX7_isSetting_8 rfl (lv_at hl 1 rfl) ?_
  have hPc := hP.sub (ws' := []) [] rfl
  refine va_calli (va_runS (As := [.int 0]) (rest := [.ref mx]) ⟨hx, hb, hml, hown, hts⟩ (mz_heapOf l dC dI cI cJ cZ 0 s.heap ) (va_cwS 1 hts gX7_isSetting_X7_heapOf rfl rfl rfl (by decide +kernel) ⟨Nat.le_of_ble_eq_true rfl, Nat.le_of_ble_eq_true rfl⟩) ⟨fun a U g mk q => mz_blP q, fun U hU hW => ⟨rfl, hU, hPc, va_K.moved hW.alike hK, mz_nw hW hN⟩⟩ rfl rfl hl.1 rfl (lv_room (Nat.le_of_ble_eq_true rfl)) dX7_isSetting_9 ⟨Nat.le_of_ble_eq_true rfl, Nat.le_of_ble_eq_true rfl⟩) hS (fun q _ h => h.elim) (fun q h => h.elim) (fun r u t H1 locs ht hvm hw hB hz1 hk1 hS => ?_)
  have hE : s.heap = H1 := hB.symm.trans ht
  subst hE
  obtain rfl : r = ((0 : Int32) &&& 255) := hw
  refine mz_ti (y := 0) (by decide +kernel) ?_
  have hPc := hP.sub (ws' := [(mx, .inr (7, [.ref dr, .ref th, .ref bk, .ref wt, .ref tt, .ref lh, .ref la, .int 0, .long la1, .long lb1])), (dr, .inr (2, [.ref dp, .ref dc, .int 0]))]) [0, 1] rfl
  refine va_calli (va_runV (As := [.int 0]) (rest := []) ⟨hx, hb, hml, hown, hts⟩ (mz_isHeap_0 l dC dI cI cJ cZ mx dr th bk wt tt lh la dp dc la1 lb1 s.heap ) (cwV 1 hts gX7_isSetting_X7_isHeap rfl rfl rfl (by decide +kernel) ⟨Nat.le_of_ble_eq_true rfl, Nat.le_of_ble_eq_true rfl⟩) ⟨fun a U g mk q => mz_blP q, va_recv hK hPc (ci := 7) (q0 := 0) rfl rfl, fun U hU hW => ⟨rfl, hU, hPc, va_K.moved hW.alike hK, mz_nw hW hN⟩⟩ rfl rfl hl.1 rfl (lv_room (Nat.le_of_ble_eq_true rfl)) dX7_isSetting_12 ⟨Nat.le_of_ble_eq_true rfl, Nat.le_of_ble_eq_true rfl⟩) hS (fun q _ h => h.elim) (fun q h => h.elim) (fun r u t H1 locs ht hvm hw hB hz1 hk1 hS => ?_)
  have hE : s.heap = H1 := hB.symm.trans ht
  subst hE
  obtain rfl : r = 1 := hw
  refine lv_if_eq (tgt := 36) hx hb dX7_isSetting_15 (by decide) (fun c_15 => absurd c_15 (by decide +kernel)) (fun _ => ?_)
  refine lv_iload_n hx hb dX7_isSetting_18 rfl (lv_at hl 1 rfl) ?_
  have hPc := hP.sub (ws' := []) [] rfl
  refine va_calli (va_runS (As := [.int 0]) (rest := []) ⟨hx, hb, hml, hown, hts⟩ (mz_onesOf l dC dI cI cJ cZ 0 s.heap ) (va_cwS 1 hts gX7_isSetting_X7_onesOf rfl rfl rfl (by decide +kernel) ⟨Nat.le_of_ble_eq_true rfl, Nat.le_of_ble_eq_true rfl⟩) ⟨fun a U g mk q => mz_blP q, fun U hU hW => ⟨rfl, hU, hPc, va_K.moved hW.alike hK, mz_nw hW hN⟩⟩ rfl rfl hl.1 rfl (lv_room (Nat.le_of_ble_eq_true rfl)) dX7_isSetting_19 ⟨Nat.le_of_ble_eq_true rfl, Nat.le_of_ble_eq_true rfl⟩) hS (fun q _ h => h.elim) (fun q h => h.elim) (fun r u t H1 locs ht hvm hw hB hz1 hk1 hS => ?_)
  have hE : s.heap = H1 := hB.symm.trans ht
  subst hE
  obtain rfl : r = (((0 : Int32) >>> (8 &&& 31)) &&& 255) := hw
  refine mz_ti (y := 0) (by decide +kernel) ?_
  refine lv_iload_n hx hb dX7_isSetting_22 rfl (lv_at hl 1 rfl) ?_
  have hPc := hP.sub (ws' := []) [] rfl
  refine va_calli (va_runS (As := [.int 0]) (rest := [.int 0]) ⟨hx, hb, hml, hown, hts⟩ (mz_heapOf l dC dI cI cJ cZ 0 s.heap ) (va_cwS 1 hts gX7_isSetting_X7_heapOf rfl rfl rfl (by decide +kernel) ⟨Nat.le_of_ble_eq_true rfl, Nat.le_of_ble_eq_true rfl⟩) ⟨fun a U g mk q => mz_blP q, fun U hU hW => ⟨rfl, hU, hPc, va_K.moved hW.alike hK, mz_nw hW hN⟩⟩ rfl rfl hl.1 rfl (lv_room (Nat.le_of_ble_eq_true rfl)) dX7_isSetting_23 ⟨Nat.le_of_ble_eq_true rfl, Nat.le_of_ble_eq_true rfl⟩) hS (fun q _ h => h.elim) (fun q h => h.elim) (fun r u t H1 locs ht hvm hw hB hz1 hk1 hS => ?_)
  have hE : s.heap = H1 := hB.symm.trans ht
  subst hE
  obtain rfl : r = ((0 : Int32) &&& 255) := hw
  refine mz_ti (y := 0) (by decide +kernel) ?_
  refine lv_iconst (v := (-1)) hx hb dX7_isSetting_26 (by decide +kernel) ?_
  refine lv_ixor hx hb dX7_isSetting_27 ?_
  refine mz_ti (y := (-1)) (by decide +kernel) ?_
  refine lv_iand hx hb dX7_isSetting_28 ?_
  refine mz_ti (y := 0) (by decide +kernel) ?_
  refine lv_if_ne (tgt := 36) hx hb dX7_isSetting_29 (by decide) (fun c_29 => absurd (by decide +kernel) c_29) (fun _ => ?_)
  refine lv_iconst (v := 1) hx hb dX7_isSetting_32 (by decide +kernel) ?_
  refine lv_goto (tgt := 37) hx hb dX7_isSetting_33 (by decide) ?_
  refine W.widen (k := 0) (n := 0) (Nat.le_of_ble_eq_true rfl) (Nat.le_of_ble_eq_true rfl) ?_
  exact W.zret (v := 1) hx hb hr (mz_nz (by decide +kernel)) (fun t ht hW => ⟨⟨1, (), rfl, rfl, ht⟩, hS.F ht⟩) hS.2.2 dX7_isSetting_37
set_option maxHeartbeats 1000000 in
set_option maxRecDepth 100000 in
theorem mz_isSetting_n (l : Launch) (dC : Nat → ClassId) (dI : Nat → Nat → Nat) (cI cJ cZ : ClassId) (mx : Nat) (dr : Nat) (th : Nat) (bk : Nat) (wt : Nat) (tt : Nat) (lh : Nat) (la : Nat) (dp : Nat) (dc : Nat) (la1 : Int64) (lb1 : Int64) (p0 : Int32) (Hq : Heap) (hne : ¬ p0 = 0) : Met l yX7_isSetting wsX7_isSetting ({ frames := 2, cells := 0, slots := 0, locals := 41 }) (va_Pc [.ref mx, .int p0] (fun U => U.heap = Hq ∧ va_P (dC, dI) vwCl [(mx, .inr (7, [.ref dr, .ref th, .ref bk, .ref wt, .ref tt, .ref lh, .ref la, .int 0, .long la1, .long lb1])), (dr, .inr (2, [.ref dp, .ref dc, .int 0]))] Hq ∧ va_K (dC, dI) vwCl [(cI, FieldType.int), (cJ, FieldType.long), (cZ, FieldType.boolean)] U ∧ mz_N U)) (va_Qi (fun (r : Int32) (_ : Unit) => r = 0) (fun _ t => t.heap = Hq) (fun _ : Nat => False)) 0 0 (fun _ : Nat => False) := by
  refine Met.ofW (cc := cX7_isSetting) (maxL := 2) (ret := (some .boolean)) (by decide) rfl ?_
  intro p e s m args below meth c s₁ B hml hv
  obtain ⟨rfl, hH, hP, hK, hN⟩ := hv
  subst hH
  have hx := B.exec
  have hb := B.bytes
  have hr := B.returns
  have hts := atoms_spec (ws := wsX7_isSetting) B.pre
  have hown : s.vm.findClass RX7 = some m.cls := findClass_of_methodNamed B.named
  have hlocks := B.notSynchronized
  have hS : va_S (fun _ : Nat => False) s.heap s.heap [] := va_S.rf
  have hl := lv_entry ([.ref mx, .int p0]) (n := 2) (Nat.le_of_ble_eq_true rfl)
  rw [lg_entry_eq]
  generalize (lg_sl ([.ref mx, .int p0]) ++ List.replicate (2 - (lg_sl ([.ref mx, .int p0])).length) Slot.unset).toArray = ls at hl ⊢
  have hl : lv_has ls 2 [(0, .ref mx), (1, .int p0)] := hl
  refine lv_iload_n hx hb dX7_isSetting_0 rfl (lv_at hl 1 rfl) ?_
  refine lv_bipush (v := 16) hx hb dX7_isSetting_1 (by decide +kernel) ?_
  refine lv_iushr hx hb dX7_isSetting_3 rfl ?_
  refine lv_if_ne (tgt := 36) hx hb dX7_isSetting_4 (by decide) (fun c_4 => ?_) (fun c_4 => ?_)
  · skip
    refine lv_iconst (v := 0) hx hb dX7_isSetting_36 (by decide +kernel) ?_
    refine W.widen (k := 0) (n := 0) (Nat.le_of_ble_eq_true rfl) (Nat.le_of_ble_eq_true rfl) ?_
    exact W.zret (v := 0) hx hb hr (mz_nz (by decide +kernel)) (fun t ht hW => ⟨⟨0, (), rfl, rfl, ht⟩, hS.F ht⟩) hS.2.2 dX7_isSetting_37
  · skip
    refine lv_aload_n hx hb dX7_isSetting_7 rfl (lv_at hl 0 rfl) ?_
    refine lv_iload_n hx hb dX7_isSetting_8 rfl (lv_at hl 1 rfl) ?_
    have hPc := hP.sub (ws' := []) [] rfl
    refine va_calli (va_runS (As := [.int p0]) (rest := [.ref mx]) ⟨hx, hb, hml, hown, hts⟩ (mz_heapOf l dC dI cI cJ cZ p0 s.heap ) (va_cwS 1 hts gX7_isSetting_X7_heapOf rfl rfl rfl (by decide +kernel) ⟨Nat.le_of_ble_eq_true rfl, Nat.le_of_ble_eq_true rfl⟩) ⟨fun a U g mk q => mz_blP q, fun U hU hW => ⟨rfl, hU, hPc, va_K.moved hW.alike hK, mz_nw hW hN⟩⟩ rfl rfl hl.1 rfl (lv_room (Nat.le_of_ble_eq_true rfl)) dX7_isSetting_9 ⟨Nat.le_of_ble_eq_true rfl, Nat.le_of_ble_eq_true rfl⟩) hS (fun q _ h => h.elim) (fun q h => h.elim) (fun r u t H1 locs ht hvm hw hB hz1 hk1 hS => ?_)
    have hE : s.heap = H1 := hB.symm.trans ht
    subst hE
    obtain rfl : r = (p0 &&& 255) := hw
    by_cases hz_12 : (p0 &&& 255) = 0
    · refine mz_ti (y := 0) hz_12 ?_
      have hPc := hP.sub (ws' := [(mx, .inr (7, [.ref dr, .ref th, .ref bk, .ref wt, .ref tt, .ref lh, .ref la, .int 0, .long la1, .long lb1])), (dr, .inr (2, [.ref dp, .ref dc, .int 0]))]) [0, 1] rfl
      refine va_calli (va_runV (As := [.int 0]) (rest := []) ⟨hx, hb, hml, hown, hts⟩ (mz_isHeap_0 l dC dI cI cJ cZ mx dr th bk wt tt lh la dp dc la1 lb1 s.heap ) (cwV 1 hts gX7_isSetting_X7_isHeap rfl rfl rfl (by decide +kernel) ⟨Nat.le_of_ble_eq_true rfl, Nat.le_of_ble_eq_true rfl⟩) ⟨fun a U g mk q => mz_blP q, va_recv hK hPc (ci := 7) (q0 := 0) rfl rfl, fun U hU hW => ⟨rfl, hU, hPc, va_K.moved hW.alike hK, mz_nw hW hN⟩⟩ rfl rfl hl.1 rfl (lv_room (Nat.le_of_ble_eq_true rfl)) dX7_isSetting_12 ⟨Nat.le_of_ble_eq_true rfl, Nat.le_of_ble_eq_true rfl⟩) hS (fun q _ h => h.elim) (fun q h => h.elim) (fun r u t H1 locs ht hvm hw hB hz1 hk1 hS => ?_)
      have hE : s.heap = H1 := hB.symm.trans ht
      subst hE
      obtain rfl : r = 1 := hw
      refine lv_if_eq (tgt := 36) hx hb dX7_isSetting_15 (by decide) (fun c_15 => absurd c_15 (by decide +kernel)) (fun _ => ?_)
      refine lv_iload_n hx hb dX7_isSetting_18 rfl (lv_at hl 1 rfl) ?_
      have hPc := hP.sub (ws' := []) [] rfl
      refine va_calli (va_runS (As := [.int p0]) (rest := []) ⟨hx, hb, hml, hown, hts⟩ (mz_onesOf l dC dI cI cJ cZ p0 s.heap ) (va_cwS 1 hts gX7_isSetting_X7_onesOf rfl rfl rfl (by decide +kernel) ⟨Nat.le_of_ble_eq_true rfl, Nat.le_of_ble_eq_true rfl⟩) ⟨fun a U g mk q => mz_blP q, fun U hU hW => ⟨rfl, hU, hPc, va_K.moved hW.alike hK, mz_nw hW hN⟩⟩ rfl rfl hl.1 rfl (lv_room (Nat.le_of_ble_eq_true rfl)) dX7_isSetting_19 ⟨Nat.le_of_ble_eq_true rfl, Nat.le_of_ble_eq_true rfl⟩) hS (fun q _ h => h.elim) (fun q h => h.elim) (fun r u t H1 locs ht hvm hw hB hz1 hk1 hS => ?_)
      have hE : s.heap = H1 := hB.symm.trans ht
      subst hE
      obtain rfl : r = ((p0 >>> (8 &&& 31)) &&& 255) := hw
      refine lv_iload_n hx hb dX7_isSetting_22 rfl (lv_at hl 1 rfl) ?_
      have hPc := hP.sub (ws' := []) [] rfl
      refine va_calli (va_runS (As := [.int p0]) (rest := [.int ((p0 >>> (8 &&& 31)) &&& 255)]) ⟨hx, hb, hml, hown, hts⟩ (mz_heapOf l dC dI cI cJ cZ p0 s.heap ) (va_cwS 1 hts gX7_isSetting_X7_heapOf rfl rfl rfl (by decide +kernel) ⟨Nat.le_of_ble_eq_true rfl, Nat.le_of_ble_eq_true rfl⟩) ⟨fun a U g mk q => mz_blP q, fun U hU hW => ⟨rfl, hU, hPc, va_K.moved hW.alike hK, mz_nw hW hN⟩⟩ rfl rfl hl.1 rfl (lv_room (Nat.le_of_ble_eq_true rfl)) dX7_isSetting_23 ⟨Nat.le_of_ble_eq_true rfl, Nat.le_of_ble_eq_true rfl⟩) hS (fun q _ h => h.elim) (fun q h => h.elim) (fun r u t H1 locs ht hvm hw hB hz1 hk1 hS => ?_)
      have hE : s.heap = H1 := hB.symm.trans ht
      subst hE
      obtain rfl : r = (p0 &&& 255) := hw
      refine lv_iconst (v := (-1)) hx hb dX7_isSetting_26 (by decide +kernel) ?_
      refine lv_ixor hx hb dX7_isSetting_27 ?_
      refine lv_iand hx hb dX7_isSetting_28 ?_
      refine lv_if_ne (tgt := 36) hx hb dX7_isSetting_29 (by decide) (fun c_29 => ?_) (fun c_29 => ?_)
      · skip
        refine lv_iconst (v := 0) hx hb dX7_isSetting_36 (by decide +kernel) ?_
        refine W.widen (k := 0) (n := 0) (Nat.le_of_ble_eq_true rfl) (Nat.le_of_ble_eq_true rfl) ?_
        exact W.zret (v := 0) hx hb hr (mz_nz (by decide +kernel)) (fun t ht hW => ⟨⟨0, (), rfl, rfl, ht⟩, hS.F ht⟩) hS.2.2 dX7_isSetting_37
      · skip
        refine lv_iconst (v := 1) hx hb dX7_isSetting_32 (by decide +kernel) ?_
        refine lv_goto (tgt := 37) hx hb dX7_isSetting_33 (by decide) ?_
        refine W.widen (k := 0) (n := 0) (Nat.le_of_ble_eq_true rfl) (Nat.le_of_ble_eq_true rfl) ?_
        exact W.zret (v := 1) hx hb hr (mz_nz (by decide +kernel)) (fun t ht hW => ⟨⟨1, (), rfl, absurd (mz_set c_4 hz_12 c_29) hne, ht⟩, hS.F ht⟩) hS.2.2 dX7_isSetting_37
    · skip
      have hPc := hP.sub (ws' := [(mx, .inr (7, [.ref dr, .ref th, .ref bk, .ref wt, .ref tt, .ref lh, .ref la, .int 0, .long la1, .long lb1])), (dr, .inr (2, [.ref dp, .ref dc, .int 0]))]) [0, 1] rfl
      refine va_calli (va_runV (As := [.int (p0 &&& 255)]) (rest := []) ⟨hx, hb, hml, hown, hts⟩ (mz_isHeap_n l dC dI cI cJ cZ mx dr th bk wt tt lh la dp dc la1 lb1 (p0 &&& 255) s.heap hz_12) (cwV 1 hts gX7_isSetting_X7_isHeap rfl rfl rfl (by decide +kernel) ⟨Nat.le_of_ble_eq_true rfl, Nat.le_of_ble_eq_true rfl⟩) ⟨fun a U g mk q => mz_blP q, va_recv hK hPc (ci := 7) (q0 := 0) rfl rfl, fun U hU hW => ⟨rfl, hU, hPc, va_K.moved hW.alike hK, mz_nw hW hN⟩⟩ rfl rfl hl.1 rfl (lv_room (Nat.le_of_ble_eq_true rfl)) dX7_isSetting_12 ⟨Nat.le_of_ble_eq_true rfl, Nat.le_of_ble_eq_true rfl⟩) hS (fun q _ h => h.elim) (fun q h => h.elim) (fun r u t H1 locs ht hvm hw hB hz1 hk1 hS => ?_)
      have hE : s.heap = H1 := hB.symm.trans ht
      subst hE
      obtain rfl : r = 0 := hw
      refine lv_if_eq (tgt := 36) hx hb dX7_isSetting_15 (by decide) (fun _ => ?_) (fun c_15 => absurd (by decide +kernel) c_15)
      refine lv_iconst (v := 0) hx hb dX7_isSetting_36 (by decide +kernel) ?_
      refine W.widen (k := 0) (n := 0) (Nat.le_of_ble_eq_true rfl) (Nat.le_of_ble_eq_true rfl) ?_
      exact W.zret (v := 0) hx hb hr (mz_nz (by decide +kernel)) (fun t ht hW => ⟨⟨0, (), rfl, rfl, ht⟩, hS.F ht⟩) hS.2.2 dX7_isSetting_37
set_option maxHeartbeats 1000000 in
set_option maxRecDepth 100000 in
theorem mz_arrow (l : Launch) (dC : Nat → ClassId) (dI : Nat → Nat → Nat) (cI cJ cZ : ClassId) (mx : Nat) (dr : Nat) (th : Nat) (bk : Nat) (wt : Nat) (tt : Nat) (lh : Nat) (la : Nat) (dp : Nat) (dc : Nat) (p1 : Int32) (p2 : Int32) (Hq : Heap)  : Met l yX7_arrow wsX7_arrow ({ frames := 1, cells := 0, slots := 0, locals := 21 }) (va_Pc [.ref mx, .int p1, .int p2] (fun U => U.heap = Hq ∧ va_P (dC, dI) vwCl [(mx, .inr (7, [.ref dr, .ref th, .ref bk, .ref wt, .ref tt, .ref lh, .ref la, .int 0, .long 0, .long 1])), (dr, .inr (2, [.ref dp, .ref dc, .int 0]))] Hq ∧ va_K (dC, dI) vwCl [(cI, FieldType.int), (cJ, FieldType.long), (cZ, FieldType.boolean)] U ∧ mz_N U)) (va_Qi (fun (r : Int32) (_ : Unit) => r = 0) (fun _ t => t.heap = Hq) (fun _ : Nat => False)) 0 0 (fun _ : Nat => False) := by
  refine Met.ofW (cc := cX7_arrow) (maxL := 3) (ret := (some .boolean)) (by decide) rfl ?_
  intro p e s m args below meth c s₁ B hml hv
  obtain ⟨rfl, hH, hP, hK, hN⟩ := hv
  subst hH
  have hx := B.exec
  have hb := B.bytes
  have hr := B.returns
  have hts := atoms_spec (ws := wsX7_arrow) B.pre
  have hown : s.vm.findClass RX7 = some m.cls := findClass_of_methodNamed B.named
  have hlocks := B.notSynchronized
  have hS : va_S (fun _ : Nat => False) s.heap s.heap [] := va_S.rf
  have hiX7 : ∀ w ∈ u_ws RX7 TX7 10, w ∈ wsX7_arrow := by decide +kernel
  have hl := lv_entry ([.ref mx, .int p1, .int p2]) (n := 3) (Nat.le_of_ble_eq_true rfl)
  rw [lg_entry_eq]
  generalize (lg_sl ([.ref mx, .int p1, .int p2]) ++ List.replicate (3 - (lg_sl ([.ref mx, .int p1, .int p2])).length) Slot.unset).toArray = ls at hl ⊢
  have hl : lv_has ls 3 [(0, .ref mx), (1, .int p1), (2, .int p2)] := hl
  refine lv_aload_n hx hb dX7_arrow_0 rfl (lv_at hl 0 rfl) ?_
  refine va_get (D := (dC, dI)) (ci := 7) (v := .ref dr) (C := RX7) (T := TX7) (N := 10) hx hb hts hiX7 hown hK hP 0 rfl rfl 0 (by decide) (hts (.fieldLink RX7 12 "MadeItSo" "drawing" "LMadeItSo$Drawing;") (by decide +kernel)) (fun _ h9 => h9) rfl dX7_arrow_1 ?_
  refine lv_iload_n hx hb dX7_arrow_4 rfl (lv_at hl 1 rfl) ?_
  have hPc := hP.sub (ws' := [(dr, .inr (2, [.ref dp, .ref dc, .int 0]))]) [1] rfl
  refine va_calli (va_runV (As := [.int p1]) (rest := []) ⟨hx, hb, hml, hown, hts⟩ (mz_Drawing_has l dC dI cI cJ cZ dr dp dc p1 s.heap ) (cwV 1 hts gX7_arrow_X2_has rfl rfl rfl (by decide +kernel) ⟨Nat.le_of_ble_eq_true rfl, Nat.le_of_ble_eq_true rfl⟩) ⟨fun a U g mk q => mz_blP q, va_recv hK hPc (ci := 2) (q0 := 0) rfl rfl, fun U hU hW => ⟨rfl, hU, hPc, va_K.moved hW.alike hK, mz_nw hW hN⟩⟩ rfl rfl hl.1 rfl (lv_room (Nat.le_of_ble_eq_true rfl)) dX7_arrow_5 ⟨Nat.le_of_ble_eq_true rfl, Nat.le_of_ble_eq_true rfl⟩) hS (fun q _ h => h.elim) (fun q h => h.elim) (fun r u t H1 locs ht hvm hw hB hz1 hk1 hS => ?_)
  have hE : s.heap = H1 := hB.symm.trans ht
  subst hE
  obtain rfl : r = 0 := hw
  refine lv_if_eq (tgt := 34) hx hb dX7_arrow_8 (by decide) (fun _ => ?_) (fun c_8 => absurd (by decide +kernel) c_8)
  refine lv_iconst (v := 0) hx hb dX7_arrow_34 (by decide +kernel) ?_
  refine W.widen (k := 0) (n := 0) (Nat.le_of_ble_eq_true rfl) (Nat.le_of_ble_eq_true rfl) ?_
  exact W.zret (v := 0) hx hb hr (mz_nz (by decide +kernel)) (fun t ht hW => ⟨⟨0, (), rfl, rfl, ht⟩, hS.F ht⟩) hS.2.2 dX7_arrow_35
set_option maxHeartbeats 1000000 in
set_option maxRecDepth 100000 in
theorem mz_cut (l : Launch) (dC : Nat → ClassId) (dI : Nat → Nat → Nat) (cI cJ cZ : ClassId) (mx : Nat) (dr : Nat) (th : Nat) (bk : Nat) (wt : Nat) (tt : Nat) (lh : Nat) (la : Nat) (dp : Nat) (dc : Nat) (p1 : Int32) (p2 : Int32) (Hq : Heap)  : Met l yX7_cut wsX7_cut ({ frames := 2, cells := 0, slots := 0, locals := 43 }) (va_Pc [.ref mx, .int p1, .int p2] (fun U => U.heap = Hq ∧ va_P (dC, dI) vwCl [(mx, .inr (7, [.ref dr, .ref th, .ref bk, .ref wt, .ref tt, .ref lh, .ref la, .int 0, .long 0, .long 1])), (dr, .inr (2, [.ref dp, .ref dc, .int 0]))] Hq ∧ va_K (dC, dI) vwCl [(cI, FieldType.int), (cJ, FieldType.long), (cZ, FieldType.boolean)] U ∧ mz_N U)) (va_Qi (fun (r : Int32) (_ : Unit) => r = 0) (fun _ t => t.heap = Hq) (fun _ : Nat => False)) 0 0 (fun _ : Nat => False) := by
  refine Met.ofW (cc := cX7_cut) (maxL := 3) (ret := (some .boolean)) (by decide) rfl ?_
  intro p e s m args below meth c s₁ B hml hv
  obtain ⟨rfl, hH, hP, hK, hN⟩ := hv
  subst hH
  have hx := B.exec
  have hb := B.bytes
  have hr := B.returns
  have hts := atoms_spec (ws := wsX7_cut) B.pre
  have hown : s.vm.findClass RX7 = some m.cls := findClass_of_methodNamed B.named
  have hlocks := B.notSynchronized
  have hS : va_S (fun _ : Nat => False) s.heap s.heap [] := va_S.rf
  have hiX7 : ∀ w ∈ u_ws RX7 TX7 10, w ∈ wsX7_cut := by decide +kernel
  have hl := lv_entry ([.ref mx, .int p1, .int p2]) (n := 3) (Nat.le_of_ble_eq_true rfl)
  rw [lg_entry_eq]
  generalize (lg_sl ([.ref mx, .int p1, .int p2]) ++ List.replicate (3 - (lg_sl ([.ref mx, .int p1, .int p2])).length) Slot.unset).toArray = ls at hl ⊢
  have hl : lv_has ls 3 [(0, .ref mx), (1, .int p1), (2, .int p2)] := hl
  refine lv_aload_n hx hb dX7_cut_0 rfl (lv_at hl 0 rfl) ?_
  refine va_get (D := (dC, dI)) (ci := 7) (v := .ref dr) (C := RX7) (T := TX7) (N := 10) hx hb hts hiX7 hown hK hP 0 rfl rfl 0 (by decide) (hts (.fieldLink RX7 12 "MadeItSo" "drawing" "LMadeItSo$Drawing;") (by decide +kernel)) (fun _ h9 => h9) rfl dX7_cut_1 ?_
  refine lv_iload_n hx hb dX7_cut_4 rfl (lv_at hl 1 rfl) ?_
  refine lv_iload_n hx hb dX7_cut_5 rfl (lv_at hl 2 rfl) ?_
  have hPc := hP.sub (ws' := [(dr, .inr (2, [.ref dp, .ref dc, .int 0]))]) [1] rfl
  refine va_calli (va_runV (As := [.int p1, .int p2]) (rest := []) ⟨hx, hb, hml, hown, hts⟩ (mz_Drawing_leads l dC dI cI cJ cZ dr dp dc p1 p2 s.heap ) (cwV 2 hts gX7_cut_X2_leads rfl rfl rfl (by decide +kernel) ⟨Nat.le_of_ble_eq_true rfl, Nat.le_of_ble_eq_true rfl⟩) ⟨fun a U g mk q => mz_blP q, va_recv hK hPc (ci := 2) (q0 := 0) rfl rfl, fun U hU hW => ⟨rfl, hU, hPc, va_K.moved hW.alike hK, mz_nw hW hN⟩⟩ rfl rfl hl.1 rfl (lv_room (Nat.le_of_ble_eq_true rfl)) dX7_cut_6 ⟨Nat.le_of_ble_eq_true rfl, Nat.le_of_ble_eq_true rfl⟩) hS (fun q _ h => h.elim) (fun q h => h.elim) (fun r u t H1 locs ht hvm hw hB hz1 hk1 hS => ?_)
  have hE : s.heap = H1 := hB.symm.trans ht
  subst hE
  obtain rfl : r = 0 := hw
  refine lv_if_ne (tgt := 14) hx hb dX7_cut_9 (by decide) (fun c_9 => absurd (by decide +kernel) c_9) (fun _ => ?_)
  refine lv_iconst (v := 0) hx hb dX7_cut_12 (by decide +kernel) ?_
  refine W.widen (k := 0) (n := 0) (Nat.le_of_ble_eq_true rfl) (Nat.le_of_ble_eq_true rfl) ?_
  exact W.zret (v := 0) hx hb hr (mz_nz (by decide +kernel)) (fun t ht hW => ⟨⟨0, (), rfl, rfl, ht⟩, hS.F ht⟩) hS.2.2 dX7_cut_13
set_option maxHeartbeats 1000000 in
set_option maxRecDepth 100000 in
theorem mz_turn (l : Launch) (dC : Nat → ClassId) (dI : Nat → Nat → Nat) (cI cJ cZ : ClassId) (mx : Nat) (dr : Nat) (th : Nat) (bk : Nat) (wt : Nat) (tt : Nat) (lh : Nat) (la : Nat) (dp : Nat) (dc : Nat) (p1 : Int32) (p2 : Int32) (Hq : Heap)  : Met l yX7_turn wsX7_turn ({ frames := 2, cells := 0, slots := 0, locals := 43 }) (va_Pc [.ref mx, .int p1, .int p2] (fun U => U.heap = Hq ∧ va_P (dC, dI) vwCl [(mx, .inr (7, [.ref dr, .ref th, .ref bk, .ref wt, .ref tt, .ref lh, .ref la, .int 0, .long 0, .long 1])), (dr, .inr (2, [.ref dp, .ref dc, .int 0]))] Hq ∧ va_K (dC, dI) vwCl [(cI, FieldType.int), (cJ, FieldType.long), (cZ, FieldType.boolean)] U ∧ mz_N U)) (va_Qi (fun (r : Int32) (_ : Unit) => r = 0) (fun _ t => t.heap = Hq) (fun _ : Nat => False)) 0 0 (fun _ : Nat => False) := by
  refine Met.ofW (cc := cX7_turn) (maxL := 3) (ret := (some .boolean)) (by decide) rfl ?_
  intro p e s m args below meth c s₁ B hml hv
  obtain ⟨rfl, hH, hP, hK, hN⟩ := hv
  subst hH
  have hx := B.exec
  have hb := B.bytes
  have hr := B.returns
  have hts := atoms_spec (ws := wsX7_turn) B.pre
  have hown : s.vm.findClass RX7 = some m.cls := findClass_of_methodNamed B.named
  have hlocks := B.notSynchronized
  have hS : va_S (fun _ : Nat => False) s.heap s.heap [] := va_S.rf
  have hiX7 : ∀ w ∈ u_ws RX7 TX7 10, w ∈ wsX7_turn := by decide +kernel
  have hl := lv_entry ([.ref mx, .int p1, .int p2]) (n := 3) (Nat.le_of_ble_eq_true rfl)
  rw [lg_entry_eq]
  generalize (lg_sl ([.ref mx, .int p1, .int p2]) ++ List.replicate (3 - (lg_sl ([.ref mx, .int p1, .int p2])).length) Slot.unset).toArray = ls at hl ⊢
  have hl : lv_has ls 3 [(0, .ref mx), (1, .int p1), (2, .int p2)] := hl
  refine lv_aload_n hx hb dX7_turn_0 rfl (lv_at hl 0 rfl) ?_
  refine va_get (D := (dC, dI)) (ci := 7) (v := .ref dr) (C := RX7) (T := TX7) (N := 10) hx hb hts hiX7 hown hK hP 0 rfl rfl 0 (by decide) (hts (.fieldLink RX7 12 "MadeItSo" "drawing" "LMadeItSo$Drawing;") (by decide +kernel)) (fun _ h9 => h9) rfl dX7_turn_1 ?_
  refine lv_iload_n hx hb dX7_turn_4 rfl (lv_at hl 1 rfl) ?_
  refine lv_iload_n hx hb dX7_turn_5 rfl (lv_at hl 2 rfl) ?_
  have hPc := hP.sub (ws' := [(dr, .inr (2, [.ref dp, .ref dc, .int 0]))]) [1] rfl
  refine va_calli (va_runV (As := [.int p1, .int p2]) (rest := []) ⟨hx, hb, hml, hown, hts⟩ (mz_Drawing_leads l dC dI cI cJ cZ dr dp dc p1 p2 s.heap ) (cwV 2 hts gX7_turn_X2_leads rfl rfl rfl (by decide +kernel) ⟨Nat.le_of_ble_eq_true rfl, Nat.le_of_ble_eq_true rfl⟩) ⟨fun a U g mk q => mz_blP q, va_recv hK hPc (ci := 2) (q0 := 0) rfl rfl, fun U hU hW => ⟨rfl, hU, hPc, va_K.moved hW.alike hK, mz_nw hW hN⟩⟩ rfl rfl hl.1 rfl (lv_room (Nat.le_of_ble_eq_true rfl)) dX7_turn_6 ⟨Nat.le_of_ble_eq_true rfl, Nat.le_of_ble_eq_true rfl⟩) hS (fun q _ h => h.elim) (fun q h => h.elim) (fun r u t H1 locs ht hvm hw hB hz1 hk1 hS => ?_)
  have hE : s.heap = H1 := hB.symm.trans ht
  subst hE
  obtain rfl : r = 0 := hw
  refine lv_if_ne (tgt := 14) hx hb dX7_turn_9 (by decide) (fun c_9 => absurd (by decide +kernel) c_9) (fun _ => ?_)
  refine lv_iconst (v := 0) hx hb dX7_turn_12 (by decide +kernel) ?_
  refine W.widen (k := 0) (n := 0) (Nat.le_of_ble_eq_true rfl) (Nat.le_of_ble_eq_true rfl) ?_
  exact W.zret (v := 0) hx hb hr (mz_nz (by decide +kernel)) (fun t ht hW => ⟨⟨0, (), rfl, rfl, ht⟩, hS.F ht⟩) hS.2.2 dX7_turn_13
set_option maxHeartbeats 1000000 in
set_option maxRecDepth 100000 in
theorem mz_book (l : Launch) (dC : Nat → ClassId) (dI : Nat → Nat → Nat) (cI cJ cZ : ClassId) (mx : Nat) (dr : Nat) (th : Nat) (bk : Nat) (wt : Nat) (tt : Nat) (lh : Nat) (la : Nat) (dp : Nat) (dc : Nat) (p1 : Int32) (p2 : Int32) (p3 : Int32) (Hq : Heap)  : Met l yX7_book wsX7_book ({ frames := 2, cells := 0, slots := 0, locals := 43 }) (va_Pc [.ref mx, .int p1, .int p2, .int p3] (fun U => U.heap = Hq ∧ va_P (dC, dI) vwCl [(mx, .inr (7, [.ref dr, .ref th, .ref bk, .ref wt, .ref tt, .ref lh, .ref la, .int 0, .long 0, .long 1])), (dr, .inr (2, [.ref dp, .ref dc, .int 0]))] Hq ∧ va_K (dC, dI) vwCl [(cI, FieldType.int), (cJ, FieldType.long), (cZ, FieldType.boolean)] U ∧ mz_N U)) (va_Qi (fun (r : Int32) (_ : Unit) => r = 0) (fun _ t => t.heap = Hq) (fun _ : Nat => False)) 0 0 (fun _ : Nat => False) := by
  refine Met.ofW (cc := cX7_book) (maxL := 4) (ret := (some .boolean)) (by decide) rfl ?_
  intro p e s m args below meth c s₁ B hml hv
  obtain ⟨rfl, hH, hP, hK, hN⟩ := hv
  subst hH
  have hx := B.exec
  have hb := B.bytes
  have hr := B.returns
  have hts := atoms_spec (ws := wsX7_book) B.pre
  have hown : s.vm.findClass RX7 = some m.cls := findClass_of_methodNamed B.named
  have hlocks := B.notSynchronized
  have hS : va_S (fun _ : Nat => False) s.heap s.heap [] := va_S.rf
  have hl := lv_entry ([.ref mx, .int p1, .int p2, .int p3]) (n := 4) (Nat.le_of_ble_eq_true rfl)
  rw [lg_entry_eq]
  generalize (lg_sl ([.ref mx, .int p1, .int p2, .int p3]) ++ List.replicate (4 - (lg_sl ([.ref mx, .int p1, .int p2, .int p3])).length) Slot.unset).toArray = ls at hl ⊢
  have hl : lv_has ls 4 [(0, .ref mx), (1, .int p1), (2, .int p2), (3, .int p3)] := hl
  refine lv_aload_n hx hb dX7_book_0 rfl (lv_at hl 0 rfl) ?_
  refine lv_iload_n hx hb dX7_book_1 rfl (lv_at hl 1 rfl) ?_
  refine lv_iload_n hx hb dX7_book_2 rfl (lv_at hl 2 rfl) ?_
  have hPc := hP.sub (ws' := [(mx, .inr (7, [.ref dr, .ref th, .ref bk, .ref wt, .ref tt, .ref lh, .ref la, .int 0, .long 0, .long 1])), (dr, .inr (2, [.ref dp, .ref dc, .int 0]))]) [0, 1] rfl
  refine va_calli (va_runV (As := [.int p1, .int p2]) (rest := []) ⟨hx, hb, hml, hown, hts⟩ (mz_hasRow l dC dI cI cJ cZ mx dr th bk wt tt lh la dp dc p1 p2 s.heap ) (cwV 2 hts gX7_book_X7_hasRow rfl rfl rfl (by decide +kernel) ⟨Nat.le_of_ble_eq_true rfl, Nat.le_of_ble_eq_true rfl⟩) ⟨fun a U g mk q => mz_blP q, va_recv hK hPc (ci := 7) (q0 := 0) rfl rfl, fun U hU hW => ⟨rfl, hU, hPc, va_K.moved hW.alike hK, mz_nw hW hN⟩⟩ rfl rfl hl.1 rfl (lv_room (Nat.le_of_ble_eq_true rfl)) dX7_book_3 ⟨Nat.le_of_ble_eq_true rfl, Nat.le_of_ble_eq_true rfl⟩) hS (fun q _ h => h.elim) (fun q h => h.elim) (fun r u t H1 locs ht hvm hw hB hz1 hk1 hS => ?_)
  have hE : s.heap = H1 := hB.symm.trans ht
  subst hE
  obtain rfl : r = 0 := hw
  refine lv_if_eq (tgt := 19) hx hb dX7_book_6 (by decide) (fun _ => ?_) (fun c_6 => absurd (by decide +kernel) c_6)
  refine lv_iconst (v := 0) hx hb dX7_book_19 (by decide +kernel) ?_
  refine W.widen (k := 0) (n := 0) (Nat.le_of_ble_eq_true rfl) (Nat.le_of_ble_eq_true rfl) ?_
  exact W.zret (v := 0) hx hb hr (mz_nz (by decide +kernel)) (fun t ht hW => ⟨⟨0, (), rfl, rfl, ht⟩, hS.F ht⟩) hS.2.2 dX7_book_20
set_option maxHeartbeats 1000000 in
set_option maxRecDepth 100000 in
theorem mz_booked (l : Launch) (dC : Nat → ClassId) (dI : Nat → Nat → Nat) (cI cJ cZ : ClassId) (mx : Nat) (dr : Nat) (th : Nat) (bk : Nat) (wt : Nat) (tt : Nat) (lh : Nat) (la : Nat) (dp : Nat) (dc : Nat) (p1 : Int32) (p2 : Int32) (Hq : Heap)  : Met l yX7_booked wsX7_booked ({ frames := 2, cells := 0, slots := 0, locals := 43 }) (va_Pc [.ref mx, .int p1, .int p2] (fun U => U.heap = Hq ∧ va_P (dC, dI) vwCl [(mx, .inr (7, [.ref dr, .ref th, .ref bk, .ref wt, .ref tt, .ref lh, .ref la, .int 0, .long 0, .long 1])), (dr, .inr (2, [.ref dp, .ref dc, .int 0]))] Hq ∧ va_K (dC, dI) vwCl [(cI, FieldType.int), (cJ, FieldType.long), (cZ, FieldType.boolean)] U ∧ mz_N U)) (va_Qi (fun (r : Int32) (_ : Unit) => r = (-1)) (fun _ t => t.heap = Hq) (fun _ : Nat => False)) 0 0 (fun _ : Nat => False) := by
  refine Met.ofW (cc := cX7_booked) (maxL := 3) (ret := (some .int)) (by decide) rfl ?_
  intro p e s m args below meth c s₁ B hml hv
  obtain ⟨rfl, hH, hP, hK, hN⟩ := hv
  subst hH
  have hx := B.exec
  have hb := B.bytes
  have hr := B.returns
  have hts := atoms_spec (ws := wsX7_booked) B.pre
  have hown : s.vm.findClass RX7 = some m.cls := findClass_of_methodNamed B.named
  have hlocks := B.notSynchronized
  have hS : va_S (fun _ : Nat => False) s.heap s.heap [] := va_S.rf
  have hl := lv_entry ([.ref mx, .int p1, .int p2]) (n := 3) (Nat.le_of_ble_eq_true rfl)
  rw [lg_entry_eq]
  generalize (lg_sl ([.ref mx, .int p1, .int p2]) ++ List.replicate (3 - (lg_sl ([.ref mx, .int p1, .int p2])).length) Slot.unset).toArray = ls at hl ⊢
  have hl : lv_has ls 3 [(0, .ref mx), (1, .int p1), (2, .int p2)] := hl
  refine lv_aload_n hx hb dX7_booked_0 rfl (lv_at hl 0 rfl) ?_
  refine lv_iload_n hx hb dX7_booked_1 rfl (lv_at hl 1 rfl) ?_
  refine lv_iload_n hx hb dX7_booked_2 rfl (lv_at hl 2 rfl) ?_
  have hPc := hP.sub (ws' := [(mx, .inr (7, [.ref dr, .ref th, .ref bk, .ref wt, .ref tt, .ref lh, .ref la, .int 0, .long 0, .long 1])), (dr, .inr (2, [.ref dp, .ref dc, .int 0]))]) [0, 1] rfl
  refine va_calli (va_runV (As := [.int p1, .int p2]) (rest := []) ⟨hx, hb, hml, hown, hts⟩ (mz_hasRow l dC dI cI cJ cZ mx dr th bk wt tt lh la dp dc p1 p2 s.heap ) (cwV 2 hts gX7_booked_X7_hasRow rfl rfl rfl (by decide +kernel) ⟨Nat.le_of_ble_eq_true rfl, Nat.le_of_ble_eq_true rfl⟩) ⟨fun a U g mk q => mz_blP q, va_recv hK hPc (ci := 7) (q0 := 0) rfl rfl, fun U hU hW => ⟨rfl, hU, hPc, va_K.moved hW.alike hK, mz_nw hW hN⟩⟩ rfl rfl hl.1 rfl (lv_room (Nat.le_of_ble_eq_true rfl)) dX7_booked_3 ⟨Nat.le_of_ble_eq_true rfl, Nat.le_of_ble_eq_true rfl⟩) hS (fun q _ h => h.elim) (fun q h => h.elim) (fun r u t H1 locs ht hvm hw hB hz1 hk1 hS => ?_)
  have hE : s.heap = H1 := hB.symm.trans ht
  subst hE
  obtain rfl : r = 0 := hw
  refine lv_if_eq (tgt := 21) hx hb dX7_booked_6 (by decide) (fun _ => ?_) (fun c_6 => absurd (by decide +kernel) c_6)
  refine lv_iconst (v := (-1)) hx hb dX7_booked_21 (by decide +kernel) ?_
  refine W.widen (k := 0) (n := 0) (Nat.le_of_ble_eq_true rfl) (Nat.le_of_ble_eq_true rfl) ?_
  exact W.iret (v := (-1)) hx hb hr (fun t ht hW => ⟨⟨(-1), (), rfl, rfl, ht⟩, hS.F ht⟩) hS.2.2 dX7_booked_22
set_option maxHeartbeats 1000000 in
set_option maxRecDepth 100000 in
theorem mz_told (l : Launch) (dC : Nat → ClassId) (dI : Nat → Nat → Nat) (cI cJ cZ : ClassId) (mx : Nat) (dr : Nat) (th : Nat) (bk : Nat) (wt : Nat) (tt : Nat) (lh : Nat) (la : Nat) (dp : Nat) (dc : Nat) (p1 : Int32) (p2 : Int32) (Hq : Heap)  : Met l yX7_told wsX7_told ({ frames := 1, cells := 0, slots := 0, locals := 21 }) (va_Pc [.ref mx, .int p1, .int p2] (fun U => U.heap = Hq ∧ va_P (dC, dI) vwCl [(mx, .inr (7, [.ref dr, .ref th, .ref bk, .ref wt, .ref tt, .ref lh, .ref la, .int 0, .long 0, .long 1])), (dr, .inr (2, [.ref dp, .ref dc, .int 0]))] Hq ∧ va_K (dC, dI) vwCl [(cI, FieldType.int), (cJ, FieldType.long), (cZ, FieldType.boolean)] U ∧ mz_N U)) (va_Qi (fun (r : Int32) (_ : Unit) => r = (-1)) (fun _ t => t.heap = Hq) (fun _ : Nat => False)) 0 0 (fun _ : Nat => False) := by
  refine Met.ofW (cc := cX7_told) (maxL := 3) (ret := (some .int)) (by decide) rfl ?_
  intro p e s m args below meth c s₁ B hml hv
  obtain ⟨rfl, hH, hP, hK, hN⟩ := hv
  subst hH
  have hx := B.exec
  have hb := B.bytes
  have hr := B.returns
  have hts := atoms_spec (ws := wsX7_told) B.pre
  have hown : s.vm.findClass RX7 = some m.cls := findClass_of_methodNamed B.named
  have hlocks := B.notSynchronized
  have hS : va_S (fun _ : Nat => False) s.heap s.heap [] := va_S.rf
  have hiX7 : ∀ w ∈ u_ws RX7 TX7 10, w ∈ wsX7_told := by decide +kernel
  have hl := lv_entry ([.ref mx, .int p1, .int p2]) (n := 3) (Nat.le_of_ble_eq_true rfl)
  rw [lg_entry_eq]
  generalize (lg_sl ([.ref mx, .int p1, .int p2]) ++ List.replicate (3 - (lg_sl ([.ref mx, .int p1, .int p2])).length) Slot.unset).toArray = ls at hl ⊢
  have hl : lv_has ls 3 [(0, .ref mx), (1, .int p1), (2, .int p2)] := hl
  refine lv_aload_n hx hb dX7_told_0 rfl (lv_at hl 0 rfl) ?_
  refine va_get (D := (dC, dI)) (ci := 7) (v := .ref dr) (C := RX7) (T := TX7) (N := 10) hx hb hts hiX7 hown hK hP 0 rfl rfl 0 (by decide) (hts (.fieldLink RX7 12 "MadeItSo" "drawing" "LMadeItSo$Drawing;") (by decide +kernel)) (fun _ h9 => h9) rfl dX7_told_1 ?_
  refine lv_iload_n hx hb dX7_told_4 rfl (lv_at hl 1 rfl) ?_
  have hPc := hP.sub (ws' := [(dr, .inr (2, [.ref dp, .ref dc, .int 0]))]) [1] rfl
  refine va_calli (va_runV (As := [.int p1]) (rest := []) ⟨hx, hb, hml, hown, hts⟩ (mz_Drawing_has l dC dI cI cJ cZ dr dp dc p1 s.heap ) (cwV 1 hts gX7_told_X2_has rfl rfl rfl (by decide +kernel) ⟨Nat.le_of_ble_eq_true rfl, Nat.le_of_ble_eq_true rfl⟩) ⟨fun a U g mk q => mz_blP q, va_recv hK hPc (ci := 2) (q0 := 0) rfl rfl, fun U hU hW => ⟨rfl, hU, hPc, va_K.moved hW.alike hK, mz_nw hW hN⟩⟩ rfl rfl hl.1 rfl (lv_room (Nat.le_of_ble_eq_true rfl)) dX7_told_5 ⟨Nat.le_of_ble_eq_true rfl, Nat.le_of_ble_eq_true rfl⟩) hS (fun q _ h => h.elim) (fun q h => h.elim) (fun r u t H1 locs ht hvm hw hB hz1 hk1 hS => ?_)
  have hE : s.heap = H1 := hB.symm.trans ht
  subst hE
  obtain rfl : r = 0 := hw
  refine lv_if_ne (tgt := 13) hx hb dX7_told_8 (by decide) (fun c_8 => absurd (by decide +kernel) c_8) (fun _ => ?_)
  refine lv_iconst (v := (-1)) hx hb dX7_told_11 (by decide +kernel) ?_
  refine W.widen (k := 0) (n := 0) (Nat.le_of_ble_eq_true rfl) (Nat.le_of_ble_eq_true rfl) ?_
  exact W.iret (v := (-1)) hx hb hr (fun t ht hW => ⟨⟨(-1), (), rfl, rfl, ht⟩, hS.F ht⟩) hS.2.2 dX7_told_12
set_option maxHeartbeats 1000000 in
set_option maxRecDepth 100000 in
theorem mz_least (l : Launch) (dC : Nat → ClassId) (dI : Nat → Nat → Nat) (cI cJ cZ : ClassId) (mx : Nat) (dr : Nat) (th : Nat) (bk : Nat) (wt : Nat) (tt : Nat) (lh : Nat) (la : Nat) (dp : Nat) (dc : Nat) (p1 : Int32) (p2 : Int32) (Hq : Heap)  : Met l yX7_least wsX7_least ({ frames := 2, cells := 0, slots := 0, locals := 43 }) (va_Pc [.ref mx, .int p1, .int p2] (fun U => U.heap = Hq ∧ va_P (dC, dI) vwCl [(mx, .inr (7, [.ref dr, .ref th, .ref bk, .ref wt, .ref tt, .ref lh, .ref la, .int 0, .long 0, .long 1])), (dr, .inr (2, [.ref dp, .ref dc, .int 0]))] Hq ∧ va_K (dC, dI) vwCl [(cI, FieldType.int), (cJ, FieldType.long), (cZ, FieldType.boolean)] U ∧ mz_N U)) (va_Qi (fun (r : Int32) (_ : Unit) => r = (-1)) (fun _ t => t.heap = Hq) (fun _ : Nat => False)) 0 0 (fun _ : Nat => False) := by
  refine Met.ofW (cc := cX7_least) (maxL := 3) (ret := (some .int)) (by decide) rfl ?_
  intro p e s m args below meth c s₁ B hml hv
  obtain ⟨rfl, hH, hP, hK, hN⟩ := hv
  subst hH
  have hx := B.exec
  have hb := B.bytes
  have hr := B.returns
  have hts := atoms_spec (ws := wsX7_least) B.pre
  have hown : s.vm.findClass RX7 = some m.cls := findClass_of_methodNamed B.named
  have hlocks := B.notSynchronized
  have hS : va_S (fun _ : Nat => False) s.heap s.heap [] := va_S.rf
  have hl := lv_entry ([.ref mx, .int p1, .int p2]) (n := 3) (Nat.le_of_ble_eq_true rfl)
  rw [lg_entry_eq]
  generalize (lg_sl ([.ref mx, .int p1, .int p2]) ++ List.replicate (3 - (lg_sl ([.ref mx, .int p1, .int p2])).length) Slot.unset).toArray = ls at hl ⊢
  have hl : lv_has ls 3 [(0, .ref mx), (1, .int p1), (2, .int p2)] := hl
  refine lv_aload_n hx hb dX7_least_0 rfl (lv_at hl 0 rfl) ?_
  refine lv_iload_n hx hb dX7_least_1 rfl (lv_at hl 1 rfl) ?_
  refine lv_iload_n hx hb dX7_least_2 rfl (lv_at hl 2 rfl) ?_
  have hPc := hP.sub (ws' := [(mx, .inr (7, [.ref dr, .ref th, .ref bk, .ref wt, .ref tt, .ref lh, .ref la, .int 0, .long 0, .long 1])), (dr, .inr (2, [.ref dp, .ref dc, .int 0]))]) [0, 1] rfl
  refine va_calli (va_runV (As := [.int p1, .int p2]) (rest := []) ⟨hx, hb, hml, hown, hts⟩ (mz_areTwo l dC dI cI cJ cZ mx dr th bk wt tt lh la dp dc p1 p2 s.heap ) (cwV 2 hts gX7_least_X7_areTwo rfl rfl rfl (by decide +kernel) ⟨Nat.le_of_ble_eq_true rfl, Nat.le_of_ble_eq_true rfl⟩) ⟨fun a U g mk q => mz_blP q, va_recv hK hPc (ci := 7) (q0 := 0) rfl rfl, fun U hU hW => ⟨rfl, hU, hPc, va_K.moved hW.alike hK, mz_nw hW hN⟩⟩ rfl rfl hl.1 rfl (lv_room (Nat.le_of_ble_eq_true rfl)) dX7_least_3 ⟨Nat.le_of_ble_eq_true rfl, Nat.le_of_ble_eq_true rfl⟩) hS (fun q _ h => h.elim) (fun q h => h.elim) (fun r u t H1 locs ht hvm hw hB hz1 hk1 hS => ?_)
  have hE : s.heap = H1 := hB.symm.trans ht
  subst hE
  obtain rfl : r = 0 := hw
  refine lv_if_ne (tgt := 11) hx hb dX7_least_6 (by decide) (fun c_6 => absurd (by decide +kernel) c_6) (fun _ => ?_)
  refine lv_iconst (v := (-1)) hx hb dX7_least_9 (by decide +kernel) ?_
  refine W.widen (k := 0) (n := 0) (Nat.le_of_ble_eq_true rfl) (Nat.le_of_ble_eq_true rfl) ?_
  exact W.iret (v := (-1)) hx hb hr (fun t ht hW => ⟨⟨(-1), (), rfl, rfl, ht⟩, hS.F ht⟩) hS.2.2 dX7_least_10
set_option maxHeartbeats 1000000 in
set_option maxRecDepth 100000 in
theorem mz_leastAt (l : Launch) (dC : Nat → ClassId) (dI : Nat → Nat → Nat) (cI cJ cZ : ClassId) (mx : Nat) (dr : Nat) (th : Nat) (bk : Nat) (wt : Nat) (tt : Nat) (lh : Nat) (la : Nat) (dp : Nat) (dc : Nat) (p1 : Int32) (p2 : Int32) (p3 : Int32) (Hq : Heap)  : Met l yX7_leastAt wsX7_leastAt ({ frames := 2, cells := 0, slots := 0, locals := 43 }) (va_Pc [.ref mx, .int p1, .int p2, .int p3] (fun U => U.heap = Hq ∧ va_P (dC, dI) vwCl [(mx, .inr (7, [.ref dr, .ref th, .ref bk, .ref wt, .ref tt, .ref lh, .ref la, .int 0, .long 0, .long 1])), (dr, .inr (2, [.ref dp, .ref dc, .int 0]))] Hq ∧ va_K (dC, dI) vwCl [(cI, FieldType.int), (cJ, FieldType.long), (cZ, FieldType.boolean)] U ∧ mz_N U)) (va_Qi (fun (r : Int32) (_ : Unit) => r = (-1)) (fun _ t => t.heap = Hq) (fun _ : Nat => False)) 0 0 (fun _ : Nat => False) := by
  refine Met.ofW (cc := cX7_leastAt) (maxL := 4) (ret := (some .int)) (by decide) rfl ?_
  intro p e s m args below meth c s₁ B hml hv
  obtain ⟨rfl, hH, hP, hK, hN⟩ := hv
  subst hH
  have hx := B.exec
  have hb := B.bytes
  have hr := B.returns
  have hts := atoms_spec (ws := wsX7_leastAt) B.pre
  have hown : s.vm.findClass RX7 = some m.cls := findClass_of_methodNamed B.named
  have hlocks := B.notSynchronized
  have hS : va_S (fun _ : Nat => False) s.heap s.heap [] := va_S.rf
  have hl := lv_entry ([.ref mx, .int p1, .int p2, .int p3]) (n := 4) (Nat.le_of_ble_eq_true rfl)
  rw [lg_entry_eq]
  generalize (lg_sl ([.ref mx, .int p1, .int p2, .int p3]) ++ List.replicate (4 - (lg_sl ([.ref mx, .int p1, .int p2, .int p3])).length) Slot.unset).toArray = ls at hl ⊢
  have hl : lv_has ls 4 [(0, .ref mx), (1, .int p1), (2, .int p2), (3, .int p3)] := hl
  refine lv_aload_n hx hb dX7_leastAt_0 rfl (lv_at hl 0 rfl) ?_
  refine lv_iload_n hx hb dX7_leastAt_1 rfl (lv_at hl 1 rfl) ?_
  refine lv_iload_n hx hb dX7_leastAt_2 rfl (lv_at hl 2 rfl) ?_
  have hPc := hP.sub (ws' := [(mx, .inr (7, [.ref dr, .ref th, .ref bk, .ref wt, .ref tt, .ref lh, .ref la, .int 0, .long 0, .long 1])), (dr, .inr (2, [.ref dp, .ref dc, .int 0]))]) [0, 1] rfl
  refine va_calli (va_runV (As := [.int p1, .int p2]) (rest := []) ⟨hx, hb, hml, hown, hts⟩ (mz_areTwo l dC dI cI cJ cZ mx dr th bk wt tt lh la dp dc p1 p2 s.heap ) (cwV 2 hts gX7_leastAt_X7_areTwo rfl rfl rfl (by decide +kernel) ⟨Nat.le_of_ble_eq_true rfl, Nat.le_of_ble_eq_true rfl⟩) ⟨fun a U g mk q => mz_blP q, va_recv hK hPc (ci := 7) (q0 := 0) rfl rfl, fun U hU hW => ⟨rfl, hU, hPc, va_K.moved hW.alike hK, mz_nw hW hN⟩⟩ rfl rfl hl.1 rfl (lv_room (Nat.le_of_ble_eq_true rfl)) dX7_leastAt_3 ⟨Nat.le_of_ble_eq_true rfl, Nat.le_of_ble_eq_true rfl⟩) hS (fun q _ h => h.elim) (fun q h => h.elim) (fun r u t H1 locs ht hvm hw hB hz1 hk1 hS => ?_)
  have hE : s.heap = H1 := hB.symm.trans ht
  subst hE
  obtain rfl : r = 0 := hw
  refine lv_if_ne (tgt := 11) hx hb dX7_leastAt_6 (by decide) (fun c_6 => absurd (by decide +kernel) c_6) (fun _ => ?_)
  refine lv_iconst (v := (-1)) hx hb dX7_leastAt_9 (by decide +kernel) ?_
  refine W.widen (k := 0) (n := 0) (Nat.le_of_ble_eq_true rfl) (Nat.le_of_ble_eq_true rfl) ?_
  exact W.iret (v := (-1)) hx hb hr (fun t ht hW => ⟨⟨(-1), (), rfl, rfl, ht⟩, hS.F ht⟩) hS.2.2 dX7_leastAt_10
set_option maxHeartbeats 1000000 in
set_option maxRecDepth 100000 in
theorem mz_fit (l : Launch) (dC : Nat → ClassId) (dI : Nat → Nat → Nat) (cI cJ cZ : ClassId) (mx : Nat) (dr : Nat) (th : Nat) (bk : Nat) (wt : Nat) (tt : Nat) (lh : Nat) (la : Nat) (dp : Nat) (dc : Nat) (p1 : Int32) (p2 : Int32) (p3 : Int32) (Hq : Heap)  : Met l yX7_fit wsX7_fit ({ frames := 2, cells := 0, slots := 0, locals := 43 }) (va_Pc [.ref mx, .int p1, .int p2, .int p3] (fun U => U.heap = Hq ∧ va_P (dC, dI) vwCl [(mx, .inr (7, [.ref dr, .ref th, .ref bk, .ref wt, .ref tt, .ref lh, .ref la, .int 0, .long 0, .long 1])), (dr, .inr (2, [.ref dp, .ref dc, .int 0]))] Hq ∧ va_K (dC, dI) vwCl [(cI, FieldType.int), (cJ, FieldType.long), (cZ, FieldType.boolean)] U ∧ mz_N U)) (va_Qi (fun (r : Int32) (_ : Unit) => r = 0) (fun _ t => t.heap = Hq) (fun _ : Nat => False)) 0 0 (fun _ : Nat => False) := by
  refine Met.ofW (cc := cX7_fit) (maxL := 5) (ret := (some .boolean)) (by decide) rfl ?_
  intro p e s m args below meth c s₁ B hml hv
  obtain ⟨rfl, hH, hP, hK, hN⟩ := hv
  subst hH
  have hx := B.exec
  have hb := B.bytes
  have hr := B.returns
  have hts := atoms_spec (ws := wsX7_fit) B.pre
  have hown : s.vm.findClass RX7 = some m.cls := findClass_of_methodNamed B.named
  have hlocks := B.notSynchronized
  have hS : va_S (fun _ : Nat => False) s.heap s.heap [] := va_S.rf
  have hl := lv_entry ([.ref mx, .int p1, .int p2, .int p3]) (n := 5) (Nat.le_of_ble_eq_true rfl)
  rw [lg_entry_eq]
  generalize (lg_sl ([.ref mx, .int p1, .int p2, .int p3]) ++ List.replicate (5 - (lg_sl ([.ref mx, .int p1, .int p2, .int p3])).length) Slot.unset).toArray = ls at hl ⊢
  have hl : lv_has ls 5 [(0, .ref mx), (1, .int p1), (2, .int p2), (3, .int p3)] := hl
  refine lv_aload_n hx hb dX7_fit_0 rfl (lv_at hl 0 rfl) ?_
  refine lv_iload_n hx hb dX7_fit_1 rfl (lv_at hl 1 rfl) ?_
  refine lv_iload_n hx hb dX7_fit_2 rfl (lv_at hl 2 rfl) ?_
  have hPc := hP.sub (ws' := [(mx, .inr (7, [.ref dr, .ref th, .ref bk, .ref wt, .ref tt, .ref lh, .ref la, .int 0, .long 0, .long 1])), (dr, .inr (2, [.ref dp, .ref dc, .int 0]))]) [0, 1] rfl
  refine va_calli (va_runV (As := [.int p1, .int p2]) (rest := []) ⟨hx, hb, hml, hown, hts⟩ (mz_areTwo l dC dI cI cJ cZ mx dr th bk wt tt lh la dp dc p1 p2 s.heap ) (cwV 2 hts gX7_fit_X7_areTwo rfl rfl rfl (by decide +kernel) ⟨Nat.le_of_ble_eq_true rfl, Nat.le_of_ble_eq_true rfl⟩) ⟨fun a U g mk q => mz_blP q, va_recv hK hPc (ci := 7) (q0 := 0) rfl rfl, fun U hU hW => ⟨rfl, hU, hPc, va_K.moved hW.alike hK, mz_nw hW hN⟩⟩ rfl rfl hl.1 rfl (lv_room (Nat.le_of_ble_eq_true rfl)) dX7_fit_3 ⟨Nat.le_of_ble_eq_true rfl, Nat.le_of_ble_eq_true rfl⟩) hS (fun q _ h => h.elim) (fun q h => h.elim) (fun r u t H1 locs ht hvm hw hB hz1 hk1 hS => ?_)
  have hE : s.heap = H1 := hB.symm.trans ht
  subst hE
  obtain rfl : r = 0 := hw
  refine lv_if_eq (tgt := 33) hx hb dX7_fit_6 (by decide) (fun _ => ?_) (fun c_6 => absurd (by decide +kernel) c_6)
  refine lv_iconst (v := 0) hx hb dX7_fit_33 (by decide +kernel) ?_
  refine W.widen (k := 0) (n := 0) (Nat.le_of_ble_eq_true rfl) (Nat.le_of_ble_eq_true rfl) ?_
  exact W.zret (v := 0) hx hb hr (mz_nz (by decide +kernel)) (fun t ht hW => ⟨⟨0, (), rfl, rfl, ht⟩, hS.F ht⟩) hS.2.2 dX7_fit_34
set_option maxHeartbeats 1000000 in
set_option maxRecDepth 100000 in
theorem mz_agrees (l : Launch) (dC : Nat → ClassId) (dI : Nat → Nat → Nat) (cI cJ cZ : ClassId) (mx : Nat) (dr : Nat) (th : Nat) (bk : Nat) (wt : Nat) (tt : Nat) (lh : Nat) (la : Nat) (dp : Nat) (dc : Nat) (p1 : Int32) (p2 : Int32) (p3 : Int32) (p4 : Int32) (p5 : Int32) (Hq : Heap)  : Met l yX7_agrees wsX7_agrees ({ frames := 1, cells := 0, slots := 0, locals := 21 }) (va_Pc [.ref mx, .int p1, .int p2, .int p3, .int p4, .int p5] (fun U => U.heap = Hq ∧ va_P (dC, dI) vwCl [(mx, .inr (7, [.ref dr, .ref th, .ref bk, .ref wt, .ref tt, .ref lh, .ref la, .int 0, .long 0, .long 1])), (dr, .inr (2, [.ref dp, .ref dc, .int 0]))] Hq ∧ va_K (dC, dI) vwCl [(cI, FieldType.int), (cJ, FieldType.long), (cZ, FieldType.boolean)] U ∧ mz_N U)) (va_Qi (fun (r : Int32) (_ : Unit) => r = (-1)) (fun _ t => t.heap = Hq) (fun _ : Nat => False)) 0 0 (fun _ : Nat => False) := by
  refine Met.ofW (cc := cX7_agrees) (maxL := 8) (ret := (some .int)) (by decide) rfl ?_
  intro p e s m args below meth c s₁ B hml hv
  obtain ⟨rfl, hH, hP, hK, hN⟩ := hv
  subst hH
  have hx := B.exec
  have hb := B.bytes
  have hr := B.returns
  have hts := atoms_spec (ws := wsX7_agrees) B.pre
  have hown : s.vm.findClass RX7 = some m.cls := findClass_of_methodNamed B.named
  have hlocks := B.notSynchronized
  have hS : va_S (fun _ : Nat => False) s.heap s.heap [] := va_S.rf
  have hiX7 : ∀ w ∈ u_ws RX7 TX7 10, w ∈ wsX7_agrees := by decide +kernel
  have hl := lv_entry ([.ref mx, .int p1, .int p2, .int p3, .int p4, .int p5]) (n := 8) (Nat.le_of_ble_eq_true rfl)
  rw [lg_entry_eq]
  generalize (lg_sl ([.ref mx, .int p1, .int p2, .int p3, .int p4, .int p5]) ++ List.replicate (8 - (lg_sl ([.ref mx, .int p1, .int p2, .int p3, .int p4, .int p5])).length) Slot.unset).toArray = ls at hl ⊢
  have hl : lv_has ls 8 [(0, .ref mx), (1, .int p1), (2, .int p2), (3, .int p3), (4, .int p4), (5, .int p5)] := hl
  refine lv_aload_n hx hb dX7_agrees_0 rfl (lv_at hl 0 rfl) ?_
  refine va_get (D := (dC, dI)) (ci := 7) (v := .ref dr) (C := RX7) (T := TX7) (N := 10) hx hb hts hiX7 hown hK hP 0 rfl rfl 0 (by decide) (hts (.fieldLink RX7 12 "MadeItSo" "drawing" "LMadeItSo$Drawing;") (by decide +kernel)) (fun _ h9 => h9) rfl dX7_agrees_1 ?_
  refine lv_iload_n hx hb dX7_agrees_4 rfl (lv_at hl 1 rfl) ?_
  have hPc := hP.sub (ws' := [(dr, .inr (2, [.ref dp, .ref dc, .int 0]))]) [1] rfl
  refine va_calli (va_runV (As := [.int p1]) (rest := []) ⟨hx, hb, hml, hown, hts⟩ (mz_Drawing_has l dC dI cI cJ cZ dr dp dc p1 s.heap ) (cwV 1 hts gX7_agrees_X2_has rfl rfl rfl (by decide +kernel) ⟨Nat.le_of_ble_eq_true rfl, Nat.le_of_ble_eq_true rfl⟩) ⟨fun a U g mk q => mz_blP q, va_recv hK hPc (ci := 2) (q0 := 0) rfl rfl, fun U hU hW => ⟨rfl, hU, hPc, va_K.moved hW.alike hK, mz_nw hW hN⟩⟩ rfl rfl hl.1 rfl (lv_room (Nat.le_of_ble_eq_true rfl)) dX7_agrees_5 ⟨Nat.le_of_ble_eq_true rfl, Nat.le_of_ble_eq_true rfl⟩) hS (fun q _ h => h.elim) (fun q h => h.elim) (fun r u t H1 locs ht hvm hw hB hz1 hk1 hS => ?_)
  have hE : s.heap = H1 := hB.symm.trans ht
  subst hE
  obtain rfl : r = 0 := hw
  refine lv_if_eq (tgt := 46) hx hb dX7_agrees_8 (by decide) (fun _ => ?_) (fun c_8 => absurd (by decide +kernel) c_8)
  refine lv_iconst (v := (-1)) hx hb dX7_agrees_46 (by decide +kernel) ?_
  refine W.widen (k := 0) (n := 0) (Nat.le_of_ble_eq_true rfl) (Nat.le_of_ble_eq_true rfl) ?_
  exact W.iret (v := (-1)) hx hb hr (fun t ht hW => ⟨⟨(-1), (), rfl, rfl, ht⟩, hS.F ht⟩) hS.2.2 dX7_agrees_47
set_option maxHeartbeats 1000000 in
set_option maxRecDepth 100000 in
theorem mz_fixed (l : Launch) (dC : Nat → ClassId) (dI : Nat → Nat → Nat) (cI cJ cZ : ClassId) (mx : Nat) (dr : Nat) (th : Nat) (bk : Nat) (wt : Nat) (tt : Nat) (lh : Nat) (la : Nat) (dp : Nat) (dc : Nat) (p1 : Int32) (p2 : Int32) (Hq : Heap)  : Met l yX7_fixed wsX7_fixed ({ frames := 2, cells := 0, slots := 0, locals := 43 }) (va_Pc [.ref mx, .int p1, .int p2] (fun U => U.heap = Hq ∧ va_P (dC, dI) vwCl [(mx, .inr (7, [.ref dr, .ref th, .ref bk, .ref wt, .ref tt, .ref lh, .ref la, .int 0, .long 0, .long 1])), (dr, .inr (2, [.ref dp, .ref dc, .int 0]))] Hq ∧ va_K (dC, dI) vwCl [(cI, FieldType.int), (cJ, FieldType.long), (cZ, FieldType.boolean)] U ∧ mz_N U)) (va_Qi (fun (r : Int32) (_ : Unit) => r = 0) (fun _ t => t.heap = Hq) (fun _ : Nat => False)) 0 0 (fun _ : Nat => False) := by
  refine Met.ofW (cc := cX7_fixed) (maxL := 3) (ret := (some .boolean)) (by decide) rfl ?_
  intro p e s m args below meth c s₁ B hml hv
  obtain ⟨rfl, hH, hP, hK, hN⟩ := hv
  subst hH
  have hx := B.exec
  have hb := B.bytes
  have hr := B.returns
  have hts := atoms_spec (ws := wsX7_fixed) B.pre
  have hown : s.vm.findClass RX7 = some m.cls := findClass_of_methodNamed B.named
  have hlocks := B.notSynchronized
  have hS : va_S (fun _ : Nat => False) s.heap s.heap [] := va_S.rf
  have hiX7 : ∀ w ∈ u_ws RX7 TX7 10, w ∈ wsX7_fixed := by decide +kernel
  have hl := lv_entry ([.ref mx, .int p1, .int p2]) (n := 3) (Nat.le_of_ble_eq_true rfl)
  rw [lg_entry_eq]
  generalize (lg_sl ([.ref mx, .int p1, .int p2]) ++ List.replicate (3 - (lg_sl ([.ref mx, .int p1, .int p2])).length) Slot.unset).toArray = ls at hl ⊢
  have hl : lv_has ls 3 [(0, .ref mx), (1, .int p1), (2, .int p2)] := hl
  refine lv_aload_n hx hb dX7_fixed_0 rfl (lv_at hl 0 rfl) ?_
  refine va_get (D := (dC, dI)) (ci := 7) (v := .ref dr) (C := RX7) (T := TX7) (N := 10) hx hb hts hiX7 hown hK hP 0 rfl rfl 0 (by decide) (hts (.fieldLink RX7 12 "MadeItSo" "drawing" "LMadeItSo$Drawing;") (by decide +kernel)) (fun _ h9 => h9) rfl dX7_fixed_1 ?_
  refine lv_iload_n hx hb dX7_fixed_4 rfl (lv_at hl 1 rfl) ?_
  refine lv_iload_n hx hb dX7_fixed_5 rfl (lv_at hl 2 rfl) ?_
  have hPc := hP.sub (ws' := [(dr, .inr (2, [.ref dp, .ref dc, .int 0]))]) [1] rfl
  refine va_calli (va_runV (As := [.int p1, .int p2]) (rest := []) ⟨hx, hb, hml, hown, hts⟩ (mz_Drawing_leads l dC dI cI cJ cZ dr dp dc p1 p2 s.heap ) (cwV 2 hts gX7_fixed_X2_leads rfl rfl rfl (by decide +kernel) ⟨Nat.le_of_ble_eq_true rfl, Nat.le_of_ble_eq_true rfl⟩) ⟨fun a U g mk q => mz_blP q, va_recv hK hPc (ci := 2) (q0 := 0) rfl rfl, fun U hU hW => ⟨rfl, hU, hPc, va_K.moved hW.alike hK, mz_nw hW hN⟩⟩ rfl rfl hl.1 rfl (lv_room (Nat.le_of_ble_eq_true rfl)) dX7_fixed_6 ⟨Nat.le_of_ble_eq_true rfl, Nat.le_of_ble_eq_true rfl⟩) hS (fun q _ h => h.elim) (fun q h => h.elim) (fun r u t H1 locs ht hvm hw hB hz1 hk1 hS => ?_)
  have hE : s.heap = H1 := hB.symm.trans ht
  subst hE
  obtain rfl : r = 0 := hw
  refine lv_if_ne (tgt := 14) hx hb dX7_fixed_9 (by decide) (fun c_9 => absurd (by decide +kernel) c_9) (fun _ => ?_)
  refine lv_iconst (v := 0) hx hb dX7_fixed_12 (by decide +kernel) ?_
  refine W.widen (k := 0) (n := 0) (Nat.le_of_ble_eq_true rfl) (Nat.le_of_ble_eq_true rfl) ?_
  exact W.zret (v := 0) hx hb hr (mz_nz (by decide +kernel)) (fun t ht hW => ⟨⟨0, (), rfl, rfl, ht⟩, hS.F ht⟩) hS.2.2 dX7_fixed_13
set_option maxHeartbeats 1000000 in
set_option maxRecDepth 100000 in
theorem mz_otherwise (l : Launch) (dC : Nat → ClassId) (dI : Nat → Nat → Nat) (cI cJ cZ : ClassId) (mx : Nat) (dr : Nat) (th : Nat) (bk : Nat) (wt : Nat) (tt : Nat) (lh : Nat) (la : Nat) (dp : Nat) (dc : Nat) (p1 : Int32) (p2 : Int32) (p3 : Int32) (Hq : Heap)  : Met l yX7_otherwise wsX7_otherwise ({ frames := 2, cells := 0, slots := 0, locals := 43 }) (va_Pc [.ref mx, .int p1, .int p2, .int p3] (fun U => U.heap = Hq ∧ va_P (dC, dI) vwCl [(mx, .inr (7, [.ref dr, .ref th, .ref bk, .ref wt, .ref tt, .ref lh, .ref la, .int 0, .long 0, .long 1])), (dr, .inr (2, [.ref dp, .ref dc, .int 0]))] Hq ∧ va_K (dC, dI) vwCl [(cI, FieldType.int), (cJ, FieldType.long), (cZ, FieldType.boolean)] U ∧ mz_N U)) (va_Ql (fun (r : Int64) (_ : Unit) => r = (-1)) (fun _ t => t.heap = Hq) (fun _ : Nat => False)) 0 0 (fun _ : Nat => False) := by
  refine Met.ofW (cc := cX7_otherwise) (maxL := 8) (ret := (some .long)) (by decide) rfl ?_
  intro p e s m args below meth c s₁ B hml hv
  obtain ⟨rfl, hH, hP, hK, hN⟩ := hv
  subst hH
  have hx := B.exec
  have hb := B.bytes
  have hr := B.returns
  have hts := atoms_spec (ws := wsX7_otherwise) B.pre
  have hown : s.vm.findClass RX7 = some m.cls := findClass_of_methodNamed B.named
  have hlocks := B.notSynchronized
  have hS : va_S (fun _ : Nat => False) s.heap s.heap [] := va_S.rf
  have hl := lv_entry ([.ref mx, .int p1, .int p2, .int p3]) (n := 8) (Nat.le_of_ble_eq_true rfl)
  rw [lg_entry_eq]
  generalize (lg_sl ([.ref mx, .int p1, .int p2, .int p3]) ++ List.replicate (8 - (lg_sl ([.ref mx, .int p1, .int p2, .int p3])).length) Slot.unset).toArray = ls at hl ⊢
  have hl : lv_has ls 8 [(0, .ref mx), (1, .int p1), (2, .int p2), (3, .int p3)] := hl
  refine lv_aload_n hx hb dX7_otherwise_0 rfl (lv_at hl 0 rfl) ?_
  refine lv_iload_n hx hb dX7_otherwise_1 rfl (lv_at hl 1 rfl) ?_
  refine lv_iload_n hx hb dX7_otherwise_2 rfl (lv_at hl 2 rfl) ?_
  have hPc := hP.sub (ws' := [(mx, .inr (7, [.ref dr, .ref th, .ref bk, .ref wt, .ref tt, .ref lh, .ref la, .int 0, .long 0, .long 1])), (dr, .inr (2, [.ref dp, .ref dc, .int 0]))]) [0, 1] rfl
  refine va_calli (va_runV (As := [.int p1, .int p2]) (rest := []) ⟨hx, hb, hml, hown, hts⟩ (mz_areTwo l dC dI cI cJ cZ mx dr th bk wt tt lh la dp dc p1 p2 s.heap ) (cwV 2 hts gX7_otherwise_X7_areTwo rfl rfl rfl (by decide +kernel) ⟨Nat.le_of_ble_eq_true rfl, Nat.le_of_ble_eq_true rfl⟩) ⟨fun a U g mk q => mz_blP q, va_recv hK hPc (ci := 7) (q0 := 0) rfl rfl, fun U hU hW => ⟨rfl, hU, hPc, va_K.moved hW.alike hK, mz_nw hW hN⟩⟩ rfl rfl hl.1 rfl (lv_room (Nat.le_of_ble_eq_true rfl)) dX7_otherwise_3 ⟨Nat.le_of_ble_eq_true rfl, Nat.le_of_ble_eq_true rfl⟩) hS (fun q _ h => h.elim) (fun q h => h.elim) (fun r u t H1 locs ht hvm hw hB hz1 hk1 hS => ?_)
  have hE : s.heap = H1 := hB.symm.trans ht
  subst hE
  obtain rfl : r = 0 := hw
  refine lv_if_eq (tgt := 18) hx hb dX7_otherwise_6 (by decide) (fun _ => ?_) (fun c_6 => absurd (by decide +kernel) c_6)
  refine lv_ldc2 hx hb hown (hts (.constantLong RX7 121 (-1)) (by decide +kernel)) dX7_otherwise_18 ?_
  refine W.widen (k := 0) (n := 0) (Nat.le_of_ble_eq_true rfl) (Nat.le_of_ble_eq_true rfl) ?_
  exact W.lret (v := (-1)) hx hb hr (fun t ht hW => ⟨⟨(-1), (), rfl, rfl, ht⟩, hS.F ht⟩) hS.2.2 dX7_otherwise_21
set_option maxHeartbeats 1000000 in
set_option maxRecDepth 100000 in
theorem mz_above (l : Launch) (dC : Nat → ClassId) (dI : Nat → Nat → Nat) (cI cJ cZ : ClassId) (mx : Nat) (dr : Nat) (th : Nat) (bk : Nat) (wt : Nat) (tt : Nat) (lh : Nat) (la : Nat) (dp : Nat) (dc : Nat) (Hq : Heap)  : Met l yX7_above wsX7_above ({ frames := 0, cells := 0, slots := 0, locals := 0 }) (va_Pc [.ref mx] (fun U => U.heap = Hq ∧ va_P (dC, dI) vwCl [(mx, .inr (7, [.ref dr, .ref th, .ref bk, .ref wt, .ref tt, .ref lh, .ref la, .int 0, .long 0, .long 1])), (dr, .inr (2, [.ref dp, .ref dc, .int 0]))] Hq ∧ va_K (dC, dI) vwCl [(cI, FieldType.int), (cJ, FieldType.long), (cZ, FieldType.boolean)] U ∧ mz_N U)) (va_Ql (fun (r : Int64) (_ : Unit) => r = 0) (fun _ t => t.heap = Hq) (fun _ : Nat => False)) 0 0 (fun _ : Nat => False) := by
  refine Met.ofW (cc := cX7_above) (maxL := 1) (ret := (some .long)) (by decide) rfl ?_
  intro p e s m args below meth c s₁ B hml hv
  obtain ⟨rfl, hH, hP, hK, hN⟩ := hv
  subst hH
  have hx := B.exec
  have hb := B.bytes
  have hr := B.returns
  have hts := atoms_spec (ws := wsX7_above) B.pre
  have hown : s.vm.findClass RX7 = some m.cls := findClass_of_methodNamed B.named
  have hlocks := B.notSynchronized
  have hS : va_S (fun _ : Nat => False) s.heap s.heap [] := va_S.rf
  have hiX7 : ∀ w ∈ u_ws RX7 TX7 10, w ∈ wsX7_above := by decide +kernel
  have hl := lv_entry ([.ref mx]) (n := 1) (Nat.le_of_ble_eq_true rfl)
  rw [lg_entry_eq]
  generalize (lg_sl ([.ref mx]) ++ List.replicate (1 - (lg_sl ([.ref mx])).length) Slot.unset).toArray = ls at hl ⊢
  have hl : lv_has ls 1 [(0, .ref mx)] := hl
  refine lv_aload_n hx hb dX7_above_0 rfl (lv_at hl 0 rfl) ?_
  refine va_get (D := (dC, dI)) (ci := 7) (v := .long 0) (C := RX7) (T := TX7) (N := 10) hx hb hts hiX7 hown hK hP 0 rfl rfl 8 (by decide) (hts (.fieldLink RX7 58 "MadeItSo" "aboveLine" "J") (by decide +kernel)) (fun _ h9 => h9) rfl dX7_above_1 ?_
  refine W.widen (k := 0) (n := 0) (Nat.le_of_ble_eq_true rfl) (Nat.le_of_ble_eq_true rfl) ?_
  exact W.lret (v := 0) hx hb hr (fun t ht hW => ⟨⟨0, (), rfl, rfl, ht⟩, hS.F ht⟩) hS.2.2 dX7_above_4
set_option maxHeartbeats 1000000 in
set_option maxRecDepth 100000 in
theorem mz_below (l : Launch) (dC : Nat → ClassId) (dI : Nat → Nat → Nat) (cI cJ cZ : ClassId) (mx : Nat) (dr : Nat) (th : Nat) (bk : Nat) (wt : Nat) (tt : Nat) (lh : Nat) (la : Nat) (dp : Nat) (dc : Nat) (Hq : Heap)  : Met l yX7_below wsX7_below ({ frames := 0, cells := 0, slots := 0, locals := 0 }) (va_Pc [.ref mx] (fun U => U.heap = Hq ∧ va_P (dC, dI) vwCl [(mx, .inr (7, [.ref dr, .ref th, .ref bk, .ref wt, .ref tt, .ref lh, .ref la, .int 0, .long 0, .long 1])), (dr, .inr (2, [.ref dp, .ref dc, .int 0]))] Hq ∧ va_K (dC, dI) vwCl [(cI, FieldType.int), (cJ, FieldType.long), (cZ, FieldType.boolean)] U ∧ mz_N U)) (va_Ql (fun (r : Int64) (_ : Unit) => r = 1) (fun _ t => t.heap = Hq) (fun _ : Nat => False)) 0 0 (fun _ : Nat => False) := by
  refine Met.ofW (cc := cX7_below) (maxL := 1) (ret := (some .long)) (by decide) rfl ?_
  intro p e s m args below meth c s₁ B hml hv
  obtain ⟨rfl, hH, hP, hK, hN⟩ := hv
  subst hH
  have hx := B.exec
  have hb := B.bytes
  have hr := B.returns
  have hts := atoms_spec (ws := wsX7_below) B.pre
  have hown : s.vm.findClass RX7 = some m.cls := findClass_of_methodNamed B.named
  have hlocks := B.notSynchronized
  have hS : va_S (fun _ : Nat => False) s.heap s.heap [] := va_S.rf
  have hiX7 : ∀ w ∈ u_ws RX7 TX7 10, w ∈ wsX7_below := by decide +kernel
  have hl := lv_entry ([.ref mx]) (n := 1) (Nat.le_of_ble_eq_true rfl)
  rw [lg_entry_eq]
  generalize (lg_sl ([.ref mx]) ++ List.replicate (1 - (lg_sl ([.ref mx])).length) Slot.unset).toArray = ls at hl ⊢
  have hl : lv_has ls 1 [(0, .ref mx)] := hl
  refine lv_aload_n hx hb dX7_below_0 rfl (lv_at hl 0 rfl) ?_
  refine va_get (D := (dC, dI)) (ci := 7) (v := .long 1) (C := RX7) (T := TX7) (N := 10) hx hb hts hiX7 hown hK hP 0 rfl rfl 9 (by decide) (hts (.fieldLink RX7 62 "MadeItSo" "belowLine" "J") (by decide +kernel)) (fun _ h9 => h9) rfl dX7_below_1 ?_
  refine W.widen (k := 0) (n := 0) (Nat.le_of_ble_eq_true rfl) (Nat.le_of_ble_eq_true rfl) ?_
  exact W.lret (v := 1) hx hb hr (fun t ht hW => ⟨⟨1, (), rfl, rfl, ht⟩, hS.F ht⟩) hS.2.2 dX7_below_4
set_option maxHeartbeats 1000000 in
set_option maxRecDepth 100000 in
theorem mz_draw (l : Launch) (dC : Nat → ClassId) (dI : Nat → Nat → Nat) (cI cJ cZ : ClassId) (mx : Nat) (dr : Nat) (th : Nat) (bk : Nat) (wt : Nat) (tt : Nat) (lh : Nat) (la : Nat) (dp : Nat) (dc : Nat) (p1 : Int32) (p2 : Int32) (Hq : Heap)  : Met l yX7_draw wsX7_draw ({ frames := 3, cells := 0, slots := 0, locals := 62 }) (va_Pc [.ref mx, .int p1, .int p2] (fun U => U.heap = Hq ∧ va_P (dC, dI) vwCl [(mx, .inr (7, [.ref dr, .ref th, .ref bk, .ref wt, .ref tt, .ref lh, .ref la, .int 0, .long 0, .long 1])), (dr, .inr (2, [.ref dp, .ref dc, .int 0]))] Hq ∧ va_K (dC, dI) vwCl [(cI, FieldType.int), (cJ, FieldType.long), (cZ, FieldType.boolean)] U ∧ mz_N U)) (va_Qi (fun (r : Int32) (_ : Unit) => r = (if p2 = 0 then 0 else (-1))) (fun _ t => t.heap = Hq) (fun _ : Nat => False)) 0 0 (fun _ : Nat => False) := by
  refine Met.ofW (cc := cX7_draw) (maxL := 8) (ret := (some .int)) (by decide) rfl ?_
  intro p e s m args below meth c s₁ B hml hv
  obtain ⟨rfl, hH, hP, hK, hN⟩ := hv
  subst hH
  have hx := B.exec
  have hb := B.bytes
  have hr := B.returns
  have hts := atoms_spec (ws := wsX7_draw) B.pre
  have hown : s.vm.findClass RX7 = some m.cls := findClass_of_methodNamed B.named
  have hlocks := B.notSynchronized
  have hS : va_S (fun _ : Nat => False) s.heap s.heap [] := va_S.rf
  have hiX7 : ∀ w ∈ u_ws RX7 TX7 10, w ∈ wsX7_draw := by decide +kernel
  have hl := lv_entry ([.ref mx, .int p1, .int p2]) (n := 8) (Nat.le_of_ble_eq_true rfl)
  rw [lg_entry_eq]
  generalize (lg_sl ([.ref mx, .int p1, .int p2]) ++ List.replicate (8 - (lg_sl ([.ref mx, .int p1, .int p2])).length) Slot.unset).toArray = ls at hl ⊢
  have hl : lv_has ls 8 [(0, .ref mx), (1, .int p1), (2, .int p2)] := hl
  refine lv_aload_n hx hb dX7_draw_0 rfl (lv_at hl 0 rfl) ?_
  refine lv_iload_n hx hb dX7_draw_1 rfl (lv_at hl 2 rfl) ?_
  by_cases hz_2 : p2 = 0
  · subst hz_2
    have hPc := hP.sub (ws' := [(mx, .inr (7, [.ref dr, .ref th, .ref bk, .ref wt, .ref tt, .ref lh, .ref la, .int 0, .long 0, .long 1])), (dr, .inr (2, [.ref dp, .ref dc, .int 0]))]) [0, 1] rfl
    refine va_calli (va_runV (As := [.int 0]) (rest := []) ⟨hx, hb, hml, hown, hts⟩ (mz_isSetting_0 l dC dI cI cJ cZ mx dr th bk wt tt lh la dp dc 0 1 s.heap ) (cwV 1 hts gX7_draw_X7_isSetting rfl rfl rfl (by decide +kernel) ⟨Nat.le_of_ble_eq_true rfl, Nat.le_of_ble_eq_true rfl⟩) ⟨fun a U g mk q => mz_blP q, va_recv hK hPc (ci := 7) (q0 := 0) rfl rfl, fun U hU hW => ⟨rfl, hU, hPc, va_K.moved hW.alike hK, mz_nw hW hN⟩⟩ rfl rfl hl.1 rfl (lv_room (Nat.le_of_ble_eq_true rfl)) dX7_draw_2 ⟨Nat.le_of_ble_eq_true rfl, Nat.le_of_ble_eq_true rfl⟩) hS (fun q _ h => h.elim) (fun q h => h.elim) (fun r u t H1 locs ht hvm hw hB hz1 hk1 hS => ?_)
    have hE : s.heap = H1 := hB.symm.trans ht
    subst hE
    obtain rfl : r = 1 := hw
    refine lv_if_ne (tgt := 10) hx hb dX7_draw_5 (by decide) (fun _ => ?_) (fun c_5 => absurd c_5 (by decide +kernel))
    refine lv_iload_n hx hb dX7_draw_10 rfl (lv_at hl 1 rfl) ?_
    refine lv_istore_n (lv' := [(3, .int p1), (0, .ref mx), (1, .int p1), (2, .int 0)]) hx hb dX7_draw_11 rfl hl (by decide) rfl (fun ls hl => ?_)
    refine lv_iconst (v := 0) hx hb dX7_draw_12 (by decide +kernel) ?_
    refine lv_istore (lv' := [(4, .int 0), (3, .int p1), (0, .ref mx), (1, .int p1), (2, .int 0)]) hx hb dX7_draw_13 hl (by decide) rfl (fun ls hl => ?_)
    refine lv_iconst (v := 0) hx hb dX7_draw_15 (by decide +kernel) ?_
    refine lv_istore (lv' := [(5, .int 0), (4, .int 0), (3, .int p1), (0, .ref mx), (1, .int p1), (2, .int 0)]) hx hb dX7_draw_16 hl (by decide) rfl (fun ls hl => ?_)
    refine lv_iconst (v := 0) hx hb dX7_draw_18 (by decide +kernel) ?_
    refine lv_istore (lv' := [(6, .int 0), (5, .int 0), (4, .int 0), (3, .int p1), (0, .ref mx), (1, .int p1), (2, .int 0)]) hx hb dX7_draw_19 hl (by decide) rfl (fun ls hl => ?_)
    refine lv_iload hx hb dX7_draw_21 (lv_at hl 0 rfl) ?_
    refine lv_aload_n hx hb dX7_draw_23 rfl (lv_at hl 4 rfl) ?_
    refine va_get (D := (dC, dI)) (ci := 7) (v := .ref dr) (C := RX7) (T := TX7) (N := 10) hx hb hts hiX7 hown hK hP 0 rfl rfl 0 (by decide) (hts (.fieldLink RX7 12 "MadeItSo" "drawing" "LMadeItSo$Drawing;") (by decide +kernel)) (fun _ h9 => h9) rfl dX7_draw_24 ?_
    have hPc := hP.sub (ws' := [(dr, .inr (2, [.ref dp, .ref dc, .int 0]))]) [1] rfl
    refine va_calli (va_runV (As := []) (rest := [.int 0]) ⟨hx, hb, hml, hown, hts⟩ (mz_Drawing_size l dC dI cI cJ cZ dr dp dc s.heap ) (cwV 0 hts gX7_draw_X2_size rfl rfl rfl (by decide +kernel) ⟨Nat.le_of_ble_eq_true rfl, Nat.le_of_ble_eq_true rfl⟩) ⟨fun a U g mk q => mz_blP q, va_recv hK hPc (ci := 2) (q0 := 0) rfl rfl, fun U hU hW => ⟨rfl, hU, hPc, va_K.moved hW.alike hK, mz_nw hW hN⟩⟩ rfl rfl hl.1 rfl (lv_room (Nat.le_of_ble_eq_true rfl)) dX7_draw_27 ⟨Nat.le_of_ble_eq_true rfl, Nat.le_of_ble_eq_true rfl⟩) hS (fun q _ h => h.elim) (fun q h => h.elim) (fun r u t H1 locs ht hvm hw hB hz1 hk1 hS => ?_)
    have hE : s.heap = H1 := hB.symm.trans ht
    subst hE
    obtain rfl : r = 0 := hw
    refine lv_icmp_ge (tgt := 114) hx hb dX7_draw_30 (by decide) (fun _ => ?_) (fun c_30 => absurd (by decide +kernel) c_30)
    refine lv_iload hx hb dX7_draw_114 (lv_at hl 1 rfl) ?_
    refine W.widen (k := 0) (n := 0) (Nat.le_of_ble_eq_true rfl) (Nat.le_of_ble_eq_true rfl) ?_
    exact W.iret (v := 0) hx hb hr (fun t ht hW => ⟨⟨0, (), rfl, by simp [*], ht⟩, hS.F ht⟩) hS.2.2 dX7_draw_116
  · skip
    have hPc := hP.sub (ws' := [(mx, .inr (7, [.ref dr, .ref th, .ref bk, .ref wt, .ref tt, .ref lh, .ref la, .int 0, .long 0, .long 1])), (dr, .inr (2, [.ref dp, .ref dc, .int 0]))]) [0, 1] rfl
    refine va_calli (va_runV (As := [.int p2]) (rest := []) ⟨hx, hb, hml, hown, hts⟩ (mz_isSetting_n l dC dI cI cJ cZ mx dr th bk wt tt lh la dp dc 0 1 p2 s.heap hz_2) (cwV 1 hts gX7_draw_X7_isSetting rfl rfl rfl (by decide +kernel) ⟨Nat.le_of_ble_eq_true rfl, Nat.le_of_ble_eq_true rfl⟩) ⟨fun a U g mk q => mz_blP q, va_recv hK hPc (ci := 7) (q0 := 0) rfl rfl, fun U hU hW => ⟨rfl, hU, hPc, va_K.moved hW.alike hK, mz_nw hW hN⟩⟩ rfl rfl hl.1 rfl (lv_room (Nat.le_of_ble_eq_true rfl)) dX7_draw_2 ⟨Nat.le_of_ble_eq_true rfl, Nat.le_of_ble_eq_true rfl⟩) hS (fun q _ h => h.elim) (fun q h => h.elim) (fun r u t H1 locs ht hvm hw hB hz1 hk1 hS => ?_)
    have hE : s.heap = H1 := hB.symm.trans ht
    subst hE
    obtain rfl : r = 0 := hw
    refine lv_if_ne (tgt := 10) hx hb dX7_draw_5 (by decide) (fun c_5 => absurd (by decide +kernel) c_5) (fun _ => ?_)
    refine lv_iconst (v := (-1)) hx hb dX7_draw_8 (by decide +kernel) ?_
    refine W.widen (k := 0) (n := 0) (Nat.le_of_ble_eq_true rfl) (Nat.le_of_ble_eq_true rfl) ?_
    exact W.iret (v := (-1)) hx hb hr (fun t ht hW => ⟨⟨(-1), (), rfl, by simp [*], ht⟩, hS.F ht⟩) hS.2.2 dX7_draw_9
set_option maxHeartbeats 1000000 in
set_option maxRecDepth 100000 in
theorem mz_count (l : Launch) (dC : Nat → ClassId) (dI : Nat → Nat → Nat) (cI cJ cZ : ClassId) (mx : Nat) (dr : Nat) (th : Nat) (bk : Nat) (wt : Nat) (tt : Nat) (lh : Nat) (la : Nat) (dp : Nat) (dc : Nat) (p1 : Int32) (Hq : Heap)  : Met l yX7_count wsX7_count ({ frames := 1, cells := 0, slots := 0, locals := 22 }) (va_Pc [.ref mx, .int p1] (fun U => U.heap = Hq ∧ va_P (dC, dI) vwCl [(mx, .inr (7, [.ref dr, .ref th, .ref bk, .ref wt, .ref tt, .ref lh, .ref la, .int 0, .long 0, .long 1])), (dr, .inr (2, [.ref dp, .ref dc, .int 0]))] Hq ∧ va_K (dC, dI) vwCl [(cI, FieldType.int), (cJ, FieldType.long), (cZ, FieldType.boolean)] U ∧ mz_N U)) (va_Qi (fun (r : Int32) (_ : Unit) => r = (if p1 = 0 then 0 else if p1 = 1 then 0 else if p1 = 2 then 0 else (-1))) (fun _ t => t.heap = Hq) (fun _ : Nat => False)) 0 0 (fun _ : Nat => False) := by
  refine Met.ofW (cc := cX7_count) (maxL := 2) (ret := (some .int)) (by decide) rfl ?_
  intro p e s m args below meth c s₁ B hml hv
  obtain ⟨rfl, hH, hP, hK, hN⟩ := hv
  subst hH
  have hx := B.exec
  have hb := B.bytes
  have hr := B.returns
  have hts := atoms_spec (ws := wsX7_count) B.pre
  have hown : s.vm.findClass RX7 = some m.cls := findClass_of_methodNamed B.named
  have hlocks := B.notSynchronized
  have hS : va_S (fun _ : Nat => False) s.heap s.heap [] := va_S.rf
  have hiX7 : ∀ w ∈ u_ws RX7 TX7 10, w ∈ wsX7_count := by decide +kernel
  have hl := lv_entry ([.ref mx, .int p1]) (n := 2) (Nat.le_of_ble_eq_true rfl)
  rw [lg_entry_eq]
  generalize (lg_sl ([.ref mx, .int p1]) ++ List.replicate (2 - (lg_sl ([.ref mx, .int p1])).length) Slot.unset).toArray = ls at hl ⊢
  have hl : lv_has ls 2 [(0, .ref mx), (1, .int p1)] := hl
  refine lv_iload_n hx hb dX7_count_0 rfl (lv_at hl 1 rfl) ?_
  by_cases hs_0 : p1 = 0
  · subst hs_0
    refine lv_tableIn (tgt := 28) (off := 27) hx hb dX7_count_1 (by decide +kernel) (by decide +kernel) (by decide +kernel) (by decide) ?_
    refine lv_aload_n hx hb dX7_count_28 rfl (lv_at hl 0 rfl) ?_
    refine va_get (D := (dC, dI)) (ci := 7) (v := .ref dr) (C := RX7) (T := TX7) (N := 10) hx hb hts hiX7 hown hK hP 0 rfl rfl 0 (by decide) (hts (.fieldLink RX7 12 "MadeItSo" "drawing" "LMadeItSo$Drawing;") (by decide +kernel)) (fun _ h9 => h9) rfl dX7_count_29 ?_
    have hPc := hP.sub (ws' := [(dr, .inr (2, [.ref dp, .ref dc, .int 0]))]) [1] rfl
    refine va_calli (va_runV (As := []) (rest := []) ⟨hx, hb, hml, hown, hts⟩ (mz_Drawing_size l dC dI cI cJ cZ dr dp dc s.heap ) (cwV 0 hts gX7_count_X2_size rfl rfl rfl (by decide +kernel) ⟨Nat.le_of_ble_eq_true rfl, Nat.le_of_ble_eq_true rfl⟩) ⟨fun a U g mk q => mz_blP q, va_recv hK hPc (ci := 2) (q0 := 0) rfl rfl, fun U hU hW => ⟨rfl, hU, hPc, va_K.moved hW.alike hK, mz_nw hW hN⟩⟩ rfl rfl hl.1 rfl (lv_room (Nat.le_of_ble_eq_true rfl)) dX7_count_32 ⟨Nat.le_of_ble_eq_true rfl, Nat.le_of_ble_eq_true rfl⟩) hS (fun q _ h => h.elim) (fun q h => h.elim) (fun r u t H1 locs ht hvm hw hB hz1 hk1 hS => ?_)
    have hE : s.heap = H1 := hB.symm.trans ht
    subst hE
    obtain rfl : r = 0 := hw
    refine W.widen (k := 0) (n := 0) (Nat.le_of_ble_eq_true rfl) (Nat.le_of_ble_eq_true rfl) ?_
    exact W.iret (v := 0) hx hb hr (fun t ht hW => ⟨⟨0, (), rfl, by simp [*], ht⟩, hS.F ht⟩) hS.2.2 dX7_count_35
  by_cases hs_1 : p1 = 1
  · subst hs_1
    refine lv_tableIn (tgt := 36) (off := 35) hx hb dX7_count_1 (by decide +kernel) (by decide +kernel) (by decide +kernel) (by decide) ?_
    refine lv_aload_n hx hb dX7_count_36 rfl (lv_at hl 0 rfl) ?_
    refine va_get (D := (dC, dI)) (ci := 7) (v := .ref dr) (C := RX7) (T := TX7) (N := 10) hx hb hts hiX7 hown hK hP 0 rfl rfl 0 (by decide) (hts (.fieldLink RX7 12 "MadeItSo" "drawing" "LMadeItSo$Drawing;") (by decide +kernel)) (fun _ h9 => h9) rfl dX7_count_37 ?_
    have hPc := hP.sub (ws' := [(dr, .inr (2, [.ref dp, .ref dc, .int 0]))]) [1] rfl
    refine va_calli (va_runV (As := []) (rest := []) ⟨hx, hb, hml, hown, hts⟩ (mz_Drawing_arrows l dC dI cI cJ cZ dr dp dc s.heap ) (cwV 0 hts gX7_count_X2_arrows rfl rfl rfl (by decide +kernel) ⟨Nat.le_of_ble_eq_true rfl, Nat.le_of_ble_eq_true rfl⟩) ⟨fun a U g mk q => mz_blP q, va_recv hK hPc (ci := 2) (q0 := 0) rfl rfl, fun U hU hW => ⟨rfl, hU, hPc, va_K.moved hW.alike hK, mz_nw hW hN⟩⟩ rfl rfl hl.1 rfl (lv_room (Nat.le_of_ble_eq_true rfl)) dX7_count_40 ⟨Nat.le_of_ble_eq_true rfl, Nat.le_of_ble_eq_true rfl⟩) hS (fun q _ h => h.elim) (fun q h => h.elim) (fun r u t H1 locs ht hvm hw hB hz1 hk1 hS => ?_)
    have hE : s.heap = H1 := hB.symm.trans ht
    subst hE
    obtain rfl : r = 0 := hw
    refine W.widen (k := 0) (n := 0) (Nat.le_of_ble_eq_true rfl) (Nat.le_of_ble_eq_true rfl) ?_
    exact W.iret (v := 0) hx hb hr (fun t ht hW => ⟨⟨0, (), rfl, by simp [*], ht⟩, hS.F ht⟩) hS.2.2 dX7_count_43
  by_cases hs_2 : p1 = 2
  · subst hs_2
    refine lv_tableIn (tgt := 44) (off := 43) hx hb dX7_count_1 (by decide +kernel) (by decide +kernel) (by decide +kernel) (by decide) ?_
    refine lv_aload_n hx hb dX7_count_44 rfl (lv_at hl 0 rfl) ?_
    refine va_get (D := (dC, dI)) (ci := 7) (v := .int 0) (C := RX7) (T := TX7) (N := 10) hx hb hts hiX7 hown hK hP 0 rfl rfl 7 (by decide) (hts (.fieldLink RX7 54 "MadeItSo" "seenHeap" "I") (by decide +kernel)) (fun _ h9 => h9) rfl dX7_count_45 ?_
    refine W.widen (k := 0) (n := 0) (Nat.le_of_ble_eq_true rfl) (Nat.le_of_ble_eq_true rfl) ?_
    exact W.iret (v := 0) hx hb hr (fun t ht hW => ⟨⟨0, (), rfl, by simp [*], ht⟩, hS.F ht⟩) hS.2.2 dX7_count_48
  refine lv_tableOut (tgt := 49) hx hb dX7_count_1 (mz_sw hs_0 hs_1 hs_2) (by decide) ?_
  refine lv_iconst (v := (-1)) hx hb dX7_count_49 (by decide +kernel) ?_
  refine W.widen (k := 0) (n := 0) (Nat.le_of_ble_eq_true rfl) (Nat.le_of_ble_eq_true rfl) ?_
  exact W.iret (v := (-1)) hx hb hr (fun t ht hW => ⟨⟨(-1), (), rfl, by simp [*], ht⟩, hS.F ht⟩) hS.2.2 dX7_count_50
set_option maxHeartbeats 1000000 in
set_option maxRecDepth 100000 in
theorem mz_bars (l : Launch) (dC : Nat → ClassId) (dI : Nat → Nat → Nat) (cI cJ cZ : ClassId) (mx : Nat) (dr : Nat) (th : Nat) (bk : Nat) (wt : Nat) (tt : Nat) (lh : Nat) (la : Nat) (dp : Nat) (dc : Nat) (fp : Nat → Int32) (fc : Nat → Int32) (p1 : Int32) (p2 : Int32) (p3 : Int32) (Hq : Heap)  : Met l yX7_bars wsX7_bars ({ frames := 4, cells := 0, slots := 0, locals := 100 }) (va_Pc [.ref mx, .int p1, .int p2, .int p3] (fun U => U.heap = Hq ∧ va_P (dC, dI) vwCl [(mx, .inr (7, [.ref dr, .ref th, .ref bk, .ref wt, .ref tt, .ref lh, .ref la, .int 0, .long 0, .long 1])), (dr, .inr (2, [.ref dp, .ref dc, .int 0])), (dp, .inl (cI, 8, .inl fp)), (dc, .inl (cI, 8, .inl fc))] Hq ∧ va_K (dC, dI) vwCl [(cI, FieldType.int), (cJ, FieldType.long), (cZ, FieldType.boolean)] U ∧ mz_N U)) (va_Qi (fun (r : Int32) (_ : Unit) => r = (if p1 = 0 ∧ p2 = 0 ∧ p3 = 0 then 1 else 0)) (fun _ t => t.heap = Hq) (fun _ : Nat => False)) 0 0 (fun _ : Nat => False) := by
  refine Met.ofW (cc := cX7_bars) (maxL := 4) (ret := (some .boolean)) (by decide) rfl ?_
  intro p e s m args below meth c s₁ B hml hv
  obtain ⟨rfl, hH, hP, hK, hN⟩ := hv
  subst hH
  have hx := B.exec
  have hb := B.bytes
  have hr := B.returns
  have hts := atoms_spec (ws := wsX7_bars) B.pre
  have hown : s.vm.findClass RX7 = some m.cls := findClass_of_methodNamed B.named
  have hlocks := B.notSynchronized
  have hS : va_S (fun _ : Nat => False) s.heap s.heap [] := va_S.rf
  have hiX7 : ∀ w ∈ u_ws RX7 TX7 10, w ∈ wsX7_bars := by decide +kernel
  have hl := lv_entry ([.ref mx, .int p1, .int p2, .int p3]) (n := 4) (Nat.le_of_ble_eq_true rfl)
  rw [lg_entry_eq]
  generalize (lg_sl ([.ref mx, .int p1, .int p2, .int p3]) ++ List.replicate (4 - (lg_sl ([.ref mx, .int p1, .int p2, .int p3])).length) Slot.unset).toArray = ls at hl ⊢
  have hl : lv_has ls 4 [(0, .ref mx), (1, .int p1), (2, .int p2), (3, .int p3)] := hl
  refine lv_aload_n hx hb dX7_bars_0 rfl (lv_at hl 0 rfl) ?_
  refine lv_iload_n hx hb dX7_bars_1 rfl (lv_at hl 1 rfl) ?_
  by_cases hz_2 : p1 = 0
  · subst hz_2
    have hPc := hP.sub (ws' := [(mx, .inr (7, [.ref dr, .ref th, .ref bk, .ref wt, .ref tt, .ref lh, .ref la, .int 0, .long 0, .long 1])), (dr, .inr (2, [.ref dp, .ref dc, .int 0]))]) [0, 1] rfl
    refine va_calli (va_runV (As := [.int 0]) (rest := []) ⟨hx, hb, hml, hown, hts⟩ (mz_isHeap_0 l dC dI cI cJ cZ mx dr th bk wt tt lh la dp dc 0 1 s.heap ) (cwV 1 hts gX7_bars_X7_isHeap rfl rfl rfl (by decide +kernel) ⟨Nat.le_of_ble_eq_true rfl, Nat.le_of_ble_eq_true rfl⟩) ⟨fun a U g mk q => mz_blP q, va_recv hK hPc (ci := 7) (q0 := 0) rfl rfl, fun U hU hW => ⟨rfl, hU, hPc, va_K.moved hW.alike hK, mz_nw hW hN⟩⟩ rfl rfl hl.1 rfl (lv_room (Nat.le_of_ble_eq_true rfl)) dX7_bars_2 ⟨Nat.le_of_ble_eq_true rfl, Nat.le_of_ble_eq_true rfl⟩) hS (fun q _ h => h.elim) (fun q h => h.elim) (fun r u t H1 locs ht hvm hw hB hz1 hk1 hS => ?_)
    have hE : s.heap = H1 := hB.symm.trans ht
    subst hE
    obtain rfl : r = 1 := hw
    refine lv_if_eq (tgt := 24) hx hb dX7_bars_5 (by decide) (fun c_5 => absurd c_5 (by decide +kernel)) (fun _ => ?_)
    refine lv_aload_n hx hb dX7_bars_8 rfl (lv_at hl 0 rfl) ?_
    refine lv_iload_n hx hb dX7_bars_9 rfl (lv_at hl 2 rfl) ?_
    by_cases hz_10 : p2 = 0
    · subst hz_10
      have hPc := hP.sub (ws' := [(mx, .inr (7, [.ref dr, .ref th, .ref bk, .ref wt, .ref tt, .ref lh, .ref la, .int 0, .long 0, .long 1])), (dr, .inr (2, [.ref dp, .ref dc, .int 0]))]) [0, 1] rfl
      refine va_calli (va_runV (As := [.int 0]) (rest := []) ⟨hx, hb, hml, hown, hts⟩ (mz_isHeap_0 l dC dI cI cJ cZ mx dr th bk wt tt lh la dp dc 0 1 s.heap ) (cwV 1 hts gX7_bars_X7_isHeap rfl rfl rfl (by decide +kernel) ⟨Nat.le_of_ble_eq_true rfl, Nat.le_of_ble_eq_true rfl⟩) ⟨fun a U g mk q => mz_blP q, va_recv hK hPc (ci := 7) (q0 := 0) rfl rfl, fun U hU hW => ⟨rfl, hU, hPc, va_K.moved hW.alike hK, mz_nw hW hN⟩⟩ rfl rfl hl.1 rfl (lv_room (Nat.le_of_ble_eq_true rfl)) dX7_bars_10 ⟨Nat.le_of_ble_eq_true rfl, Nat.le_of_ble_eq_true rfl⟩) hS (fun q _ h => h.elim) (fun q h => h.elim) (fun r u t H1 locs ht hvm hw hB hz1 hk1 hS => ?_)
      have hE : s.heap = H1 := hB.symm.trans ht
      subst hE
      obtain rfl : r = 1 := hw
      refine lv_if_eq (tgt := 24) hx hb dX7_bars_13 (by decide) (fun c_13 => absurd c_13 (by decide +kernel)) (fun _ => ?_)
      refine lv_aload_n hx hb dX7_bars_16 rfl (lv_at hl 0 rfl) ?_
      refine lv_iload_n hx hb dX7_bars_17 rfl (lv_at hl 3 rfl) ?_
      by_cases hz_18 : p3 = 0
      · subst hz_18
        have hPc := hP.sub (ws' := [(mx, .inr (7, [.ref dr, .ref th, .ref bk, .ref wt, .ref tt, .ref lh, .ref la, .int 0, .long 0, .long 1])), (dr, .inr (2, [.ref dp, .ref dc, .int 0]))]) [0, 1] rfl
        refine va_calli (va_runV (As := [.int 0]) (rest := []) ⟨hx, hb, hml, hown, hts⟩ (mz_isHeap_0 l dC dI cI cJ cZ mx dr th bk wt tt lh la dp dc 0 1 s.heap ) (cwV 1 hts gX7_bars_X7_isHeap rfl rfl rfl (by decide +kernel) ⟨Nat.le_of_ble_eq_true rfl, Nat.le_of_ble_eq_true rfl⟩) ⟨fun a U g mk q => mz_blP q, va_recv hK hPc (ci := 7) (q0 := 0) rfl rfl, fun U hU hW => ⟨rfl, hU, hPc, va_K.moved hW.alike hK, mz_nw hW hN⟩⟩ rfl rfl hl.1 rfl (lv_room (Nat.le_of_ble_eq_true rfl)) dX7_bars_18 ⟨Nat.le_of_ble_eq_true rfl, Nat.le_of_ble_eq_true rfl⟩) hS (fun q _ h => h.elim) (fun q h => h.elim) (fun r u t H1 locs ht hvm hw hB hz1 hk1 hS => ?_)
        have hE : s.heap = H1 := hB.symm.trans ht
        subst hE
        obtain rfl : r = 1 := hw
        refine lv_if_ne (tgt := 26) hx hb dX7_bars_21 (by decide) (fun _ => ?_) (fun c_21 => absurd c_21 (by decide +kernel))
        refine lv_iload_n hx hb dX7_bars_26 rfl (lv_at hl 1 rfl) ?_
        refine lv_iload_n hx hb dX7_bars_27 rfl (lv_at hl 2 rfl) ?_
        refine lv_iand hx hb dX7_bars_28 ?_
        refine mz_ti (y := 0) (by decide +kernel) ?_
        refine lv_if_ne (tgt := 44) hx hb dX7_bars_29 (by decide) (fun c_29 => absurd (by decide +kernel) c_29) (fun _ => ?_)
        refine lv_iload_n hx hb dX7_bars_32 rfl (lv_at hl 1 rfl) ?_
        refine lv_iload_n hx hb dX7_bars_33 rfl (lv_at hl 3 rfl) ?_
        refine lv_iand hx hb dX7_bars_34 ?_
        refine mz_ti (y := 0) (by decide +kernel) ?_
        refine lv_if_ne (tgt := 44) hx hb dX7_bars_35 (by decide) (fun c_35 => absurd (by decide +kernel) c_35) (fun _ => ?_)
        refine lv_iload_n hx hb dX7_bars_38 rfl (lv_at hl 2 rfl) ?_
        refine lv_iload_n hx hb dX7_bars_39 rfl (lv_at hl 3 rfl) ?_
        refine lv_iand hx hb dX7_bars_40 ?_
        refine mz_ti (y := 0) (by decide +kernel) ?_
        refine lv_if_eq (tgt := 46) hx hb dX7_bars_41 (by decide) (fun _ => ?_) (fun c_41 => absurd (by decide +kernel) c_41)
        refine lv_aload_n hx hb dX7_bars_46 rfl (lv_at hl 0 rfl) ?_
        refine va_get (D := (dC, dI)) (ci := 7) (v := .ref dr) (C := RX7) (T := TX7) (N := 10) hx hb hts hiX7 hown hK hP 0 rfl rfl 0 (by decide) (hts (.fieldLink RX7 12 "MadeItSo" "drawing" "LMadeItSo$Drawing;") (by decide +kernel)) (fun _ h9 => h9) rfl dX7_bars_47 ?_
        refine lv_iload_n hx hb dX7_bars_50 rfl (lv_at hl 1 rfl) ?_
        refine lv_iload_n hx hb dX7_bars_51 rfl (lv_at hl 2 rfl) ?_
        refine lv_iload_n hx hb dX7_bars_52 rfl (lv_at hl 3 rfl) ?_
        have hPc := hP.sub (ws' := [(dr, .inr (2, [.ref dp, .ref dc, .int 0])), (dp, .inl (cI, 8, .inl fp)), (dc, .inl (cI, 8, .inl fc))]) [1, 2, 3] rfl
        refine va_calli (va_runV (As := [.int 0, .int 0, .int 0]) (rest := []) ⟨hx, hb, hml, hown, hts⟩ (mz_barred0 l dC dI cI cJ cZ dr dp dc fp fc s.heap ) (cwV 3 hts gX7_bars_X2_barred rfl rfl rfl (by decide +kernel) ⟨Nat.le_of_ble_eq_true rfl, Nat.le_of_ble_eq_true rfl⟩) ⟨fun a U g mk q => mz_blP q, va_recv hK hPc (ci := 2) (q0 := 0) rfl rfl, fun U hU hW => ⟨rfl, hU, hPc, va_K.moved hW.alike hK, mz_nw hW hN⟩⟩ rfl rfl hl.1 rfl (lv_room (Nat.le_of_ble_eq_true rfl)) dX7_bars_53 ⟨Nat.le_of_ble_eq_true rfl, Nat.le_of_ble_eq_true rfl⟩) hS (fun q _ h => h.elim) (fun q h => h.elim) (fun r u t H1 locs ht hvm hw hB hz1 hk1 hS => ?_)
        have hE : s.heap = H1 := hB.symm.trans ht
        subst hE
        obtain rfl : r = 1 := hw
        refine W.widen (k := 0) (n := 0) (Nat.le_of_ble_eq_true rfl) (Nat.le_of_ble_eq_true rfl) ?_
        exact W.zret (v := 1) hx hb hr (mz_nz (by decide +kernel)) (fun t ht hW => ⟨⟨1, (), rfl, by simp [*], ht⟩, hS.F ht⟩) hS.2.2 dX7_bars_56
      · skip
        have hPc := hP.sub (ws' := [(mx, .inr (7, [.ref dr, .ref th, .ref bk, .ref wt, .ref tt, .ref lh, .ref la, .int 0, .long 0, .long 1])), (dr, .inr (2, [.ref dp, .ref dc, .int 0]))]) [0, 1] rfl
        refine va_calli (va_runV (As := [.int p3]) (rest := []) ⟨hx, hb, hml, hown, hts⟩ (mz_isHeap_n l dC dI cI cJ cZ mx dr th bk wt tt lh la dp dc 0 1 p3 s.heap hz_18) (cwV 1 hts gX7_bars_X7_isHeap rfl rfl rfl (by decide +kernel) ⟨Nat.le_of_ble_eq_true rfl, Nat.le_of_ble_eq_true rfl⟩) ⟨fun a U g mk q => mz_blP q, va_recv hK hPc (ci := 7) (q0 := 0) rfl rfl, fun U hU hW => ⟨rfl, hU, hPc, va_K.moved hW.alike hK, mz_nw hW hN⟩⟩ rfl rfl hl.1 rfl (lv_room (Nat.le_of_ble_eq_true rfl)) dX7_bars_18 ⟨Nat.le_of_ble_eq_true rfl, Nat.le_of_ble_eq_true rfl⟩) hS (fun q _ h => h.elim) (fun q h => h.elim) (fun r u t H1 locs ht hvm hw hB hz1 hk1 hS => ?_)
        have hE : s.heap = H1 := hB.symm.trans ht
        subst hE
        obtain rfl : r = 0 := hw
        refine lv_if_ne (tgt := 26) hx hb dX7_bars_21 (by decide) (fun c_21 => absurd (by decide +kernel) c_21) (fun _ => ?_)
        refine lv_iconst (v := 0) hx hb dX7_bars_24 (by decide +kernel) ?_
        refine W.widen (k := 0) (n := 0) (Nat.le_of_ble_eq_true rfl) (Nat.le_of_ble_eq_true rfl) ?_
        exact W.zret (v := 0) hx hb hr (mz_nz (by decide +kernel)) (fun t ht hW => ⟨⟨0, (), rfl, by simp [*], ht⟩, hS.F ht⟩) hS.2.2 dX7_bars_25
    · skip
      have hPc := hP.sub (ws' := [(mx, .inr (7, [.ref dr, .ref th, .ref bk, .ref wt, .ref tt, .ref lh, .ref la, .int 0, .long 0, .long 1])), (dr, .inr (2, [.ref dp, .ref dc, .int 0]))]) [0, 1] rfl
      refine va_calli (va_runV (As := [.int p2]) (rest := []) ⟨hx, hb, hml, hown, hts⟩ (mz_isHeap_n l dC dI cI cJ cZ mx dr th bk wt tt lh la dp dc 0 1 p2 s.heap hz_10) (cwV 1 hts gX7_bars_X7_isHeap rfl rfl rfl (by decide +kernel) ⟨Nat.le_of_ble_eq_true rfl, Nat.le_of_ble_eq_true rfl⟩) ⟨fun a U g mk q => mz_blP q, va_recv hK hPc (ci := 7) (q0 := 0) rfl rfl, fun U hU hW => ⟨rfl, hU, hPc, va_K.moved hW.alike hK, mz_nw hW hN⟩⟩ rfl rfl hl.1 rfl (lv_room (Nat.le_of_ble_eq_true rfl)) dX7_bars_10 ⟨Nat.le_of_ble_eq_true rfl, Nat.le_of_ble_eq_true rfl⟩) hS (fun q _ h => h.elim) (fun q h => h.elim) (fun r u t H1 locs ht hvm hw hB hz1 hk1 hS => ?_)
      have hE : s.heap = H1 := hB.symm.trans ht
      subst hE
      obtain rfl : r = 0 := hw
      refine lv_if_eq (tgt := 24) hx hb dX7_bars_13 (by decide) (fun _ => ?_) (fun c_13 => absurd (by decide +kernel) c_13)
      refine lv_iconst (v := 0) hx hb dX7_bars_24 (by decide +kernel) ?_
      refine W.widen (k := 0) (n := 0) (Nat.le_of_ble_eq_true rfl) (Nat.le_of_ble_eq_true rfl) ?_
      exact W.zret (v := 0) hx hb hr (mz_nz (by decide +kernel)) (fun t ht hW => ⟨⟨0, (), rfl, by simp [*], ht⟩, hS.F ht⟩) hS.2.2 dX7_bars_25
  · skip
    have hPc := hP.sub (ws' := [(mx, .inr (7, [.ref dr, .ref th, .ref bk, .ref wt, .ref tt, .ref lh, .ref la, .int 0, .long 0, .long 1])), (dr, .inr (2, [.ref dp, .ref dc, .int 0]))]) [0, 1] rfl
    refine va_calli (va_runV (As := [.int p1]) (rest := []) ⟨hx, hb, hml, hown, hts⟩ (mz_isHeap_n l dC dI cI cJ cZ mx dr th bk wt tt lh la dp dc 0 1 p1 s.heap hz_2) (cwV 1 hts gX7_bars_X7_isHeap rfl rfl rfl (by decide +kernel) ⟨Nat.le_of_ble_eq_true rfl, Nat.le_of_ble_eq_true rfl⟩) ⟨fun a U g mk q => mz_blP q, va_recv hK hPc (ci := 7) (q0 := 0) rfl rfl, fun U hU hW => ⟨rfl, hU, hPc, va_K.moved hW.alike hK, mz_nw hW hN⟩⟩ rfl rfl hl.1 rfl (lv_room (Nat.le_of_ble_eq_true rfl)) dX7_bars_2 ⟨Nat.le_of_ble_eq_true rfl, Nat.le_of_ble_eq_true rfl⟩) hS (fun q _ h => h.elim) (fun q h => h.elim) (fun r u t H1 locs ht hvm hw hB hz1 hk1 hS => ?_)
    have hE : s.heap = H1 := hB.symm.trans ht
    subst hE
    obtain rfl : r = 0 := hw
    refine lv_if_eq (tgt := 24) hx hb dX7_bars_5 (by decide) (fun _ => ?_) (fun c_5 => absurd (by decide +kernel) c_5)
    refine lv_iconst (v := 0) hx hb dX7_bars_24 (by decide +kernel) ?_
    refine W.widen (k := 0) (n := 0) (Nat.le_of_ble_eq_true rfl) (Nat.le_of_ble_eq_true rfl) ?_
    exact W.zret (v := 0) hx hb hr (mz_nz (by decide +kernel)) (fun t ht hW => ⟨⟨0, (), rfl, by simp [*], ht⟩, hS.F ht⟩) hS.2.2 dX7_bars_25
set_option maxHeartbeats 1000000 in
set_option maxRecDepth 100000 in
theorem mz_thing (l : Launch) (dC : Nat → ClassId) (dI : Nat → Nat → Nat) (cI cJ cZ : ClassId) (mx : Nat) (dr : Nat) (th : Nat) (bk : Nat) (wt : Nat) (tt : Nat) (lh : Nat) (la : Nat) (dp : Nat) (dc : Nat) (bp : Nat) (fb : Nat → Int32) (p1 : Int32) (sz : Nat)  : Met l yX7_thing wsX7_thing ({ frames := 1, cells := 0, slots := 0, locals := 22 }) (va_Pc [.ref mx, .int p1] (fun U => U.heap.size = sz ∧ va_P (dC, dI) vwCl [(mx, .inr (7, [.ref dr, .ref th, .ref bk, .ref wt, .ref tt, .ref lh, .ref la, .int 0, .long 0, .long 1])), (dr, .inr (2, [.ref dp, .ref dc, .int 0])), (bk, .inr (1, [.ref bp])), (bp, .inl (cI, 1024, .inl fb))] U.heap ∧ va_K (dC, dI) vwCl [(cI, FieldType.int), (cJ, FieldType.long), (cZ, FieldType.boolean)] U ∧ va_D (fun _ => True) [(mx, .inr (7, [.ref dr, .ref th, .ref bk, .ref wt, .ref tt, .ref lh, .ref la, .int 0, .long 0, .long 1])), (dr, .inr (2, [.ref dp, .ref dc, .int 0])), (bk, .inr (1, [.ref bp])), (bp, .inl (cI, 1024, .inl fb))] ∧ mz_N U)) (va_Qi (fun (r : Int32) (_ : Unit) => r = 0) (fun _ t => va_P (dC, dI) vwCl [] t.heap ∧ va_D (va_A [(mx, .inr (7, [.ref dr, .ref th, .ref bk, .ref wt, .ref tt, .ref lh, .ref la, .int 0, .long 0, .long 1])), (dr, .inr (2, [.ref dp, .ref dc, .int 0])), (bk, .inr (1, [.ref bp])), (bp, .inl (cI, 1024, .inl fb))] sz) []) (va_A [(mx, .inr (7, [.ref dr, .ref th, .ref bk, .ref wt, .ref tt, .ref lh, .ref la, .int 0, .long 0, .long 1])), (dr, .inr (2, [.ref dp, .ref dc, .int 0])), (bk, .inr (1, [.ref bp])), (bp, .inl (cI, 1024, .inl fb))] sz)) 0 0 (va_A [(mx, .inr (7, [.ref dr, .ref th, .ref bk, .ref wt, .ref tt, .ref lh, .ref la, .int 0, .long 0, .long 1])), (dr, .inr (2, [.ref dp, .ref dc, .int 0])), (bk, .inr (1, [.ref bp])), (bp, .inl (cI, 1024, .inl fb))] sz) := by
  refine Met.ofW (cc := cX7_thing) (maxL := 3) (ret := (some .int)) (by decide) rfl ?_
  intro p e s m args below meth c s₁ B hml hv
  obtain ⟨rfl, hsz, hP, hK, hD0, hN⟩ := hv
  subst hsz
  have hx := B.exec
  have hb := B.bytes
  have hr := B.returns
  have hts := atoms_spec (ws := wsX7_thing) B.pre
  have hown : s.vm.findClass RX7 = some m.cls := findClass_of_methodNamed B.named
  have hlocks := B.notSynchronized
  have hD := hD0.self (sz := s.heap.size)
  generalize hAe : va_A [(mx, .inr (7, [.ref dr, .ref th, .ref bk, .ref wt, .ref tt, .ref lh, .ref la, .int 0, .long 0, .long 1])), (dr, .inr (2, [.ref dp, .ref dc, .int 0])), (bk, .inr (1, [.ref bp])), (bp, .inl (cI, 1024, .inl fb))] s.heap.size = A at hD ⊢
  have hA : ∀ q : Nat, s.heap.size ≤ q → A q := fun q h => by rw [← hAe]; exact Or.inr h
  have hS : va_S A s.heap s.heap [] := va_S.rf
  have hiX7 : ∀ w ∈ u_ws RX7 TX7 10, w ∈ wsX7_thing := by decide +kernel
  have hl := lv_entry ([.ref mx, .int p1]) (n := 3) (Nat.le_of_ble_eq_true rfl)
  rw [lg_entry_eq]
  generalize (lg_sl ([.ref mx, .int p1]) ++ List.replicate (3 - (lg_sl ([.ref mx, .int p1])).length) Slot.unset).toArray = ls at hl ⊢
  have hl : lv_has ls 3 [(0, .ref mx), (1, .int p1)] := hl
  refine lv_aload_n hx hb dX7_thing_0 rfl (lv_at hl 0 rfl) ?_
  refine va_get (D := (dC, dI)) (ci := 7) (v := .ref dr) (C := RX7) (T := TX7) (N := 10) hx hb hts hiX7 hown hK hP 0 rfl rfl 0 (by decide) (hts (.fieldLink RX7 12 "MadeItSo" "drawing" "LMadeItSo$Drawing;") (by decide +kernel)) (fun _ h9 => h9) rfl dX7_thing_1 ?_
  have hPc := hP.sub (ws' := [(dr, .inr (2, [.ref dp, .ref dc, .int 0]))]) [1] rfl
  have hDc := hD.sub (ws' := [(dr, .inr (2, [.ref dp, .ref dc, .int 0]))]) [1] (by decide) rfl
  have hFc := va_free (wc := [(dr, .inr (2, [.ref dp, .ref dc, .int 0]))]) hD hS hA [1] rfl
  refine va_calli (va_runV (As := []) (rest := []) ⟨hx, hb, hml, hown, hts⟩ (mz_grow0 l dC dI cI cJ cZ dr dp dc s.heap.size ) (cwV 0 hts gX7_thing_X2_grow rfl rfl rfl (by decide +kernel) ⟨Nat.le_of_ble_eq_true rfl, Nat.le_of_ble_eq_true rfl⟩) ⟨fun a U g mk q => mz_blI q, va_recv hK hPc (ci := 2) (q0 := 0) rfl rfl, fun U hU hW => ⟨rfl, by rw [hU], by rw [hU]; exact hPc, va_K.moved hW.alike hK, hDc.weaken (fun _ _ _ _ => trivial), mz_nw hW hN⟩⟩ rfl rfl hl.1 rfl (lv_room (Nat.le_of_ble_eq_true rfl)) dX7_thing_4 ⟨Nat.le_of_ble_eq_true rfl, Nat.le_of_ble_eq_true rfl⟩) hS (fun q _ h => hFc q h) hFc (fun r u t H1 locs ht hvm hw hB hz1 hk1 hS => ?_)
  obtain ⟨hP1, hD1⟩ := hB
  rw [ht] at hP1
  obtain ⟨hP, hD⟩ := va_join (wr := [(mx, .inr (7, [.ref dr, .ref th, .ref bk, .ref wt, .ref tt, .ref lh, .ref la, .int 0, .long 0, .long 1])), (bk, .inr (1, [.ref bp])), (bp, .inl (cI, 1024, .inl fb))]) (w1 := []) hP hD [1] [0, 2, 3] rfl rfl (by decide) (by decide) hk1 hFc hP1 hD1
  generalize H1 = H at hP hS ⊢
  have hP : va_P (dC, dI) vwCl [(mx, .inr (7, [.ref dr, .ref th, .ref bk, .ref wt, .ref tt, .ref lh, .ref la, .int 0, .long 0, .long 1])), (bk, .inr (1, [.ref bp])), (bp, .inl (cI, 1024, .inl fb))] H := hP
  have hD : va_D A [(mx, .inr (7, [.ref dr, .ref th, .ref bk, .ref wt, .ref tt, .ref lh, .ref la, .int 0, .long 0, .long 1])), (bk, .inr (1, [.ref bp])), (bp, .inl (cI, 1024, .inl fb))] := hD
  obtain rfl : r = 0 := hw
  refine lv_istore_n (lv' := [(2, .int 0), (0, .ref mx), (1, .int p1)]) hx hb dX7_thing_7 rfl hl (by decide) rfl (fun ls hl => ?_)
  refine lv_iload_n hx hb dX7_thing_8 rfl (lv_at hl 0 rfl) ?_
  refine lv_iconst (v := (-1)) hx hb dX7_thing_9 (by decide +kernel) ?_
  refine lv_icmp_ne (tgt := 15) hx hb dX7_thing_10 (by decide) (fun _ => ?_) (fun c_10 => absurd c_10 (by decide +kernel))
  refine lv_aload_n hx hb dX7_thing_15 rfl (lv_at hl 1 rfl) ?_
  refine va_get (D := (dC, dI)) (ci := 7) (v := .ref bk) (C := RX7) (T := TX7) (N := 10) hx hb hts hiX7 hown hK hP 0 rfl rfl 2 (by decide) (hts (.fieldLink RX7 22 "MadeItSo" "books" "LMadeItSo$Books;") (by decide +kernel)) (fun _ h9 => h9) rfl dX7_thing_16 ?_
  refine lv_iload_n hx hb dX7_thing_19 rfl (lv_at hl 0 rfl) ?_
  have hPc := hP.sub (ws' := [(bk, .inr (1, [.ref bp])), (bp, .inl (cI, 1024, .inl fb))]) [1, 2] rfl
  have hDc := hD.sub (ws' := [(bk, .inr (1, [.ref bp])), (bp, .inl (cI, 1024, .inl fb))]) [1, 2] (by decide) rfl
  have hFc := va_free (wc := [(bk, .inr (1, [.ref bp])), (bp, .inl (cI, 1024, .inl fb))]) hD hS hA [1, 2] rfl
  refine va_callv (va_runV (As := [.int 0]) (rest := []) ⟨hx, hb, hml, hown, hts⟩ (mz_blank0 l dC dI cI cJ cZ bk bp fb H.size ) (cwV 1 hts gX7_thing_X1_blank rfl rfl rfl (by decide +kernel) ⟨Nat.le_of_ble_eq_true rfl, Nat.le_of_ble_eq_true rfl⟩) ⟨fun a U g mk q => mz_blI q, va_recv hK hPc (ci := 1) (q0 := 0) rfl rfl, fun U hU hW => ⟨rfl, by rw [hU], by rw [hU]; exact hPc, va_K.moved hW.alike hK, hDc.weaken (fun _ _ _ _ => trivial), mz_nw hW hN⟩⟩ rfl rfl hl.1 rfl (lv_room (Nat.le_of_ble_eq_true rfl)) dX7_thing_20 ⟨Nat.le_of_ble_eq_true rfl, Nat.le_of_ble_eq_true rfl⟩) hS (fun q _ h => hFc q h) hFc (fun u t H1 locs ht hvm hw hB hz1 hk1 hS => ?_)
  obtain ⟨hP1, hD1⟩ := hB
  rw [ht] at hP1
  obtain ⟨hP, hD⟩ := va_join (wr := [(mx, .inr (7, [.ref dr, .ref th, .ref bk, .ref wt, .ref tt, .ref lh, .ref la, .int 0, .long 0, .long 1]))]) (w1 := []) hP hD [1, 2] [0] rfl rfl (by decide) (by decide) hk1 hFc hP1 hD1
  generalize H1 = H at hP hS ⊢
  have hP : va_P (dC, dI) vwCl [(mx, .inr (7, [.ref dr, .ref th, .ref bk, .ref wt, .ref tt, .ref lh, .ref la, .int 0, .long 0, .long 1]))] H := hP
  have hD : va_D A [(mx, .inr (7, [.ref dr, .ref th, .ref bk, .ref wt, .ref tt, .ref lh, .ref la, .int 0, .long 0, .long 1]))] := hD
  refine lv_iload_n hx hb dX7_thing_23 rfl (lv_at hl 2 rfl) ?_
  refine lv_if_eq (tgt := 40) hx hb dX7_thing_24 (by decide) (fun c_24 => ?_) (fun c_24 => ?_)
  · skip
    refine lv_iload_n hx hb dX7_thing_40 rfl (lv_at hl 0 rfl) ?_
    have hP9 := hP.sub (ws' := []) [] rfl
    have hD9 := hD.sub (ws' := []) [] (by decide) rfl
    refine W.widen (k := 0) (n := 0) (Nat.le_of_ble_eq_true rfl) (Nat.le_of_ble_eq_true rfl) ?_
    exact W.iret (v := 0) hx hb hr (fun t ht hW => ⟨⟨0, (), rfl, rfl, by rw [ht]; exact hP9, hD9⟩, hS.F ht⟩) hS.2.2 dX7_thing_41
  · skip
    refine lv_aload_n hx hb dX7_thing_27 rfl (lv_at hl 1 rfl) ?_
    refine lv_dup hx hb dX7_thing_28 rfl ?_
    refine va_get (D := (dC, dI)) (ci := 7) (v := .int 0) (C := RX7) (T := TX7) (N := 10) hx hb hts hiX7 hown hK hP 0 rfl rfl 7 (by decide) (hts (.fieldLink RX7 54 "MadeItSo" "seenHeap" "I") (by decide +kernel)) (fun _ h9 => h9) rfl dX7_thing_29 ?_
    refine lv_iload_n hx hb dX7_thing_32 rfl (lv_at hl 0 rfl) ?_
    have hPc := hP.sub (ws' := []) [] rfl
    refine va_calli (va_runS (As := [.int 0]) (rest := [.int 0, .ref mx]) ⟨hx, hb, hml, hown, hts⟩ (mz_bit0 l dC dI cI cJ cZ  H ) (va_cwS 1 hts gX7_thing_X7_bit rfl rfl rfl (by decide +kernel) ⟨Nat.le_of_ble_eq_true rfl, Nat.le_of_ble_eq_true rfl⟩) ⟨fun a U g mk q => mz_blP q, fun U hU hW => ⟨rfl, hU, hPc, va_K.moved hW.alike hK, mz_nw hW hN⟩⟩ rfl rfl hl.1 rfl (lv_room (Nat.le_of_ble_eq_true rfl)) dX7_thing_33 ⟨Nat.le_of_ble_eq_true rfl, Nat.le_of_ble_eq_true rfl⟩) hS (fun q _ h => h.elim) (fun q h => h.elim) (fun r u t H1 locs ht hvm hw hB hz1 hk1 hS => ?_)
    have hE : H = H1 := hB.symm.trans ht
    subst hE
    obtain rfl : r = 1 := hw
    refine lv_ior hx hb dX7_thing_36 ?_
    refine mz_ti (y := 1) (by decide +kernel) ?_
    refine va_put (D := (dC, dI)) (ci := 7) (v := .int 1) (ty := .int) (C := RX7) (T := TX7) (N := 10) hx hb hts hiX7 tyX7 tyX7_ok nmX7 hown hK hP hD hS 0 rfl rfl 7 (by decide) (hts (.fieldLink RX7 54 "MadeItSo" "seenHeap" "I") (by decide +kernel)) (fun _ h9 => h9) rfl (by decide +kernel) rfl rfl (Nat.le_of_ble_eq_true rfl) dX7_thing_37 (fun H locs hP hD hS => ?_)
    have hP : va_P (dC, dI) vwCl [(mx, .inr (7, [.ref dr, .ref th, .ref bk, .ref wt, .ref tt, .ref lh, .ref la, .int 1, .long 0, .long 1]))] H := hP
    have hD : va_D A [(mx, .inr (7, [.ref dr, .ref th, .ref bk, .ref wt, .ref tt, .ref lh, .ref la, .int 1, .long 0, .long 1]))] := hD
    refine lv_iload_n hx hb dX7_thing_40 rfl (lv_at hl 0 rfl) ?_
    have hP9 := hP.sub (ws' := []) [] rfl
    have hD9 := hD.sub (ws' := []) [] (by decide) rfl
    refine W.widen (k := 0) (n := 0) (Nat.le_of_ble_eq_true rfl) (Nat.le_of_ble_eq_true rfl) ?_
    exact W.iret (v := 0) hx hb hr (fun t ht hW => ⟨⟨0, (), rfl, rfl, by rw [ht]; exact hP9, hD9⟩, hS.F ht⟩) hS.2.2 dX7_thing_41
set_option maxHeartbeats 1000000 in
set_option maxRecDepth 100000 in
theorem mz_alike (l : Launch) (dC : Nat → ClassId) (dI : Nat → Nat → Nat) (cI cJ cZ : ClassId) (mx : Nat) (dr : Nat) (th : Nat) (bk : Nat) (wt : Nat) (tt : Nat) (lh : Nat) (la : Nat) (dp : Nat) (dc : Nat) (lw : Nat) (fl : Nat → Int32) (sz : Nat)  : Met l yX7_alike wsX7_alike ({ frames := 2, cells := 0, slots := 0, locals := 46 }) (va_Pc [.ref mx] (fun U => U.heap.size = sz ∧ va_P (dC, dI) vwCl [(mx, .inr (7, [.ref dr, .ref th, .ref bk, .ref wt, .ref tt, .ref lh, .ref la, .int 0, .long 0, .long 1])), (dr, .inr (2, [.ref dp, .ref dc, .int 0])), (la, .inr (4, [.ref lw])), (lw, .inl (cI, 256, .inl fl))] U.heap ∧ va_K (dC, dI) vwCl [(cI, FieldType.int), (cJ, FieldType.long), (cZ, FieldType.boolean)] U ∧ va_D (fun _ => True) [(mx, .inr (7, [.ref dr, .ref th, .ref bk, .ref wt, .ref tt, .ref lh, .ref la, .int 0, .long 0, .long 1])), (dr, .inr (2, [.ref dp, .ref dc, .int 0])), (la, .inr (4, [.ref lw])), (lw, .inl (cI, 256, .inl fl))] ∧ mz_N U)) (va_Qi (fun (r : Int32) (_ : Unit) => r = 1) (fun _ t => va_P (dC, dI) vwCl [] t.heap ∧ va_D (va_A [(mx, .inr (7, [.ref dr, .ref th, .ref bk, .ref wt, .ref tt, .ref lh, .ref la, .int 0, .long 0, .long 1])), (dr, .inr (2, [.ref dp, .ref dc, .int 0])), (la, .inr (4, [.ref lw])), (lw, .inl (cI, 256, .inl fl))] sz) []) (va_A [(mx, .inr (7, [.ref dr, .ref th, .ref bk, .ref wt, .ref tt, .ref lh, .ref la, .int 0, .long 0, .long 1])), (dr, .inr (2, [.ref dp, .ref dc, .int 0])), (la, .inr (4, [.ref lw])), (lw, .inl (cI, 256, .inl fl))] sz)) 0 0 (va_A [(mx, .inr (7, [.ref dr, .ref th, .ref bk, .ref wt, .ref tt, .ref lh, .ref la, .int 0, .long 0, .long 1])), (dr, .inr (2, [.ref dp, .ref dc, .int 0])), (la, .inr (4, [.ref lw])), (lw, .inl (cI, 256, .inl fl))] sz) := by
  refine Met.ofW (cc := cX7_alike) (maxL := 1) (ret := (some .int)) (by decide) rfl ?_
  intro p e s m args below meth c s₁ B hml hv
  obtain ⟨rfl, hsz, hP, hK, hD0, hN⟩ := hv
  subst hsz
  have hx := B.exec
  have hb := B.bytes
  have hr := B.returns
  have hts := atoms_spec (ws := wsX7_alike) B.pre
  have hown : s.vm.findClass RX7 = some m.cls := findClass_of_methodNamed B.named
  have hlocks := B.notSynchronized
  have hD := hD0.self (sz := s.heap.size)
  generalize hAe : va_A [(mx, .inr (7, [.ref dr, .ref th, .ref bk, .ref wt, .ref tt, .ref lh, .ref la, .int 0, .long 0, .long 1])), (dr, .inr (2, [.ref dp, .ref dc, .int 0])), (la, .inr (4, [.ref lw])), (lw, .inl (cI, 256, .inl fl))] s.heap.size = A at hD ⊢
  have hA : ∀ q : Nat, s.heap.size ≤ q → A q := fun q h => by rw [← hAe]; exact Or.inr h
  have hS : va_S A s.heap s.heap [] := va_S.rf
  have hiX7 : ∀ w ∈ u_ws RX7 TX7 10, w ∈ wsX7_alike := by decide +kernel
  have hl := lv_entry ([.ref mx]) (n := 1) (Nat.le_of_ble_eq_true rfl)
  rw [lg_entry_eq]
  generalize (lg_sl ([.ref mx]) ++ List.replicate (1 - (lg_sl ([.ref mx])).length) Slot.unset).toArray = ls at hl ⊢
  have hl : lv_has ls 1 [(0, .ref mx)] := hl
  refine lv_aload_n hx hb dX7_alike_0 rfl (lv_at hl 0 rfl) ?_
  refine va_get (D := (dC, dI)) (ci := 7) (v := .ref la) (C := RX7) (T := TX7) (N := 10) hx hb hts hiX7 hown hK hP 0 rfl rfl 6 (by decide) (hts (.fieldLink RX7 50 "MadeItSo" "lookalikes" "LMadeItSo$Lookalikes;") (by decide +kernel)) (fun _ h9 => h9) rfl dX7_alike_1 ?_
  refine lv_aload_n hx hb dX7_alike_4 rfl (lv_at hl 0 rfl) ?_
  refine va_get (D := (dC, dI)) (ci := 7) (v := .ref dr) (C := RX7) (T := TX7) (N := 10) hx hb hts hiX7 hown hK hP 0 rfl rfl 0 (by decide) (hts (.fieldLink RX7 12 "MadeItSo" "drawing" "LMadeItSo$Drawing;") (by decide +kernel)) (fun _ h9 => h9) rfl dX7_alike_5 ?_
  refine lv_iconst (v := (-1)) hx hb dX7_alike_8 (by decide +kernel) ?_
  refine lv_iconst (v := (-1)) hx hb dX7_alike_9 (by decide +kernel) ?_
  have hPc := hP.sub (ws' := [(la, .inr (4, [.ref lw])), (lw, .inl (cI, 256, .inl fl)), (dr, .inr (2, [.ref dp, .ref dc, .int 0]))]) [2, 3, 1] rfl
  have hDc := hD.sub (ws' := [(la, .inr (4, [.ref lw])), (lw, .inl (cI, 256, .inl fl)), (dr, .inr (2, [.ref dp, .ref dc, .int 0]))]) [2, 3, 1] (by decide) rfl
  have hFc := va_free (wc := [(la, .inr (4, [.ref lw])), (lw, .inl (cI, 256, .inl fl)), (dr, .inr (2, [.ref dp, .ref dc, .int 0]))]) hD hS hA [2, 3, 1] rfl
  refine va_calli (va_runV (As := [.ref dr, .int (-1), .int (-1)]) (rest := []) ⟨hx, hb, hml, hown, hts⟩ (mz_reckon0 l dC dI cI cJ cZ la lw fl dr dp dc s.heap.size ) (cwV 3 hts gX7_alike_X4_reckon rfl rfl rfl (by decide +kernel) ⟨Nat.le_of_ble_eq_true rfl, Nat.le_of_ble_eq_true rfl⟩) ⟨fun a U g mk q => mz_blI q, va_recv hK hPc (ci := 4) (q0 := 0) rfl rfl, fun U hU hW => ⟨rfl, by rw [hU], by rw [hU]; exact hPc, va_K.moved hW.alike hK, hDc.weaken (fun _ _ _ _ => trivial), mz_nw hW hN⟩⟩ rfl rfl hl.1 rfl (lv_room (Nat.le_of_ble_eq_true rfl)) dX7_alike_10 ⟨Nat.le_of_ble_eq_true rfl, Nat.le_of_ble_eq_true rfl⟩) hS (fun q _ h => hFc q h) hFc (fun r u t H1 locs ht hvm hw hB hz1 hk1 hS => ?_)
  obtain ⟨hP1, hD1⟩ := hB
  rw [ht] at hP1
  obtain ⟨hP, hD⟩ := va_join (wr := [(mx, .inr (7, [.ref dr, .ref th, .ref bk, .ref wt, .ref tt, .ref lh, .ref la, .int 0, .long 0, .long 1]))]) (w1 := []) hP hD [2, 3, 1] [0] rfl rfl (by decide) (by decide) hk1 hFc hP1 hD1
  generalize H1 = H at hP hS ⊢
  have hP : va_P (dC, dI) vwCl [(mx, .inr (7, [.ref dr, .ref th, .ref bk, .ref wt, .ref tt, .ref lh, .ref la, .int 0, .long 0, .long 1]))] H := hP
  have hD : va_D A [(mx, .inr (7, [.ref dr, .ref th, .ref bk, .ref wt, .ref tt, .ref lh, .ref la, .int 0, .long 0, .long 1]))] := hD
  obtain rfl : r = 1 := hw
  have hP9 := hP.sub (ws' := []) [] rfl
  have hD9 := hD.sub (ws' := []) [] (by decide) rfl
  refine W.widen (k := 0) (n := 0) (Nat.le_of_ble_eq_true rfl) (Nat.le_of_ble_eq_true rfl) ?_
  exact W.iret (v := 1) hx hb hr (fun t ht hW => ⟨⟨1, (), rfl, rfl, by rw [ht]; exact hP9, hD9⟩, hS.F ht⟩) hS.2.2 dX7_alike_13
set_option maxHeartbeats 1000000 in
set_option maxRecDepth 100000 in
theorem mz_weight (l : Launch) (dC : Nat → ClassId) (dI : Nat → Nat → Nat) (cI cJ cZ : ClassId) (mx : Nat) (dr : Nat) (th : Nat) (bk : Nat) (wt : Nat) (tt : Nat) (lh : Nat) (la : Nat) (dp : Nat) (dc : Nat) (wo : Nat) (fw : Nat → Int64) (bp : Nat) (p1 : Int32) (p2 : Int32) (sz : Nat)  : Met l yX7_weight wsX7_weight ({ frames := 3, cells := 0, slots := 0, locals := 68 }) (va_Pc [.ref mx, .int p1, .int p2] (fun U => U.heap.size = sz ∧ va_P (dC, dI) vwCl [(mx, .inr (7, [.ref dr, .ref th, .ref bk, .ref wt, .ref tt, .ref lh, .ref la, .int 0, .long 0, .long 1])), (dr, .inr (2, [.ref dp, .ref dc, .int 0])), (wt, .inr (6, [.ref wo, .int 0])), (wo, .inl (cJ, 256, .inr (.inl fw))), (bk, .inr (1, [.ref bp]))] U.heap ∧ va_K (dC, dI) vwCl [(cI, FieldType.int), (cJ, FieldType.long), (cZ, FieldType.boolean)] U ∧ va_D (fun _ => True) [(mx, .inr (7, [.ref dr, .ref th, .ref bk, .ref wt, .ref tt, .ref lh, .ref la, .int 0, .long 0, .long 1])), (dr, .inr (2, [.ref dp, .ref dc, .int 0])), (wt, .inr (6, [.ref wo, .int 0])), (wo, .inl (cJ, 256, .inr (.inl fw))), (bk, .inr (1, [.ref bp]))] ∧ mz_N U)) (va_Ql (fun (r : Int64) (_ : Unit) => r = (if p1 = 0 ∧ p2 = 0 then 1 else (-1))) (fun _ t => va_P (dC, dI) vwCl [] t.heap ∧ va_D (va_A [(mx, .inr (7, [.ref dr, .ref th, .ref bk, .ref wt, .ref tt, .ref lh, .ref la, .int 0, .long 0, .long 1])), (dr, .inr (2, [.ref dp, .ref dc, .int 0])), (wt, .inr (6, [.ref wo, .int 0])), (wo, .inl (cJ, 256, .inr (.inl fw))), (bk, .inr (1, [.ref bp]))] sz) []) (va_A [(mx, .inr (7, [.ref dr, .ref th, .ref bk, .ref wt, .ref tt, .ref lh, .ref la, .int 0, .long 0, .long 1])), (dr, .inr (2, [.ref dp, .ref dc, .int 0])), (wt, .inr (6, [.ref wo, .int 0])), (wo, .inl (cJ, 256, .inr (.inl fw))), (bk, .inr (1, [.ref bp]))] sz)) 0 0 (va_A [(mx, .inr (7, [.ref dr, .ref th, .ref bk, .ref wt, .ref tt, .ref lh, .ref la, .int 0, .long 0, .long 1])), (dr, .inr (2, [.ref dp, .ref dc, .int 0])), (wt, .inr (6, [.ref wo, .int 0])), (wo, .inl (cJ, 256, .inr (.inl fw))), (bk, .inr (1, [.ref bp]))] sz) := by
  refine Met.ofW (cc := cX7_weight) (maxL := 3) (ret := (some .long)) (by decide) rfl ?_
  intro p e s m args below meth c s₁ B hml hv
  obtain ⟨rfl, hsz, hP, hK, hD0, hN⟩ := hv
  subst hsz
  have hx := B.exec
  have hb := B.bytes
  have hr := B.returns
  have hts := atoms_spec (ws := wsX7_weight) B.pre
  have hown : s.vm.findClass RX7 = some m.cls := findClass_of_methodNamed B.named
  have hlocks := B.notSynchronized
  have hD := hD0.self (sz := s.heap.size)
  generalize hAe : va_A [(mx, .inr (7, [.ref dr, .ref th, .ref bk, .ref wt, .ref tt, .ref lh, .ref la, .int 0, .long 0, .long 1])), (dr, .inr (2, [.ref dp, .ref dc, .int 0])), (wt, .inr (6, [.ref wo, .int 0])), (wo, .inl (cJ, 256, .inr (.inl fw))), (bk, .inr (1, [.ref bp]))] s.heap.size = A at hD ⊢
  have hA : ∀ q : Nat, s.heap.size ≤ q → A q := fun q h => by rw [← hAe]; exact Or.inr h
  have hS : va_S A s.heap s.heap [] := va_S.rf
  have hiX7 : ∀ w ∈ u_ws RX7 TX7 10, w ∈ wsX7_weight := by decide +kernel
  have hl := lv_entry ([.ref mx, .int p1, .int p2]) (n := 3) (Nat.le_of_ble_eq_true rfl)
  rw [lg_entry_eq]
  generalize (lg_sl ([.ref mx, .int p1, .int p2]) ++ List.replicate (3 - (lg_sl ([.ref mx, .int p1, .int p2])).length) Slot.unset).toArray = ls at hl ⊢
  have hl : lv_has ls 3 [(0, .ref mx), (1, .int p1), (2, .int p2)] := hl
  refine lv_aload_n hx hb dX7_weight_0 rfl (lv_at hl 0 rfl) ?_
  refine lv_iload_n hx hb dX7_weight_1 rfl (lv_at hl 1 rfl) ?_
  by_cases hz_2 : p1 = 0
  · subst hz_2
    have hPc := hP.sub (ws' := [(mx, .inr (7, [.ref dr, .ref th, .ref bk, .ref wt, .ref tt, .ref lh, .ref la, .int 0, .long 0, .long 1])), (dr, .inr (2, [.ref dp, .ref dc, .int 0]))]) [0, 1] rfl
    refine va_calli (va_runV (As := [.int 0]) (rest := []) ⟨hx, hb, hml, hown, hts⟩ (mz_isSetting_0 l dC dI cI cJ cZ mx dr th bk wt tt lh la dp dc 0 1 s.heap ) (cwV 1 hts gX7_weight_X7_isSetting rfl rfl rfl (by decide +kernel) ⟨Nat.le_of_ble_eq_true rfl, Nat.le_of_ble_eq_true rfl⟩) ⟨fun a U g mk q => mz_blP q, va_recv hK hPc (ci := 7) (q0 := 0) rfl rfl, fun U hU hW => ⟨rfl, hU, hPc, va_K.moved hW.alike hK, mz_nw hW hN⟩⟩ rfl rfl hl.1 rfl (lv_room (Nat.le_of_ble_eq_true rfl)) dX7_weight_2 ⟨Nat.le_of_ble_eq_true rfl, Nat.le_of_ble_eq_true rfl⟩) hS (fun q _ h => h.elim) (fun q h => h.elim) (fun r u t H1 locs ht hvm hw hB hz1 hk1 hS => ?_)
    have hE : s.heap = H1 := hB.symm.trans ht
    subst hE
    obtain rfl : r = 1 := hw
    refine lv_if_eq (tgt := 16) hx hb dX7_weight_5 (by decide) (fun c_5 => absurd c_5 (by decide +kernel)) (fun _ => ?_)
    refine lv_aload_n hx hb dX7_weight_8 rfl (lv_at hl 0 rfl) ?_
    refine lv_iload_n hx hb dX7_weight_9 rfl (lv_at hl 2 rfl) ?_
    by_cases hz_10 : p2 = 0
    · subst hz_10
      have hPc := hP.sub (ws' := [(mx, .inr (7, [.ref dr, .ref th, .ref bk, .ref wt, .ref tt, .ref lh, .ref la, .int 0, .long 0, .long 1])), (dr, .inr (2, [.ref dp, .ref dc, .int 0]))]) [0, 1] rfl
      refine va_calli (va_runV (As := [.int 0]) (rest := []) ⟨hx, hb, hml, hown, hts⟩ (mz_isSetting_0 l dC dI cI cJ cZ mx dr th bk wt tt lh la dp dc 0 1 s.heap ) (cwV 1 hts gX7_weight_X7_isSetting rfl rfl rfl (by decide +kernel) ⟨Nat.le_of_ble_eq_true rfl, Nat.le_of_ble_eq_true rfl⟩) ⟨fun a U g mk q => mz_blP q, va_recv hK hPc (ci := 7) (q0 := 0) rfl rfl, fun U hU hW => ⟨rfl, hU, hPc, va_K.moved hW.alike hK, mz_nw hW hN⟩⟩ rfl rfl hl.1 rfl (lv_room (Nat.le_of_ble_eq_true rfl)) dX7_weight_10 ⟨Nat.le_of_ble_eq_true rfl, Nat.le_of_ble_eq_true rfl⟩) hS (fun q _ h => h.elim) (fun q h => h.elim) (fun r u t H1 locs ht hvm hw hB hz1 hk1 hS => ?_)
      have hE : s.heap = H1 := hB.symm.trans ht
      subst hE
      obtain rfl : r = 1 := hw
      refine lv_if_ne (tgt := 20) hx hb dX7_weight_13 (by decide) (fun _ => ?_) (fun c_13 => absurd c_13 (by decide +kernel))
      refine lv_aload_n hx hb dX7_weight_20 rfl (lv_at hl 0 rfl) ?_
      refine va_get (D := (dC, dI)) (ci := 7) (v := .ref wt) (C := RX7) (T := TX7) (N := 10) hx hb hts hiX7 hown hK hP 0 rfl rfl 3 (by decide) (hts (.fieldLink RX7 29 "MadeItSo" "weights" "LMadeItSo$Weights;") (by decide +kernel)) (fun _ h9 => h9) rfl dX7_weight_21 ?_
      refine lv_aload_n hx hb dX7_weight_24 rfl (lv_at hl 0 rfl) ?_
      refine va_get (D := (dC, dI)) (ci := 7) (v := .ref dr) (C := RX7) (T := TX7) (N := 10) hx hb hts hiX7 hown hK hP 0 rfl rfl 0 (by decide) (hts (.fieldLink RX7 12 "MadeItSo" "drawing" "LMadeItSo$Drawing;") (by decide +kernel)) (fun _ h9 => h9) rfl dX7_weight_25 ?_
      refine lv_aload_n hx hb dX7_weight_28 rfl (lv_at hl 0 rfl) ?_
      refine va_get (D := (dC, dI)) (ci := 7) (v := .ref bk) (C := RX7) (T := TX7) (N := 10) hx hb hts hiX7 hown hK hP 0 rfl rfl 2 (by decide) (hts (.fieldLink RX7 22 "MadeItSo" "books" "LMadeItSo$Books;") (by decide +kernel)) (fun _ h9 => h9) rfl dX7_weight_29 ?_
      refine lv_iload_n hx hb dX7_weight_32 rfl (lv_at hl 2 rfl) ?_
      have hPc := hP.sub (ws' := [(wt, .inr (6, [.ref wo, .int 0])), (wo, .inl (cJ, 256, .inr (.inl fw))), (dr, .inr (2, [.ref dp, .ref dc, .int 0]))]) [2, 3, 1] rfl
      have hDc := hD.sub (ws' := [(wt, .inr (6, [.ref wo, .int 0])), (wo, .inl (cJ, 256, .inr (.inl fw))), (dr, .inr (2, [.ref dp, .ref dc, .int 0]))]) [2, 3, 1] (by decide) rfl
      have hFc := va_free (wc := [(wt, .inr (6, [.ref wo, .int 0])), (wo, .inl (cJ, 256, .inr (.inl fw))), (dr, .inr (2, [.ref dp, .ref dc, .int 0]))]) hD hS hA [2, 3, 1] rfl
      refine va_callv (va_runV (As := [.ref dr, .ref bk, .int 0]) (rest := []) ⟨hx, hb, hml, hown, hts⟩ (mz_weigh0 l dC dI cI cJ cZ wt wo fw dr dp dc bk 0 s.heap.size ) (cwV 3 hts gX7_weight_X6_weigh rfl rfl rfl (by decide +kernel) ⟨Nat.le_of_ble_eq_true rfl, Nat.le_of_ble_eq_true rfl⟩) ⟨fun a U g mk q => mz_blI q, va_recv hK hPc (ci := 6) (q0 := 0) rfl rfl, fun U hU hW => ⟨rfl, by rw [hU], by rw [hU]; exact hPc, va_K.moved hW.alike hK, hDc.weaken (fun _ _ _ _ => trivial), mz_nw hW hN⟩⟩ rfl rfl hl.1 rfl (lv_room (Nat.le_of_ble_eq_true rfl)) dX7_weight_33 ⟨Nat.le_of_ble_eq_true rfl, Nat.le_of_ble_eq_true rfl⟩) hS (fun q _ h => hFc q h) hFc (fun u t H1 locs ht hvm hw hB hz1 hk1 hS => ?_)
      obtain ⟨fx1, hf2, hP1, hD1⟩ := hB
      rw [ht] at hP1
      obtain ⟨hP, hD⟩ := va_join (wr := [(mx, .inr (7, [.ref dr, .ref th, .ref bk, .ref wt, .ref tt, .ref lh, .ref la, .int 0, .long 0, .long 1])), (bk, .inr (1, [.ref bp]))]) (w1 := [(wt, .inr (6, [.ref wo, .int 0])), (wo, .inl (cJ, 256, .inr (.inl fx1))), (dr, .inr (2, [.ref dp, .ref dc, .int 0]))]) hP hD [2, 3, 1] [0, 4] rfl rfl (by decide) (by decide) hk1 hFc hP1 hD1
      generalize H1 = H at hP hS ⊢
      have hP : va_P (dC, dI) vwCl [(mx, .inr (7, [.ref dr, .ref th, .ref bk, .ref wt, .ref tt, .ref lh, .ref la, .int 0, .long 0, .long 1])), (bk, .inr (1, [.ref bp])), (wt, .inr (6, [.ref wo, .int 0])), (wo, .inl (cJ, 256, .inr (.inl fx1))), (dr, .inr (2, [.ref dp, .ref dc, .int 0]))] H := hP
      have hD : va_D A [(mx, .inr (7, [.ref dr, .ref th, .ref bk, .ref wt, .ref tt, .ref lh, .ref la, .int 0, .long 0, .long 1])), (bk, .inr (1, [.ref bp])), (wt, .inr (6, [.ref wo, .int 0])), (wo, .inl (cJ, 256, .inr (.inl fx1))), (dr, .inr (2, [.ref dp, .ref dc, .int 0]))] := hD
      refine lv_aload_n hx hb dX7_weight_36 rfl (lv_at hl 0 rfl) ?_
      refine va_get (D := (dC, dI)) (ci := 7) (v := .ref wt) (C := RX7) (T := TX7) (N := 10) hx hb hts hiX7 hown hK hP 0 rfl rfl 3 (by decide) (hts (.fieldLink RX7 29 "MadeItSo" "weights" "LMadeItSo$Weights;") (by decide +kernel)) (fun _ h9 => h9) rfl dX7_weight_37 ?_
      refine lv_iload_n hx hb dX7_weight_40 rfl (lv_at hl 1 rfl) ?_
      have hPc := hP.sub (ws' := []) [] rfl
      refine va_calli (va_runS (As := [.int 0]) (rest := [.ref wt]) ⟨hx, hb, hml, hown, hts⟩ (mz_heapOf l dC dI cI cJ cZ 0 H ) (va_cwS 1 hts gX7_weight_X7_heapOf rfl rfl rfl (by decide +kernel) ⟨Nat.le_of_ble_eq_true rfl, Nat.le_of_ble_eq_true rfl⟩) ⟨fun a U g mk q => mz_blP q, fun U hU hW => ⟨rfl, hU, hPc, va_K.moved hW.alike hK, mz_nw hW hN⟩⟩ rfl rfl hl.1 rfl (lv_room (Nat.le_of_ble_eq_true rfl)) dX7_weight_41 ⟨Nat.le_of_ble_eq_true rfl, Nat.le_of_ble_eq_true rfl⟩) hS (fun q _ h => h.elim) (fun q h => h.elim) (fun r u t H1 locs ht hvm hw hB hz1 hk1 hS => ?_)
      have hE : H = H1 := hB.symm.trans ht
      subst hE
      obtain rfl : r = ((0 : Int32) &&& 255) := hw
      refine mz_ti (y := 0) (by decide +kernel) ?_
      refine lv_iload_n hx hb dX7_weight_44 rfl (lv_at hl 1 rfl) ?_
      have hPc := hP.sub (ws' := []) [] rfl
      refine va_calli (va_runS (As := [.int 0]) (rest := [.int 0, .ref wt]) ⟨hx, hb, hml, hown, hts⟩ (mz_onesOf l dC dI cI cJ cZ 0 H ) (va_cwS 1 hts gX7_weight_X7_onesOf rfl rfl rfl (by decide +kernel) ⟨Nat.le_of_ble_eq_true rfl, Nat.le_of_ble_eq_true rfl⟩) ⟨fun a U g mk q => mz_blP q, fun U hU hW => ⟨rfl, hU, hPc, va_K.moved hW.alike hK, mz_nw hW hN⟩⟩ rfl rfl hl.1 rfl (lv_room (Nat.le_of_ble_eq_true rfl)) dX7_weight_45 ⟨Nat.le_of_ble_eq_true rfl, Nat.le_of_ble_eq_true rfl⟩) hS (fun q _ h => h.elim) (fun q h => h.elim) (fun r u t H1 locs ht hvm hw hB hz1 hk1 hS => ?_)
      have hE : H = H1 := hB.symm.trans ht
      subst hE
      obtain rfl : r = (((0 : Int32) >>> (8 &&& 31)) &&& 255) := hw
      refine mz_ti (y := 0) (by decide +kernel) ?_
      have hPc := hP.sub (ws' := [(wt, .inr (6, [.ref wo, .int 0])), (wo, .inl (cJ, 256, .inr (.inl fx1)))]) [2, 3] rfl
      refine va_calll (va_runV (As := [.int 0, .int 0]) (rest := []) ⟨hx, hb, hml, hown, hts⟩ (mz_having0 l dC dI cI cJ cZ wt wo fx1 H hf2) (cwV 2 hts gX7_weight_X6_having rfl rfl rfl (by decide +kernel) ⟨Nat.le_of_ble_eq_true rfl, Nat.le_of_ble_eq_true rfl⟩) ⟨fun a U g mk q => mz_blP q, va_recv hK hPc (ci := 6) (q0 := 0) rfl rfl, fun U hU hW => ⟨rfl, hU, hPc, va_K.moved hW.alike hK, mz_nw hW hN⟩⟩ rfl rfl hl.1 rfl (lv_room (Nat.le_of_ble_eq_true rfl)) dX7_weight_48 ⟨Nat.le_of_ble_eq_true rfl, Nat.le_of_ble_eq_true rfl⟩) hS (fun q _ h => h.elim) (fun q h => h.elim) (fun r u t H1 locs ht hvm hw hB hz1 hk1 hS => ?_)
      have hE : H = H1 := hB.symm.trans ht
      subst hE
      obtain rfl : r = 1 := hw
      have hP9 := hP.sub (ws' := []) [] rfl
      have hD9 := hD.sub (ws' := []) [] (by decide) rfl
      refine W.widen (k := 0) (n := 0) (Nat.le_of_ble_eq_true rfl) (Nat.le_of_ble_eq_true rfl) ?_
      exact W.lret (v := 1) hx hb hr (fun t ht hW => ⟨⟨1, (), rfl, by simp [*], by rw [ht]; exact hP9, hD9⟩, hS.F ht⟩) hS.2.2 dX7_weight_51
    · skip
      have hPc := hP.sub (ws' := [(mx, .inr (7, [.ref dr, .ref th, .ref bk, .ref wt, .ref tt, .ref lh, .ref la, .int 0, .long 0, .long 1])), (dr, .inr (2, [.ref dp, .ref dc, .int 0]))]) [0, 1] rfl
      refine va_calli (va_runV (As := [.int p2]) (rest := []) ⟨hx, hb, hml, hown, hts⟩ (mz_isSetting_n l dC dI cI cJ cZ mx dr th bk wt tt lh la dp dc 0 1 p2 s.heap hz_10) (cwV 1 hts gX7_weight_X7_isSetting rfl rfl rfl (by decide +kernel) ⟨Nat.le_of_ble_eq_true rfl, Nat.le_of_ble_eq_true rfl⟩) ⟨fun a U g mk q => mz_blP q, va_recv hK hPc (ci := 7) (q0 := 0) rfl rfl, fun U hU hW => ⟨rfl, hU, hPc, va_K.moved hW.alike hK, mz_nw hW hN⟩⟩ rfl rfl hl.1 rfl (lv_room (Nat.le_of_ble_eq_true rfl)) dX7_weight_10 ⟨Nat.le_of_ble_eq_true rfl, Nat.le_of_ble_eq_true rfl⟩) hS (fun q _ h => h.elim) (fun q h => h.elim) (fun r u t H1 locs ht hvm hw hB hz1 hk1 hS => ?_)
      have hE : s.heap = H1 := hB.symm.trans ht
      subst hE
      obtain rfl : r = 0 := hw
      refine lv_if_ne (tgt := 20) hx hb dX7_weight_13 (by decide) (fun c_13 => absurd (by decide +kernel) c_13) (fun _ => ?_)
      refine lv_ldc2 hx hb hown (hts (.constantLong RX7 121 (-1)) (by decide +kernel)) dX7_weight_16 ?_
      have hP9 := hP.sub (ws' := []) [] rfl
      have hD9 := hD.sub (ws' := []) [] (by decide) rfl
      refine W.widen (k := 0) (n := 0) (Nat.le_of_ble_eq_true rfl) (Nat.le_of_ble_eq_true rfl) ?_
      exact W.lret (v := (-1)) hx hb hr (fun t ht hW => ⟨⟨(-1), (), rfl, by simp [*], by rw [ht]; exact hP9, hD9⟩, hS.F ht⟩) hS.2.2 dX7_weight_19
  · skip
    have hPc := hP.sub (ws' := [(mx, .inr (7, [.ref dr, .ref th, .ref bk, .ref wt, .ref tt, .ref lh, .ref la, .int 0, .long 0, .long 1])), (dr, .inr (2, [.ref dp, .ref dc, .int 0]))]) [0, 1] rfl
    refine va_calli (va_runV (As := [.int p1]) (rest := []) ⟨hx, hb, hml, hown, hts⟩ (mz_isSetting_n l dC dI cI cJ cZ mx dr th bk wt tt lh la dp dc 0 1 p1 s.heap hz_2) (cwV 1 hts gX7_weight_X7_isSetting rfl rfl rfl (by decide +kernel) ⟨Nat.le_of_ble_eq_true rfl, Nat.le_of_ble_eq_true rfl⟩) ⟨fun a U g mk q => mz_blP q, va_recv hK hPc (ci := 7) (q0 := 0) rfl rfl, fun U hU hW => ⟨rfl, hU, hPc, va_K.moved hW.alike hK, mz_nw hW hN⟩⟩ rfl rfl hl.1 rfl (lv_room (Nat.le_of_ble_eq_true rfl)) dX7_weight_2 ⟨Nat.le_of_ble_eq_true rfl, Nat.le_of_ble_eq_true rfl⟩) hS (fun q _ h => h.elim) (fun q h => h.elim) (fun r u t H1 locs ht hvm hw hB hz1 hk1 hS => ?_)
    have hE : s.heap = H1 := hB.symm.trans ht
    subst hE
    obtain rfl : r = 0 := hw
    refine lv_if_eq (tgt := 16) hx hb dX7_weight_5 (by decide) (fun _ => ?_) (fun c_5 => absurd (by decide +kernel) c_5)
    refine lv_ldc2 hx hb hown (hts (.constantLong RX7 121 (-1)) (by decide +kernel)) dX7_weight_16 ?_
    have hP9 := hP.sub (ws' := []) [] rfl
    have hD9 := hD.sub (ws' := []) [] (by decide) rfl
    refine W.widen (k := 0) (n := 0) (Nat.le_of_ble_eq_true rfl) (Nat.le_of_ble_eq_true rfl) ?_
    exact W.lret (v := (-1)) hx hb hr (fun t ht hW => ⟨⟨(-1), (), rfl, by simp [*], by rw [ht]; exact hP9, hD9⟩, hS.F ht⟩) hS.2.2 dX7_weight_19
set_option maxHeartbeats 1000000 in
set_option maxRecDepth 100000 in
theorem mz_chance (l : Launch) (dC : Nat → ClassId) (dI : Nat → Nat → Nat) (cI cJ cZ : ClassId) (mx : Nat) (dr : Nat) (th : Nat) (bk : Nat) (wt : Nat) (tt : Nat) (lh : Nat) (la : Nat) (dp : Nat) (dc : Nat) (wo : Nat) (fw : Nat → Int64) (bp : Nat) (p1 : Int32) (p2 : Int32) (p3 : Int32) (sz : Nat)  : Met l yX7_chance wsX7_chance ({ frames := 3, cells := 0, slots := 0, locals := 68 }) (va_Pc [.ref mx, .int p1, .int p2, .int p3] (fun U => U.heap.size = sz ∧ va_P (dC, dI) vwCl [(mx, .inr (7, [.ref dr, .ref th, .ref bk, .ref wt, .ref tt, .ref lh, .ref la, .int 0, .long 0, .long 1])), (dr, .inr (2, [.ref dp, .ref dc, .int 0])), (wt, .inr (6, [.ref wo, .int 0])), (wo, .inl (cJ, 256, .inr (.inl fw))), (bk, .inr (1, [.ref bp]))] U.heap ∧ va_K (dC, dI) vwCl [(cI, FieldType.int), (cJ, FieldType.long), (cZ, FieldType.boolean)] U ∧ va_D (fun _ => True) [(mx, .inr (7, [.ref dr, .ref th, .ref bk, .ref wt, .ref tt, .ref lh, .ref la, .int 0, .long 0, .long 1])), (dr, .inr (2, [.ref dp, .ref dc, .int 0])), (wt, .inr (6, [.ref wo, .int 0])), (wo, .inl (cJ, 256, .inr (.inl fw))), (bk, .inr (1, [.ref bp]))] ∧ mz_N U)) (va_Qi (fun (r : Int32) (_ : Unit) => r = (if p1 = 0 ∧ p2 = 0 ∧ p3 = 0 then 1 else (-1))) (fun _ t => va_P (dC, dI) vwCl [] t.heap ∧ va_D (va_A [(mx, .inr (7, [.ref dr, .ref th, .ref bk, .ref wt, .ref tt, .ref lh, .ref la, .int 0, .long 0, .long 1])), (dr, .inr (2, [.ref dp, .ref dc, .int 0])), (wt, .inr (6, [.ref wo, .int 0])), (wo, .inl (cJ, 256, .inr (.inl fw))), (bk, .inr (1, [.ref bp]))] sz) []) (va_A [(mx, .inr (7, [.ref dr, .ref th, .ref bk, .ref wt, .ref tt, .ref lh, .ref la, .int 0, .long 0, .long 1])), (dr, .inr (2, [.ref dp, .ref dc, .int 0])), (wt, .inr (6, [.ref wo, .int 0])), (wo, .inl (cJ, 256, .inr (.inl fw))), (bk, .inr (1, [.ref bp]))] sz)) 0 0 (va_A [(mx, .inr (7, [.ref dr, .ref th, .ref bk, .ref wt, .ref tt, .ref lh, .ref la, .int 0, .long 0, .long 1])), (dr, .inr (2, [.ref dp, .ref dc, .int 0])), (wt, .inr (6, [.ref wo, .int 0])), (wo, .inl (cJ, 256, .inr (.inl fw))), (bk, .inr (1, [.ref bp]))] sz) := by
  refine Met.ofW (cc := cX7_chance) (maxL := 10) (ret := (some .int)) (by decide) rfl ?_
  intro p e s m args below meth c s₁ B hml hv
  obtain ⟨rfl, hsz, hP, hK, hD0, hN⟩ := hv
  subst hsz
  have hx := B.exec
  have hb := B.bytes
  have hr := B.returns
  have hts := atoms_spec (ws := wsX7_chance) B.pre
  have hown : s.vm.findClass RX7 = some m.cls := findClass_of_methodNamed B.named
  have hlocks := B.notSynchronized
  have hD := hD0.self (sz := s.heap.size)
  generalize hAe : va_A [(mx, .inr (7, [.ref dr, .ref th, .ref bk, .ref wt, .ref tt, .ref lh, .ref la, .int 0, .long 0, .long 1])), (dr, .inr (2, [.ref dp, .ref dc, .int 0])), (wt, .inr (6, [.ref wo, .int 0])), (wo, .inl (cJ, 256, .inr (.inl fw))), (bk, .inr (1, [.ref bp]))] s.heap.size = A at hD ⊢
  have hA : ∀ q : Nat, s.heap.size ≤ q → A q := fun q h => by rw [← hAe]; exact Or.inr h
  have hS : va_S A s.heap s.heap [] := va_S.rf
  have hiX7 : ∀ w ∈ u_ws RX7 TX7 10, w ∈ wsX7_chance := by decide +kernel
  have hl := lv_entry ([.ref mx, .int p1, .int p2, .int p3]) (n := 10) (Nat.le_of_ble_eq_true rfl)
  rw [lg_entry_eq]
  generalize (lg_sl ([.ref mx, .int p1, .int p2, .int p3]) ++ List.replicate (10 - (lg_sl ([.ref mx, .int p1, .int p2, .int p3])).length) Slot.unset).toArray = ls at hl ⊢
  have hl : lv_has ls 10 [(0, .ref mx), (1, .int p1), (2, .int p2), (3, .int p3)] := hl
  refine lv_aload_n hx hb dX7_chance_0 rfl (lv_at hl 0 rfl) ?_
  refine lv_lconst (v := 0) hx hb dX7_chance_1 (by decide +kernel) ?_
  refine va_put (D := (dC, dI)) (ci := 7) (v := .long 0) (ty := .long) (C := RX7) (T := TX7) (N := 10) hx hb hts hiX7 tyX7 tyX7_ok nmX7 hown hK hP hD hS 0 rfl rfl 8 (by decide) (hts (.fieldLink RX7 58 "MadeItSo" "aboveLine" "J") (by decide +kernel)) (fun _ h9 => h9) rfl (by decide +kernel) rfl rfl (Nat.le_of_ble_eq_true rfl) dX7_chance_2 (fun H locs hP hD hS => ?_)
  have hP : va_P (dC, dI) vwCl [(mx, .inr (7, [.ref dr, .ref th, .ref bk, .ref wt, .ref tt, .ref lh, .ref la, .int 0, .long 0, .long 1])), (dr, .inr (2, [.ref dp, .ref dc, .int 0])), (wt, .inr (6, [.ref wo, .int 0])), (wo, .inl (cJ, 256, .inr (.inl fw))), (bk, .inr (1, [.ref bp]))] H := hP
  have hD : va_D A [(mx, .inr (7, [.ref dr, .ref th, .ref bk, .ref wt, .ref tt, .ref lh, .ref la, .int 0, .long 0, .long 1])), (dr, .inr (2, [.ref dp, .ref dc, .int 0])), (wt, .inr (6, [.ref wo, .int 0])), (wo, .inl (cJ, 256, .inr (.inl fw))), (bk, .inr (1, [.ref bp]))] := hD
  refine lv_aload_n hx hb dX7_chance_5 rfl (lv_at hl 0 rfl) ?_
  refine lv_lconst (v := 1) hx hb dX7_chance_6 (by decide +kernel) ?_
  refine va_put (D := (dC, dI)) (ci := 7) (v := .long 1) (ty := .long) (C := RX7) (T := TX7) (N := 10) hx hb hts hiX7 tyX7 tyX7_ok nmX7 hown hK hP hD hS 0 rfl rfl 9 (by decide) (hts (.fieldLink RX7 62 "MadeItSo" "belowLine" "J") (by decide +kernel)) (fun _ h9 => h9) rfl (by decide +kernel) rfl rfl (Nat.le_of_ble_eq_true rfl) dX7_chance_7 (fun H locs hP hD hS => ?_)
  have hP : va_P (dC, dI) vwCl [(mx, .inr (7, [.ref dr, .ref th, .ref bk, .ref wt, .ref tt, .ref lh, .ref la, .int 0, .long 0, .long 1])), (dr, .inr (2, [.ref dp, .ref dc, .int 0])), (wt, .inr (6, [.ref wo, .int 0])), (wo, .inl (cJ, 256, .inr (.inl fw))), (bk, .inr (1, [.ref bp]))] H := hP
  have hD : va_D A [(mx, .inr (7, [.ref dr, .ref th, .ref bk, .ref wt, .ref tt, .ref lh, .ref la, .int 0, .long 0, .long 1])), (dr, .inr (2, [.ref dp, .ref dc, .int 0])), (wt, .inr (6, [.ref wo, .int 0])), (wo, .inl (cJ, 256, .inr (.inl fw))), (bk, .inr (1, [.ref bp]))] := hD
  refine lv_aload_n hx hb dX7_chance_10 rfl (lv_at hl 0 rfl) ?_
  refine lv_iload_n hx hb dX7_chance_11 rfl (lv_at hl 1 rfl) ?_
  by_cases hz_12 : p1 = 0
  · subst hz_12
    have hPc := hP.sub (ws' := [(mx, .inr (7, [.ref dr, .ref th, .ref bk, .ref wt, .ref tt, .ref lh, .ref la, .int 0, .long 0, .long 1])), (dr, .inr (2, [.ref dp, .ref dc, .int 0]))]) [0, 1] rfl
    refine va_calli (va_runV (As := [.int 0]) (rest := []) ⟨hx, hb, hml, hown, hts⟩ (mz_isSetting_0 l dC dI cI cJ cZ mx dr th bk wt tt lh la dp dc 0 1 H ) (cwV 1 hts gX7_chance_X7_isSetting rfl rfl rfl (by decide +kernel) ⟨Nat.le_of_ble_eq_true rfl, Nat.le_of_ble_eq_true rfl⟩) ⟨fun a U g mk q => mz_blP q, va_recv hK hPc (ci := 7) (q0 := 0) rfl rfl, fun U hU hW => ⟨rfl, hU, hPc, va_K.moved hW.alike hK, mz_nw hW hN⟩⟩ rfl rfl hl.1 rfl (lv_room (Nat.le_of_ble_eq_true rfl)) dX7_chance_12 ⟨Nat.le_of_ble_eq_true rfl, Nat.le_of_ble_eq_true rfl⟩) hS (fun q _ h => h.elim) (fun q h => h.elim) (fun r u t H1 locs ht hvm hw hB hz1 hk1 hS => ?_)
    have hE : H = H1 := hB.symm.trans ht
    subst hE
    obtain rfl : r = 1 := hw
    refine lv_if_eq (tgt := 34) hx hb dX7_chance_15 (by decide) (fun c_15 => absurd c_15 (by decide +kernel)) (fun _ => ?_)
    refine lv_aload_n hx hb dX7_chance_18 rfl (lv_at hl 0 rfl) ?_
    refine lv_iload_n hx hb dX7_chance_19 rfl (lv_at hl 2 rfl) ?_
    by_cases hz_20 : p2 = 0
    · subst hz_20
      have hPc := hP.sub (ws' := [(mx, .inr (7, [.ref dr, .ref th, .ref bk, .ref wt, .ref tt, .ref lh, .ref la, .int 0, .long 0, .long 1])), (dr, .inr (2, [.ref dp, .ref dc, .int 0]))]) [0, 1] rfl
      refine va_calli (va_runV (As := [.int 0]) (rest := []) ⟨hx, hb, hml, hown, hts⟩ (mz_isSetting_0 l dC dI cI cJ cZ mx dr th bk wt tt lh la dp dc 0 1 H ) (cwV 1 hts gX7_chance_X7_isSetting rfl rfl rfl (by decide +kernel) ⟨Nat.le_of_ble_eq_true rfl, Nat.le_of_ble_eq_true rfl⟩) ⟨fun a U g mk q => mz_blP q, va_recv hK hPc (ci := 7) (q0 := 0) rfl rfl, fun U hU hW => ⟨rfl, hU, hPc, va_K.moved hW.alike hK, mz_nw hW hN⟩⟩ rfl rfl hl.1 rfl (lv_room (Nat.le_of_ble_eq_true rfl)) dX7_chance_20 ⟨Nat.le_of_ble_eq_true rfl, Nat.le_of_ble_eq_true rfl⟩) hS (fun q _ h => h.elim) (fun q h => h.elim) (fun r u t H1 locs ht hvm hw hB hz1 hk1 hS => ?_)
      have hE : H = H1 := hB.symm.trans ht
      subst hE
      obtain rfl : r = 1 := hw
      refine lv_if_eq (tgt := 34) hx hb dX7_chance_23 (by decide) (fun c_23 => absurd c_23 (by decide +kernel)) (fun _ => ?_)
      refine lv_aload_n hx hb dX7_chance_26 rfl (lv_at hl 0 rfl) ?_
      refine lv_iload_n hx hb dX7_chance_27 rfl (lv_at hl 3 rfl) ?_
      by_cases hz_28 : p3 = 0
      · subst hz_28
        have hPc := hP.sub (ws' := [(mx, .inr (7, [.ref dr, .ref th, .ref bk, .ref wt, .ref tt, .ref lh, .ref la, .int 0, .long 0, .long 1])), (dr, .inr (2, [.ref dp, .ref dc, .int 0]))]) [0, 1] rfl
        refine va_calli (va_runV (As := [.int 0]) (rest := []) ⟨hx, hb, hml, hown, hts⟩ (mz_isSetting_0 l dC dI cI cJ cZ mx dr th bk wt tt lh la dp dc 0 1 H ) (cwV 1 hts gX7_chance_X7_isSetting rfl rfl rfl (by decide +kernel) ⟨Nat.le_of_ble_eq_true rfl, Nat.le_of_ble_eq_true rfl⟩) ⟨fun a U g mk q => mz_blP q, va_recv hK hPc (ci := 7) (q0 := 0) rfl rfl, fun U hU hW => ⟨rfl, hU, hPc, va_K.moved hW.alike hK, mz_nw hW hN⟩⟩ rfl rfl hl.1 rfl (lv_room (Nat.le_of_ble_eq_true rfl)) dX7_chance_28 ⟨Nat.le_of_ble_eq_true rfl, Nat.le_of_ble_eq_true rfl⟩) hS (fun q _ h => h.elim) (fun q h => h.elim) (fun r u t H1 locs ht hvm hw hB hz1 hk1 hS => ?_)
        have hE : H = H1 := hB.symm.trans ht
        subst hE
        obtain rfl : r = 1 := hw
        refine lv_if_ne (tgt := 36) hx hb dX7_chance_31 (by decide) (fun _ => ?_) (fun c_31 => absurd c_31 (by decide +kernel))
        refine lv_aload_n hx hb dX7_chance_36 rfl (lv_at hl 0 rfl) ?_
        refine va_get (D := (dC, dI)) (ci := 7) (v := .ref wt) (C := RX7) (T := TX7) (N := 10) hx hb hts hiX7 hown hK hP 0 rfl rfl 3 (by decide) (hts (.fieldLink RX7 29 "MadeItSo" "weights" "LMadeItSo$Weights;") (by decide +kernel)) (fun _ h9 => h9) rfl dX7_chance_37 ?_
        refine lv_aload_n hx hb dX7_chance_40 rfl (lv_at hl 0 rfl) ?_
        refine va_get (D := (dC, dI)) (ci := 7) (v := .ref dr) (C := RX7) (T := TX7) (N := 10) hx hb hts hiX7 hown hK hP 0 rfl rfl 0 (by decide) (hts (.fieldLink RX7 12 "MadeItSo" "drawing" "LMadeItSo$Drawing;") (by decide +kernel)) (fun _ h9 => h9) rfl dX7_chance_41 ?_
        refine lv_aload_n hx hb dX7_chance_44 rfl (lv_at hl 0 rfl) ?_
        refine va_get (D := (dC, dI)) (ci := 7) (v := .ref bk) (C := RX7) (T := TX7) (N := 10) hx hb hts hiX7 hown hK hP 0 rfl rfl 2 (by decide) (hts (.fieldLink RX7 22 "MadeItSo" "books" "LMadeItSo$Books;") (by decide +kernel)) (fun _ h9 => h9) rfl dX7_chance_45 ?_
        refine lv_iload_n hx hb dX7_chance_48 rfl (lv_at hl 3 rfl) ?_
        have hPc := hP.sub (ws' := [(wt, .inr (6, [.ref wo, .int 0])), (wo, .inl (cJ, 256, .inr (.inl fw))), (dr, .inr (2, [.ref dp, .ref dc, .int 0]))]) [2, 3, 1] rfl
        have hDc := hD.sub (ws' := [(wt, .inr (6, [.ref wo, .int 0])), (wo, .inl (cJ, 256, .inr (.inl fw))), (dr, .inr (2, [.ref dp, .ref dc, .int 0]))]) [2, 3, 1] (by decide) rfl
        have hFc := va_free (wc := [(wt, .inr (6, [.ref wo, .int 0])), (wo, .inl (cJ, 256, .inr (.inl fw))), (dr, .inr (2, [.ref dp, .ref dc, .int 0]))]) hD hS hA [2, 3, 1] rfl
        refine va_callv (va_runV (As := [.ref dr, .ref bk, .int 0]) (rest := []) ⟨hx, hb, hml, hown, hts⟩ (mz_weigh0 l dC dI cI cJ cZ wt wo fw dr dp dc bk 0 H.size ) (cwV 3 hts gX7_chance_X6_weigh rfl rfl rfl (by decide +kernel) ⟨Nat.le_of_ble_eq_true rfl, Nat.le_of_ble_eq_true rfl⟩) ⟨fun a U g mk q => mz_blI q, va_recv hK hPc (ci := 6) (q0 := 0) rfl rfl, fun U hU hW => ⟨rfl, by rw [hU], by rw [hU]; exact hPc, va_K.moved hW.alike hK, hDc.weaken (fun _ _ _ _ => trivial), mz_nw hW hN⟩⟩ rfl rfl hl.1 rfl (lv_room (Nat.le_of_ble_eq_true rfl)) dX7_chance_49 ⟨Nat.le_of_ble_eq_true rfl, Nat.le_of_ble_eq_true rfl⟩) hS (fun q _ h => hFc q h) hFc (fun u t H1 locs ht hvm hw hB hz1 hk1 hS => ?_)
        obtain ⟨fx1, hf2, hP1, hD1⟩ := hB
        rw [ht] at hP1
        obtain ⟨hP, hD⟩ := va_join (wr := [(mx, .inr (7, [.ref dr, .ref th, .ref bk, .ref wt, .ref tt, .ref lh, .ref la, .int 0, .long 0, .long 1])), (bk, .inr (1, [.ref bp]))]) (w1 := [(wt, .inr (6, [.ref wo, .int 0])), (wo, .inl (cJ, 256, .inr (.inl fx1))), (dr, .inr (2, [.ref dp, .ref dc, .int 0]))]) hP hD [2, 3, 1] [0, 4] rfl rfl (by decide) (by decide) hk1 hFc hP1 hD1
        generalize H1 = H at hP hS ⊢
        have hP : va_P (dC, dI) vwCl [(mx, .inr (7, [.ref dr, .ref th, .ref bk, .ref wt, .ref tt, .ref lh, .ref la, .int 0, .long 0, .long 1])), (bk, .inr (1, [.ref bp])), (wt, .inr (6, [.ref wo, .int 0])), (wo, .inl (cJ, 256, .inr (.inl fx1))), (dr, .inr (2, [.ref dp, .ref dc, .int 0]))] H := hP
        have hD : va_D A [(mx, .inr (7, [.ref dr, .ref th, .ref bk, .ref wt, .ref tt, .ref lh, .ref la, .int 0, .long 0, .long 1])), (bk, .inr (1, [.ref bp])), (wt, .inr (6, [.ref wo, .int 0])), (wo, .inl (cJ, 256, .inr (.inl fx1))), (dr, .inr (2, [.ref dp, .ref dc, .int 0]))] := hD
        refine lv_aload_n hx hb dX7_chance_52 rfl (lv_at hl 0 rfl) ?_
        refine va_get (D := (dC, dI)) (ci := 7) (v := .ref wt) (C := RX7) (T := TX7) (N := 10) hx hb hts hiX7 hown hK hP 0 rfl rfl 3 (by decide) (hts (.fieldLink RX7 29 "MadeItSo" "weights" "LMadeItSo$Weights;") (by decide +kernel)) (fun _ h9 => h9) rfl dX7_chance_53 ?_
        refine lv_iload_n hx hb dX7_chance_56 rfl (lv_at hl 2 rfl) ?_
        have hPc := hP.sub (ws' := []) [] rfl
        refine va_calli (va_runS (As := [.int 0]) (rest := [.ref wt]) ⟨hx, hb, hml, hown, hts⟩ (mz_heapOf l dC dI cI cJ cZ 0 H ) (va_cwS 1 hts gX7_chance_X7_heapOf rfl rfl rfl (by decide +kernel) ⟨Nat.le_of_ble_eq_true rfl, Nat.le_of_ble_eq_true rfl⟩) ⟨fun a U g mk q => mz_blP q, fun U hU hW => ⟨rfl, hU, hPc, va_K.moved hW.alike hK, mz_nw hW hN⟩⟩ rfl rfl hl.1 rfl (lv_room (Nat.le_of_ble_eq_true rfl)) dX7_chance_57 ⟨Nat.le_of_ble_eq_true rfl, Nat.le_of_ble_eq_true rfl⟩) hS (fun q _ h => h.elim) (fun q h => h.elim) (fun r u t H1 locs ht hvm hw hB hz1 hk1 hS => ?_)
        have hE : H = H1 := hB.symm.trans ht
        subst hE
        obtain rfl : r = ((0 : Int32) &&& 255) := hw
        refine mz_ti (y := 0) (by decide +kernel) ?_
        refine lv_iload_n hx hb dX7_chance_60 rfl (lv_at hl 2 rfl) ?_
        have hPc := hP.sub (ws' := []) [] rfl
        refine va_calli (va_runS (As := [.int 0]) (rest := [.int 0, .ref wt]) ⟨hx, hb, hml, hown, hts⟩ (mz_onesOf l dC dI cI cJ cZ 0 H ) (va_cwS 1 hts gX7_chance_X7_onesOf rfl rfl rfl (by decide +kernel) ⟨Nat.le_of_ble_eq_true rfl, Nat.le_of_ble_eq_true rfl⟩) ⟨fun a U g mk q => mz_blP q, fun U hU hW => ⟨rfl, hU, hPc, va_K.moved hW.alike hK, mz_nw hW hN⟩⟩ rfl rfl hl.1 rfl (lv_room (Nat.le_of_ble_eq_true rfl)) dX7_chance_61 ⟨Nat.le_of_ble_eq_true rfl, Nat.le_of_ble_eq_true rfl⟩) hS (fun q _ h => h.elim) (fun q h => h.elim) (fun r u t H1 locs ht hvm hw hB hz1 hk1 hS => ?_)
        have hE : H = H1 := hB.symm.trans ht
        subst hE
        obtain rfl : r = (((0 : Int32) >>> (8 &&& 31)) &&& 255) := hw
        refine mz_ti (y := 0) (by decide +kernel) ?_
        have hPc := hP.sub (ws' := [(wt, .inr (6, [.ref wo, .int 0])), (wo, .inl (cJ, 256, .inr (.inl fx1)))]) [2, 3] rfl
        refine va_calll (va_runV (As := [.int 0, .int 0]) (rest := []) ⟨hx, hb, hml, hown, hts⟩ (mz_having0 l dC dI cI cJ cZ wt wo fx1 H hf2) (cwV 2 hts gX7_chance_X6_having rfl rfl rfl (by decide +kernel) ⟨Nat.le_of_ble_eq_true rfl, Nat.le_of_ble_eq_true rfl⟩) ⟨fun a U g mk q => mz_blP q, va_recv hK hPc (ci := 6) (q0 := 0) rfl rfl, fun U hU hW => ⟨rfl, hU, hPc, va_K.moved hW.alike hK, mz_nw hW hN⟩⟩ rfl rfl hl.1 rfl (lv_room (Nat.le_of_ble_eq_true rfl)) dX7_chance_64 ⟨Nat.le_of_ble_eq_true rfl, Nat.le_of_ble_eq_true rfl⟩) hS (fun q _ h => h.elim) (fun q h => h.elim) (fun r u t H1 locs ht hvm hw hB hz1 hk1 hS => ?_)
        have hE : H = H1 := hB.symm.trans ht
        subst hE
        obtain rfl : r = 1 := hw
        refine lv_lstore (lv' := [(4, .long 1), (0, .ref mx), (1, .int 0), (2, .int 0), (3, .int 0)]) hx hb dX7_chance_67 hl (by decide) rfl (fun ls hl => ?_)
        refine lv_lload hx hb dX7_chance_69 (lv_at hl 0 rfl) ?_
        refine lv_lconst (v := 0) hx hb dX7_chance_71 (by decide +kernel) ?_
        refine W.lcmp hx hb dX7_chance_72 ?_
        refine mz_ti (y := 1) (by decide +kernel) ?_
        refine lv_if_gt (tgt := 78) hx hb dX7_chance_73 (by decide) (fun _ => ?_) (fun c_73 => absurd (by decide +kernel) c_73)
        refine lv_lconst (v := 0) hx hb dX7_chance_78 (by decide +kernel) ?_
        refine lv_lstore (lv' := [(6, .long 0), (4, .long 1), (0, .ref mx), (1, .int 0), (2, .int 0), (3, .int 0)]) hx hb dX7_chance_79 hl (by decide) rfl (fun ls hl => ?_)
        refine lv_iload_n hx hb dX7_chance_81 rfl (lv_at hl 3 rfl) ?_
        refine lv_iload_n hx hb dX7_chance_82 rfl (lv_at hl 4 rfl) ?_
        have hPc := hP.sub (ws' := []) [] rfl
        refine va_calli (va_runS (As := [.int 0, .int 0]) (rest := []) ⟨hx, hb, hml, hown, hts⟩ (mz_clash0 l dC dI cI cJ cZ  H ) (va_cwS 2 hts gX7_chance_X7_clash rfl rfl rfl (by decide +kernel) ⟨Nat.le_of_ble_eq_true rfl, Nat.le_of_ble_eq_true rfl⟩) ⟨fun a U g mk q => mz_blP q, fun U hU hW => ⟨rfl, hU, hPc, va_K.moved hW.alike hK, mz_nw hW hN⟩⟩ rfl rfl hl.1 rfl (lv_room (Nat.le_of_ble_eq_true rfl)) dX7_chance_83 ⟨Nat.le_of_ble_eq_true rfl, Nat.le_of_ble_eq_true rfl⟩) hS (fun q _ h => h.elim) (fun q h => h.elim) (fun r u t H1 locs ht hvm hw hB hz1 hk1 hS => ?_)
        have hE : H = H1 := hB.symm.trans ht
        subst hE
        obtain rfl : r = 0 := hw
        refine lv_if_ne (tgt := 110) hx hb dX7_chance_86 (by decide) (fun c_86 => absurd (by decide +kernel) c_86) (fun _ => ?_)
        refine lv_aload_n hx hb dX7_chance_89 rfl (lv_at hl 2 rfl) ?_
        refine va_get (D := (dC, dI)) (ci := 7) (v := .ref wt) (C := RX7) (T := TX7) (N := 10) hx hb hts hiX7 hown hK hP 0 rfl rfl 3 (by decide) (hts (.fieldLink RX7 29 "MadeItSo" "weights" "LMadeItSo$Weights;") (by decide +kernel)) (fun _ h9 => h9) rfl dX7_chance_90 ?_
        refine lv_iload_n hx hb dX7_chance_93 rfl (lv_at hl 3 rfl) ?_
        refine lv_iload_n hx hb dX7_chance_94 rfl (lv_at hl 4 rfl) ?_
        refine lv_ior hx hb dX7_chance_95 ?_
        refine mz_ti (y := 0) (by decide +kernel) ?_
        have hPc := hP.sub (ws' := []) [] rfl
        refine va_calli (va_runS (As := [.int 0]) (rest := [.ref wt]) ⟨hx, hb, hml, hown, hts⟩ (mz_heapOf l dC dI cI cJ cZ 0 H ) (va_cwS 1 hts gX7_chance_X7_heapOf rfl rfl rfl (by decide +kernel) ⟨Nat.le_of_ble_eq_true rfl, Nat.le_of_ble_eq_true rfl⟩) ⟨fun a U g mk q => mz_blP q, fun U hU hW => ⟨rfl, hU, hPc, va_K.moved hW.alike hK, mz_nw hW hN⟩⟩ rfl rfl hl.1 rfl (lv_room (Nat.le_of_ble_eq_true rfl)) dX7_chance_96 ⟨Nat.le_of_ble_eq_true rfl, Nat.le_of_ble_eq_true rfl⟩) hS (fun q _ h => h.elim) (fun q h => h.elim) (fun r u t H1 locs ht hvm hw hB hz1 hk1 hS => ?_)
        have hE : H = H1 := hB.symm.trans ht
        subst hE
        obtain rfl : r = ((0 : Int32) &&& 255) := hw
        refine mz_ti (y := 0) (by decide +kernel) ?_
        refine lv_iload_n hx hb dX7_chance_99 rfl (lv_at hl 3 rfl) ?_
        refine lv_iload_n hx hb dX7_chance_100 rfl (lv_at hl 4 rfl) ?_
        refine lv_ior hx hb dX7_chance_101 ?_
        refine mz_ti (y := 0) (by decide +kernel) ?_
        have hPc := hP.sub (ws' := []) [] rfl
        refine va_calli (va_runS (As := [.int 0]) (rest := [.int 0, .ref wt]) ⟨hx, hb, hml, hown, hts⟩ (mz_onesOf l dC dI cI cJ cZ 0 H ) (va_cwS 1 hts gX7_chance_X7_onesOf rfl rfl rfl (by decide +kernel) ⟨Nat.le_of_ble_eq_true rfl, Nat.le_of_ble_eq_true rfl⟩) ⟨fun a U g mk q => mz_blP q, fun U hU hW => ⟨rfl, hU, hPc, va_K.moved hW.alike hK, mz_nw hW hN⟩⟩ rfl rfl hl.1 rfl (lv_room (Nat.le_of_ble_eq_true rfl)) dX7_chance_102 ⟨Nat.le_of_ble_eq_true rfl, Nat.le_of_ble_eq_true rfl⟩) hS (fun q _ h => h.elim) (fun q h => h.elim) (fun r u t H1 locs ht hvm hw hB hz1 hk1 hS => ?_)
        have hE : H = H1 := hB.symm.trans ht
        subst hE
        obtain rfl : r = (((0 : Int32) >>> (8 &&& 31)) &&& 255) := hw
        refine mz_ti (y := 0) (by decide +kernel) ?_
        have hPc := hP.sub (ws' := [(wt, .inr (6, [.ref wo, .int 0])), (wo, .inl (cJ, 256, .inr (.inl fx1)))]) [2, 3] rfl
        refine va_calll (va_runV (As := [.int 0, .int 0]) (rest := []) ⟨hx, hb, hml, hown, hts⟩ (mz_having0 l dC dI cI cJ cZ wt wo fx1 H hf2) (cwV 2 hts gX7_chance_X6_having rfl rfl rfl (by decide +kernel) ⟨Nat.le_of_ble_eq_true rfl, Nat.le_of_ble_eq_true rfl⟩) ⟨fun a U g mk q => mz_blP q, va_recv hK hPc (ci := 6) (q0 := 0) rfl rfl, fun U hU hW => ⟨rfl, hU, hPc, va_K.moved hW.alike hK, mz_nw hW hN⟩⟩ rfl rfl hl.1 rfl (lv_room (Nat.le_of_ble_eq_true rfl)) dX7_chance_105 ⟨Nat.le_of_ble_eq_true rfl, Nat.le_of_ble_eq_true rfl⟩) hS (fun q _ h => h.elim) (fun q h => h.elim) (fun r u t H1 locs ht hvm hw hB hz1 hk1 hS => ?_)
        have hE : H = H1 := hB.symm.trans ht
        subst hE
        obtain rfl : r = 1 := hw
        refine lv_lstore (lv' := [(6, .long 1), (4, .long 1), (0, .ref mx), (1, .int 0), (2, .int 0), (3, .int 0)]) hx hb dX7_chance_108 hl (by decide) rfl (fun ls hl => ?_)
        refine lv_lload hx hb dX7_chance_110 (lv_at hl 1 rfl) ?_
        refine lv_lload hx hb dX7_chance_112 (lv_at hl 0 rfl) ?_
        have hPc := hP.sub (ws' := []) [] rfl
        refine va_calll (va_runS (As := [.long 1, .long 1]) (rest := []) ⟨hx, hb, hml, hown, hts⟩ (mz_commonDivisor1 l dC dI cI cJ cZ  H ) (va_cwS 2 hts gX7_chance_X7_commonDivisor rfl rfl rfl (by decide +kernel) ⟨Nat.le_of_ble_eq_true rfl, Nat.le_of_ble_eq_true rfl⟩) ⟨fun a U g mk q => mz_blP q, fun U hU hW => ⟨rfl, hU, hPc, va_K.moved hW.alike hK, mz_nw hW hN⟩⟩ rfl rfl hl.1 rfl (lv_room (Nat.le_of_ble_eq_true rfl)) dX7_chance_114 ⟨Nat.le_of_ble_eq_true rfl, Nat.le_of_ble_eq_true rfl⟩) hS (fun q _ h => h.elim) (fun q h => h.elim) (fun r u t H1 locs ht hvm hw hB hz1 hk1 hS => ?_)
        have hE : H = H1 := hB.symm.trans ht
        subst hE
        obtain rfl : r = 1 := hw
        refine lv_lstore (lv' := [(8, .long 1), (6, .long 1), (4, .long 1), (0, .ref mx), (1, .int 0), (2, .int 0), (3, .int 0)]) hx hb dX7_chance_117 hl (by decide) rfl (fun ls hl => ?_)
        refine lv_aload_n hx hb dX7_chance_119 rfl (lv_at hl 3 rfl) ?_
        refine lv_lload hx hb dX7_chance_120 (lv_at hl 1 rfl) ?_
        refine lv_lload hx hb dX7_chance_122 (lv_at hl 0 rfl) ?_
        refine lv_ldiv hx hb dX7_chance_124 (by decide +kernel) ?_
        refine mz_tl (y := 1) (by decide +kernel) ?_
        refine va_put (D := (dC, dI)) (ci := 7) (v := .long 1) (ty := .long) (C := RX7) (T := TX7) (N := 10) hx hb hts hiX7 tyX7 tyX7_ok nmX7 hown hK hP hD hS 0 rfl rfl 8 (by decide) (hts (.fieldLink RX7 58 "MadeItSo" "aboveLine" "J") (by decide +kernel)) (fun _ h9 => h9) rfl (by decide +kernel) rfl rfl (Nat.le_of_ble_eq_true rfl) dX7_chance_125 (fun H locs hP hD hS => ?_)
        have hP : va_P (dC, dI) vwCl [(mx, .inr (7, [.ref dr, .ref th, .ref bk, .ref wt, .ref tt, .ref lh, .ref la, .int 0, .long 1, .long 1])), (bk, .inr (1, [.ref bp])), (wt, .inr (6, [.ref wo, .int 0])), (wo, .inl (cJ, 256, .inr (.inl fx1))), (dr, .inr (2, [.ref dp, .ref dc, .int 0]))] H := hP
        have hD : va_D A [(mx, .inr (7, [.ref dr, .ref th, .ref bk, .ref wt, .ref tt, .ref lh, .ref la, .int 0, .long 1, .long 1])), (bk, .inr (1, [.ref bp])), (wt, .inr (6, [.ref wo, .int 0])), (wo, .inl (cJ, 256, .inr (.inl fx1))), (dr, .inr (2, [.ref dp, .ref dc, .int 0]))] := hD
        refine lv_aload_n hx hb dX7_chance_128 rfl (lv_at hl 3 rfl) ?_
        refine lv_lload hx hb dX7_chance_129 (lv_at hl 2 rfl) ?_
        refine lv_lload hx hb dX7_chance_131 (lv_at hl 0 rfl) ?_
        refine lv_ldiv hx hb dX7_chance_133 (by decide +kernel) ?_
        refine mz_tl (y := 1) (by decide +kernel) ?_
        refine va_put (D := (dC, dI)) (ci := 7) (v := .long 1) (ty := .long) (C := RX7) (T := TX7) (N := 10) hx hb hts hiX7 tyX7 tyX7_ok nmX7 hown hK hP hD hS 0 rfl rfl 9 (by decide) (hts (.fieldLink RX7 62 "MadeItSo" "belowLine" "J") (by decide +kernel)) (fun _ h9 => h9) rfl (by decide +kernel) rfl rfl (Nat.le_of_ble_eq_true rfl) dX7_chance_134 (fun H locs hP hD hS => ?_)
        have hP : va_P (dC, dI) vwCl [(mx, .inr (7, [.ref dr, .ref th, .ref bk, .ref wt, .ref tt, .ref lh, .ref la, .int 0, .long 1, .long 1])), (bk, .inr (1, [.ref bp])), (wt, .inr (6, [.ref wo, .int 0])), (wo, .inl (cJ, 256, .inr (.inl fx1))), (dr, .inr (2, [.ref dp, .ref dc, .int 0]))] H := hP
        have hD : va_D A [(mx, .inr (7, [.ref dr, .ref th, .ref bk, .ref wt, .ref tt, .ref lh, .ref la, .int 0, .long 1, .long 1])), (bk, .inr (1, [.ref bp])), (wt, .inr (6, [.ref wo, .int 0])), (wo, .inl (cJ, 256, .inr (.inl fx1))), (dr, .inr (2, [.ref dp, .ref dc, .int 0]))] := hD
        refine lv_iconst (v := 1) hx hb dX7_chance_137 (by decide +kernel) ?_
        have hP9 := hP.sub (ws' := []) [] rfl
        have hD9 := hD.sub (ws' := []) [] (by decide) rfl
        refine W.widen (k := 0) (n := 0) (Nat.le_of_ble_eq_true rfl) (Nat.le_of_ble_eq_true rfl) ?_
        exact W.iret (v := 1) hx hb hr (fun t ht hW => ⟨⟨1, (), rfl, by simp [*], by rw [ht]; exact hP9, hD9⟩, hS.F ht⟩) hS.2.2 dX7_chance_138
      · skip
        have hPc := hP.sub (ws' := [(mx, .inr (7, [.ref dr, .ref th, .ref bk, .ref wt, .ref tt, .ref lh, .ref la, .int 0, .long 0, .long 1])), (dr, .inr (2, [.ref dp, .ref dc, .int 0]))]) [0, 1] rfl
        refine va_calli (va_runV (As := [.int p3]) (rest := []) ⟨hx, hb, hml, hown, hts⟩ (mz_isSetting_n l dC dI cI cJ cZ mx dr th bk wt tt lh la dp dc 0 1 p3 H hz_28) (cwV 1 hts gX7_chance_X7_isSetting rfl rfl rfl (by decide +kernel) ⟨Nat.le_of_ble_eq_true rfl, Nat.le_of_ble_eq_true rfl⟩) ⟨fun a U g mk q => mz_blP q, va_recv hK hPc (ci := 7) (q0 := 0) rfl rfl, fun U hU hW => ⟨rfl, hU, hPc, va_K.moved hW.alike hK, mz_nw hW hN⟩⟩ rfl rfl hl.1 rfl (lv_room (Nat.le_of_ble_eq_true rfl)) dX7_chance_28 ⟨Nat.le_of_ble_eq_true rfl, Nat.le_of_ble_eq_true rfl⟩) hS (fun q _ h => h.elim) (fun q h => h.elim) (fun r u t H1 locs ht hvm hw hB hz1 hk1 hS => ?_)
        have hE : H = H1 := hB.symm.trans ht
        subst hE
        obtain rfl : r = 0 := hw
        refine lv_if_ne (tgt := 36) hx hb dX7_chance_31 (by decide) (fun c_31 => absurd (by decide +kernel) c_31) (fun _ => ?_)
        refine lv_iconst (v := (-1)) hx hb dX7_chance_34 (by decide +kernel) ?_
        have hP9 := hP.sub (ws' := []) [] rfl
        have hD9 := hD.sub (ws' := []) [] (by decide) rfl
        refine W.widen (k := 0) (n := 0) (Nat.le_of_ble_eq_true rfl) (Nat.le_of_ble_eq_true rfl) ?_
        exact W.iret (v := (-1)) hx hb hr (fun t ht hW => ⟨⟨(-1), (), rfl, by simp [*], by rw [ht]; exact hP9, hD9⟩, hS.F ht⟩) hS.2.2 dX7_chance_35
    · skip
      have hPc := hP.sub (ws' := [(mx, .inr (7, [.ref dr, .ref th, .ref bk, .ref wt, .ref tt, .ref lh, .ref la, .int 0, .long 0, .long 1])), (dr, .inr (2, [.ref dp, .ref dc, .int 0]))]) [0, 1] rfl
      refine va_calli (va_runV (As := [.int p2]) (rest := []) ⟨hx, hb, hml, hown, hts⟩ (mz_isSetting_n l dC dI cI cJ cZ mx dr th bk wt tt lh la dp dc 0 1 p2 H hz_20) (cwV 1 hts gX7_chance_X7_isSetting rfl rfl rfl (by decide +kernel) ⟨Nat.le_of_ble_eq_true rfl, Nat.le_of_ble_eq_true rfl⟩) ⟨fun a U g mk q => mz_blP q, va_recv hK hPc (ci := 7) (q0 := 0) rfl rfl, fun U hU hW => ⟨rfl, hU, hPc, va_K.moved hW.alike hK, mz_nw hW hN⟩⟩ rfl rfl hl.1 rfl (lv_room (Nat.le_of_ble_eq_true rfl)) dX7_chance_20 ⟨Nat.le_of_ble_eq_true rfl, Nat.le_of_ble_eq_true rfl⟩) hS (fun q _ h => h.elim) (fun q h => h.elim) (fun r u t H1 locs ht hvm hw hB hz1 hk1 hS => ?_)
      have hE : H = H1 := hB.symm.trans ht
      subst hE
      obtain rfl : r = 0 := hw
      refine lv_if_eq (tgt := 34) hx hb dX7_chance_23 (by decide) (fun _ => ?_) (fun c_23 => absurd (by decide +kernel) c_23)
      refine lv_iconst (v := (-1)) hx hb dX7_chance_34 (by decide +kernel) ?_
      have hP9 := hP.sub (ws' := []) [] rfl
      have hD9 := hD.sub (ws' := []) [] (by decide) rfl
      refine W.widen (k := 0) (n := 0) (Nat.le_of_ble_eq_true rfl) (Nat.le_of_ble_eq_true rfl) ?_
      exact W.iret (v := (-1)) hx hb hr (fun t ht hW => ⟨⟨(-1), (), rfl, by simp [*], by rw [ht]; exact hP9, hD9⟩, hS.F ht⟩) hS.2.2 dX7_chance_35
  · skip
    have hPc := hP.sub (ws' := [(mx, .inr (7, [.ref dr, .ref th, .ref bk, .ref wt, .ref tt, .ref lh, .ref la, .int 0, .long 0, .long 1])), (dr, .inr (2, [.ref dp, .ref dc, .int 0]))]) [0, 1] rfl
    refine va_calli (va_runV (As := [.int p1]) (rest := []) ⟨hx, hb, hml, hown, hts⟩ (mz_isSetting_n l dC dI cI cJ cZ mx dr th bk wt tt lh la dp dc 0 1 p1 H hz_12) (cwV 1 hts gX7_chance_X7_isSetting rfl rfl rfl (by decide +kernel) ⟨Nat.le_of_ble_eq_true rfl, Nat.le_of_ble_eq_true rfl⟩) ⟨fun a U g mk q => mz_blP q, va_recv hK hPc (ci := 7) (q0 := 0) rfl rfl, fun U hU hW => ⟨rfl, hU, hPc, va_K.moved hW.alike hK, mz_nw hW hN⟩⟩ rfl rfl hl.1 rfl (lv_room (Nat.le_of_ble_eq_true rfl)) dX7_chance_12 ⟨Nat.le_of_ble_eq_true rfl, Nat.le_of_ble_eq_true rfl⟩) hS (fun q _ h => h.elim) (fun q h => h.elim) (fun r u t H1 locs ht hvm hw hB hz1 hk1 hS => ?_)
    have hE : H = H1 := hB.symm.trans ht
    subst hE
    obtain rfl : r = 0 := hw
    refine lv_if_eq (tgt := 34) hx hb dX7_chance_15 (by decide) (fun _ => ?_) (fun c_15 => absurd (by decide +kernel) c_15)
    refine lv_iconst (v := (-1)) hx hb dX7_chance_34 (by decide +kernel) ?_
    have hP9 := hP.sub (ws' := []) [] rfl
    have hD9 := hD.sub (ws' := []) [] (by decide) rfl
    refine W.widen (k := 0) (n := 0) (Nat.le_of_ble_eq_true rfl) (Nat.le_of_ble_eq_true rfl) ?_
    exact W.iret (v := (-1)) hx hb hr (fun t ht hW => ⟨⟨(-1), (), rfl, by simp [*], by rw [ht]; exact hP9, hD9⟩, hS.F ht⟩) hS.2.2 dX7_chance_35
