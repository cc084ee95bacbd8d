/-! statics, Drawing, Books, Weights, LeastHeaps, Lookalikes: any state -/
set_option maxHeartbeats 1000000 in
set_option maxRecDepth 100000 in
theorem mz_g_bit (l : Launch) (dC : Nat → ClassId) (dI : Nat → Nat → Nat) (cI cJ cZ : ClassId) (p0 : Int32) (Hq : Heap)  : Met l yX7_bit wsX7_bit ({ frames := 0, cells := 0, slots := 0, locals := 0 }) (va_Pc [.int p0] (fun U => U.heap = Hq ∧ va_P (dC, dI) vwCl [] Hq ∧ va_K (dC, dI) vwCl [(cI, FieldType.int), (cJ, FieldType.long), (cZ, FieldType.boolean)] U ∧ mz_N U)) (va_Qi (fun (r : Int32) (_ : Unit) => r = (1 <<< (p0 &&& 31))) (fun _ t => t.heap = Hq) (fun _ : Nat => False)) 0 0 (fun _ : Nat => False) := by
  refine Met.ofW (cc := cX7_bit) (maxL := 1) (ret := (some .int)) (by decide) rfl ?_
  intro p e s m args below meth c s₁ B hml hv
  obtain ⟨rfl, hH, hP, hK, hN⟩ := hv
  subst hH
  have hx := B.exec
  have hb := B.bytes
  have hr := B.returns
  have hts := atoms_spec (ws := wsX7_bit) B.pre
  have hown : s.vm.findClass RX7 = some m.cls := findClass_of_methodNamed B.named
  have hlocks := B.notSynchronized
  have hS : va_S (fun _ : Nat => False) s.heap s.heap [] := va_S.rf
  have hl := lv_entry ([.int p0]) (n := 1) (Nat.le_of_ble_eq_true rfl)
  rw [lg_entry_eq]
  generalize (lg_sl ([.int p0]) ++ List.replicate (1 - (lg_sl ([.int p0])).length) Slot.unset).toArray = ls at hl ⊢
  have hl : lv_has ls 1 [(0, .int p0)] := hl
  refine lv_iconst (v := 1) hx hb dX7_bit_0 (by decide +kernel) ?_
  refine lv_iload_n hx hb dX7_bit_1 rfl (lv_at hl 0 rfl) ?_
  refine lv_ishl hx hb dX7_bit_2 ?_
  refine W.widen (k := 0) (n := 0) (Nat.le_of_ble_eq_true rfl) (Nat.le_of_ble_eq_true rfl) ?_
  exact W.iret (v := (1 <<< (p0 &&& 31))) hx hb hr (fun t ht hW => ⟨⟨(1 <<< (p0 &&& 31)), (), rfl, rfl, ht⟩, hS.F ht⟩) hS.2.2 dX7_bit_3
set_option maxHeartbeats 1000000 in
set_option maxRecDepth 100000 in
theorem mz_g_inHeap (l : Launch) (dC : Nat → ClassId) (dI : Nat → Nat → Nat) (cI cJ cZ : ClassId) (p0 : Int32) (p1 : Int32) (Hq : Heap)  : Met l yX7_inHeap wsX7_inHeap ({ frames := 0, cells := 0, slots := 0, locals := 0 }) (va_Pc [.int p0, .int p1] (fun U => U.heap = Hq ∧ va_P (dC, dI) vwCl [] Hq ∧ va_K (dC, dI) vwCl [(cI, FieldType.int), (cJ, FieldType.long), (cZ, FieldType.boolean)] U ∧ mz_N U)) (va_Qi (fun (r : Int32) (_ : Unit) => r = 0 ∨ r = 1) (fun _ t => t.heap = Hq) (fun _ : Nat => False)) 0 0 (fun _ : Nat => False) := by
  refine Met.ofW (cc := cX7_inHeap) (maxL := 2) (ret := (some .boolean)) (by decide) rfl ?_
  intro p e s m args below meth c s₁ B hml hv
  obtain ⟨rfl, hH, hP, hK, hN⟩ := hv
  subst hH
  have hx := B.exec
  have hb := B.bytes
  have hr := B.returns
  have hts := atoms_spec (ws := wsX7_inHeap) B.pre
  have hown : s.vm.findClass RX7 = some m.cls := findClass_of_methodNamed B.named
  have hlocks := B.notSynchronized
  have hS : va_S (fun _ : Nat => False) s.heap s.heap [] := va_S.rf
  have hl := lv_entry ([.int p0, .int p1]) (n := 2) (Nat.le_of_ble_eq_true rfl)
  rw [lg_entry_eq]
  generalize (lg_sl ([.int p0, .int p1]) ++ List.replicate (2 - (lg_sl ([.int p0, .int p1])).length) Slot.unset).toArray = ls at hl ⊢
  have hl : lv_has ls 2 [(0, .int p0), (1, .int p1)] := hl
  refine lv_iload_n hx hb dX7_inHeap_0 rfl (lv_at hl 0 rfl) ?_
  refine lv_iload_n hx hb dX7_inHeap_1 rfl (lv_at hl 1 rfl) ?_
  refine lv_ishr hx hb dX7_inHeap_2 ?_
  refine lv_topi (fun v_2 ev_2 => ?_)
  refine lv_iconst (v := 1) hx hb dX7_inHeap_3 (by decide +kernel) ?_
  refine lv_iand hx hb dX7_inHeap_4 ?_
  refine lv_topi (fun v_4 ev_4 => ?_)
  refine lv_iconst (v := 1) hx hb dX7_inHeap_5 (by decide +kernel) ?_
  refine lv_icmp_ne (tgt := 13) hx hb dX7_inHeap_6 (by decide) (fun c_6 => ?_) (fun c_6 => ?_)
  · skip
    refine lv_iconst (v := 0) hx hb dX7_inHeap_13 (by decide +kernel) ?_
    refine W.widen (k := 0) (n := 0) (Nat.le_of_ble_eq_true rfl) (Nat.le_of_ble_eq_true rfl) ?_
    exact W.zret (v := 0) hx hb hr (mz_nz (by decide +kernel)) (fun t ht hW => ⟨⟨0, (), rfl, Or.inl rfl, ht⟩, hS.F ht⟩) hS.2.2 dX7_inHeap_14
  · skip
    refine lv_iconst (v := 1) hx hb dX7_inHeap_9 (by decide +kernel) ?_
    refine lv_goto (tgt := 14) hx hb dX7_inHeap_10 (by decide) ?_
    refine W.widen (k := 0) (n := 0) (Nat.le_of_ble_eq_true rfl) (Nat.le_of_ble_eq_true rfl) ?_
    exact W.zret (v := 1) hx hb hr (mz_nz (by decide +kernel)) (fun t ht hW => ⟨⟨1, (), rfl, Or.inr rfl, ht⟩, hS.F ht⟩) hS.2.2 dX7_inHeap_14
set_option maxHeartbeats 1000000 in
set_option maxRecDepth 100000 in
theorem mz_g_isBit (l : Launch) (dC : Nat → ClassId) (dI : Nat → Nat → Nat) (cI cJ cZ : ClassId) (p0 : Int32) (Hq : Heap)  : Met l yX7_isBit wsX7_isBit ({ frames := 0, cells := 0, slots := 0, locals := 0 }) (va_Pc [.int p0] (fun U => U.heap = Hq ∧ va_P (dC, dI) vwCl [] Hq ∧ va_K (dC, dI) vwCl [(cI, FieldType.int), (cJ, FieldType.long), (cZ, FieldType.boolean)] U ∧ mz_N U)) (va_Qi (fun (r : Int32) (_ : Unit) => r = 0 ∨ r = 1) (fun _ t => t.heap = Hq) (fun _ : Nat => False)) 0 0 (fun _ : Nat => False) := by
  refine Met.ofW (cc := cX7_isBit) (maxL := 1) (ret := (some .boolean)) (by decide) rfl ?_
  intro p e s m args below meth c s₁ B hml hv
  obtain ⟨rfl, hH, hP, hK, hN⟩ := hv
  subst hH
  have hx := B.exec
  have hb := B.bytes
  have hr := B.returns
  have hts := atoms_spec (ws := wsX7_isBit) B.pre
  have hown : s.vm.findClass RX7 = some m.cls := findClass_of_methodNamed B.named
  have hlocks := B.notSynchronized
  have hS : va_S (fun _ : Nat => False) s.heap s.heap [] := va_S.rf
  have hl := lv_entry ([.int p0]) (n := 1) (Nat.le_of_ble_eq_true rfl)
  rw [lg_entry_eq]
  generalize (lg_sl ([.int p0]) ++ List.replicate (1 - (lg_sl ([.int p0])).length) Slot.unset).toArray = ls at hl ⊢
  have hl : lv_has ls 1 [(0, .int p0)] := hl
  refine lv_iload_n hx hb dX7_isBit_0 rfl (lv_at hl 0 rfl) ?_
  refine lv_if_eq (tgt := 9) hx hb dX7_isBit_1 (by decide) (fun c_1 => ?_) (fun c_1 => ?_)
  · skip
    refine lv_iconst (v := 1) hx hb dX7_isBit_9 (by decide +kernel) ?_
    refine lv_goto (tgt := 14) hx hb dX7_isBit_10 (by decide) ?_
    refine W.widen (k := 0) (n := 0) (Nat.le_of_ble_eq_true rfl) (Nat.le_of_ble_eq_true rfl) ?_
    exact W.zret (v := 1) hx hb hr (mz_nz (by decide +kernel)) (fun t ht hW => ⟨⟨1, (), rfl, Or.inr rfl, ht⟩, hS.F ht⟩) hS.2.2 dX7_isBit_14
  · skip
    refine lv_iload_n hx hb dX7_isBit_4 rfl (lv_at hl 0 rfl) ?_
    refine lv_iconst (v := 1) hx hb dX7_isBit_5 (by decide +kernel) ?_
    refine lv_icmp_ne (tgt := 13) hx hb dX7_isBit_6 (by decide) (fun c_6 => ?_) (fun c_6 => ?_)
    · skip
      refine lv_iconst (v := 0) hx hb dX7_isBit_13 (by decide +kernel) ?_
      refine W.widen (k := 0) (n := 0) (Nat.le_of_ble_eq_true rfl) (Nat.le_of_ble_eq_true rfl) ?_
      exact W.zret (v := 0) hx hb hr (mz_nz (by decide +kernel)) (fun t ht hW => ⟨⟨0, (), rfl, Or.inl rfl, ht⟩, hS.F ht⟩) hS.2.2 dX7_isBit_14
    · skip
      refine lv_iconst (v := 1) hx hb dX7_isBit_9 (by decide +kernel) ?_
      refine lv_goto (tgt := 14) hx hb dX7_isBit_10 (by decide) ?_
      refine W.widen (k := 0) (n := 0) (Nat.le_of_ble_eq_true rfl) (Nat.le_of_ble_eq_true rfl) ?_
      exact W.zret (v := 1) hx hb hr (mz_nz (by decide +kernel)) (fun t ht hW => ⟨⟨1, (), rfl, Or.inr rfl, ht⟩, hS.F ht⟩) hS.2.2 dX7_isBit_14
set_option maxHeartbeats 1000000 in
set_option maxRecDepth 100000 in
theorem mz_g_heapOf (l : Launch) (dC : Nat → ClassId) (dI : Nat → Nat → Nat) (cI cJ cZ : ClassId) (p0 : Int32) (Hq : Heap)  : Met l yX7_heapOf wsX7_heapOf ({ frames := 0, cells := 0, slots := 0, locals := 0 }) (va_Pc [.int p0] (fun U => U.heap = Hq ∧ va_P (dC, dI) vwCl [] Hq ∧ va_K (dC, dI) vwCl [(cI, FieldType.int), (cJ, FieldType.long), (cZ, FieldType.boolean)] U ∧ mz_N U)) (va_Qi (fun (r : Int32) (_ : Unit) => True) (fun _ t => t.heap = Hq) (fun _ : Nat => False)) 0 0 (fun _ : Nat => False) := by
  refine Met.ofW (cc := cX7_heapOf) (maxL := 1) (ret := (some .int)) (by decide) rfl ?_
  intro p e s m args below meth c s₁ B hml hv
  obtain ⟨rfl, hH, hP, hK, hN⟩ := hv
  subst hH
  have hx := B.exec
  have hb := B.bytes
  have hr := B.returns
  have hts := atoms_spec (ws := wsX7_heapOf) B.pre
  have hown : s.vm.findClass RX7 = some m.cls := findClass_of_methodNamed B.named
  have hlocks := B.notSynchronized
  have hS : va_S (fun _ : Nat => False) s.heap s.heap [] := va_S.rf
  have hl := lv_entry ([.int p0]) (n := 1) (Nat.le_of_ble_eq_true rfl)
  rw [lg_entry_eq]
  generalize (lg_sl ([.int p0]) ++ List.replicate (1 - (lg_sl ([.int p0])).length) Slot.unset).toArray = ls at hl ⊢
  have hl : lv_has ls 1 [(0, .int p0)] := hl
  refine lv_iload_n hx hb dX7_heapOf_0 rfl (lv_at hl 0 rfl) ?_
  refine lv_sipush (v := 255) hx hb dX7_heapOf_1 (by decide +kernel) ?_
  refine lv_iand hx hb dX7_heapOf_4 ?_
  obtain ⟨a_4, ha_4, ea_4⟩ := pk_andE (p0) (m := 255) 8 (by decide)
  have ha_4 : a_4 < 256 := ha_4
  refine mz_ti (y := (nI a_4)) ea_4 ?_
  refine W.widen (k := 0) (n := 0) (Nat.le_of_ble_eq_true rfl) (Nat.le_of_ble_eq_true rfl) ?_
  exact W.iret (v := (nI a_4)) hx hb hr (fun t ht hW => ⟨⟨(nI a_4), (), rfl, trivial, ht⟩, hS.F ht⟩) hS.2.2 dX7_heapOf_5
set_option maxHeartbeats 1000000 in
set_option maxRecDepth 100000 in
theorem mz_g_onesOf (l : Launch) (dC : Nat → ClassId) (dI : Nat → Nat → Nat) (cI cJ cZ : ClassId) (p0 : Int32) (Hq : Heap)  : Met l yX7_onesOf wsX7_onesOf ({ frames := 0, cells := 0, slots := 0, locals := 0 }) (va_Pc [.int p0] (fun U => U.heap = Hq ∧ va_P (dC, dI) vwCl [] Hq ∧ va_K (dC, dI) vwCl [(cI, FieldType.int), (cJ, FieldType.long), (cZ, FieldType.boolean)] U ∧ mz_N U)) (va_Qi (fun (r : Int32) (_ : Unit) => True) (fun _ t => t.heap = Hq) (fun _ : Nat => False)) 0 0 (fun _ : Nat => False) := by
  refine Met.ofW (cc := cX7_onesOf) (maxL := 1) (ret := (some .int)) (by decide) rfl ?_
  intro p e s m args below meth c s₁ B hml hv
  obtain ⟨rfl, hH, hP, hK, hN⟩ := hv
  subst hH
  have hx := B.exec
  have hb := B.bytes
  have hr := B.returns
  have hts := atoms_spec (ws := wsX7_onesOf) B.pre
  have hown : s.vm.findClass RX7 = some m.cls := findClass_of_methodNamed B.named
  have hlocks := B.notSynchronized
  have hS : va_S (fun _ : Nat => False) s.heap s.heap [] := va_S.rf
  have hl := lv_entry ([.int p0]) (n := 1) (Nat.le_of_ble_eq_true rfl)
  rw [lg_entry_eq]
  generalize (lg_sl ([.int p0]) ++ List.replicate (1 - (lg_sl ([.int p0])).length) Slot.unset).toArray = ls at hl ⊢
  have hl : lv_has ls 1 [(0, .int p0)] := hl
  refine lv_iload_n hx hb dX7_onesOf_0 rfl (lv_at hl 0 rfl) ?_
  refine lv_bipush (v := 8) hx hb dX7_onesOf_1 (by decide +kernel) ?_
  refine lv_ishr hx hb dX7_onesOf_3 ?_
  refine lv_topi (fun v_3 ev_3 => ?_)
  refine lv_sipush (v := 255) hx hb dX7_onesOf_4 (by decide +kernel) ?_
  refine lv_iand hx hb dX7_onesOf_7 ?_
  obtain ⟨a_7, ha_7, ea_7⟩ := pk_andE (v_3) (m := 255) 8 (by decide)
  have ha_7 : a_7 < 256 := ha_7
  refine mz_ti (y := (nI a_7)) ea_7 ?_
  refine W.widen (k := 0) (n := 0) (Nat.le_of_ble_eq_true rfl) (Nat.le_of_ble_eq_true rfl) ?_
  exact W.iret (v := (nI a_7)) hx hb hr (fun t ht hW => ⟨⟨(nI a_7), (), rfl, trivial, ht⟩, hS.F ht⟩) hS.2.2 dX7_onesOf_8
set_option maxHeartbeats 1000000 in
set_option maxRecDepth 100000 in
theorem mz_g_settingOf (l : Launch) (dC : Nat → ClassId) (dI : Nat → Nat → Nat) (cI cJ cZ : ClassId) (p0 : Int32) (p1 : Int32) (Hq : Heap)  : Met l yX7_settingOf wsX7_settingOf ({ frames := 1, cells := 0, slots := 0, locals := 20 }) (va_Pc [.int p0, .int p1] (fun U => U.heap = Hq ∧ va_P (dC, dI) vwCl [] Hq ∧ va_K (dC, dI) vwCl [(cI, FieldType.int), (cJ, FieldType.long), (cZ, FieldType.boolean)] U ∧ mz_N U)) (va_Qi (fun (r : Int32) (_ : Unit) => True) (fun _ t => t.heap = Hq) (fun _ : Nat => False)) 0 0 (fun _ : Nat => False) := by
  refine Met.ofW (cc := cX7_settingOf) (maxL := 2) (ret := (some .int)) (by decide) rfl ?_
  intro p e s m args below meth c s₁ B hml hv
  obtain ⟨rfl, hH, hP, hK, hN⟩ := hv
  subst hH
  have hx := B.exec
  have hb := B.bytes
  have hr := B.returns
  have hts := atoms_spec (ws := wsX7_settingOf) B.pre
  have hown : s.vm.findClass RX7 = some m.cls := findClass_of_methodNamed B.named
  have hlocks := B.notSynchronized
  have hS : va_S (fun _ : Nat => False) s.heap s.heap [] := va_S.rf
  have hl := lv_entry ([.int p0, .int p1]) (n := 2) (Nat.le_of_ble_eq_true rfl)
  rw [lg_entry_eq]
  generalize (lg_sl ([.int p0, .int p1]) ++ List.replicate (2 - (lg_sl ([.int p0, .int p1])).length) Slot.unset).toArray = ls at hl ⊢
  have hl : lv_has ls 2 [(0, .int p0), (1, .int p1)] := hl
  refine lv_iload_n hx hb dX7_settingOf_0 rfl (lv_at hl 0 rfl) ?_
  have hPc := hP.sub (ws' := []) [] rfl
  refine va_calli (va_runS (As := [.int p0]) (rest := []) ⟨hx, hb, hml, hown, hts⟩ (mz_g_bit l dC dI cI cJ cZ p0 s.heap ) (va_cwS 1 hts gX7_settingOf_X7_bit rfl rfl rfl (by decide +kernel) ⟨Nat.le_of_ble_eq_true rfl, Nat.le_of_ble_eq_true rfl⟩) ⟨fun a U g mk q => mz_blP q, fun U hU hW => ⟨rfl, hU, hPc, va_K.moved hW.alike hK, mz_nw hW hN⟩⟩ rfl rfl hl.1 rfl (lv_room (Nat.le_of_ble_eq_true rfl)) dX7_settingOf_1 ⟨Nat.le_of_ble_eq_true rfl, Nat.le_of_ble_eq_true rfl⟩) hS (fun q _ h => h.elim) (fun q h => h.elim) (fun r_1 u t H1 locs ht hvm hw_1 hB hz1 hk1 hS => ?_)
  have hE : s.heap = H1 := hB.symm.trans ht
  subst hE
  obtain rfl : r_1 = (1 <<< (p0 &&& 31)) := hw_1
  refine lv_iload_n hx hb dX7_settingOf_4 rfl (lv_at hl 1 rfl) ?_
  refine lv_iload_n hx hb dX7_settingOf_5 rfl (lv_at hl 0 rfl) ?_
  refine lv_bipush (v := 8) hx hb dX7_settingOf_6 (by decide +kernel) ?_
  refine lv_iadd hx hb dX7_settingOf_8 ?_
  refine lv_topi (fun v_8 ev_8 => ?_)
  refine lv_ishl hx hb dX7_settingOf_9 ?_
  refine lv_topi (fun v_9 ev_9 => ?_)
  refine lv_ior hx hb dX7_settingOf_10 ?_
  refine lv_topi (fun v_10 ev_10 => ?_)
  refine W.widen (k := 0) (n := 0) (Nat.le_of_ble_eq_true rfl) (Nat.le_of_ble_eq_true rfl) ?_
  exact W.iret (v := v_10) hx hb hr (fun t ht hW => ⟨⟨v_10, (), rfl, trivial, ht⟩, hS.F ht⟩) hS.2.2 dX7_settingOf_11
set_option maxHeartbeats 1000000 in
set_option maxRecDepth 100000 in
theorem mz_g_clash (l : Launch) (dC : Nat → ClassId) (dI : Nat → Nat → Nat) (cI cJ cZ : ClassId) (p0 : Int32) (p1 : Int32) (Hq : Heap)  : Met l yX7_clash wsX7_clash ({ frames := 1, cells := 0, slots := 0, locals := 20 }) (va_Pc [.int p0, .int p1] (fun U => U.heap = Hq ∧ va_P (dC, dI) vwCl [] Hq ∧ va_K (dC, dI) vwCl [(cI, FieldType.int), (cJ, FieldType.long), (cZ, FieldType.boolean)] U ∧ mz_N U)) (va_Qi (fun (r : Int32) (_ : Unit) => r = 0 ∨ r = 1) (fun _ t => t.heap = Hq) (fun _ : Nat => False)) 0 0 (fun _ : Nat => False) := by
  refine Met.ofW (cc := cX7_clash) (maxL := 2) (ret := (some .boolean)) (by decide) rfl ?_
  intro p e s m args below meth c s₁ B hml hv
  obtain ⟨rfl, hH, hP, hK, hN⟩ := hv
  subst hH
  have hx := B.exec
  have hb := B.bytes
  have hr := B.returns
  have hts := atoms_spec (ws := wsX7_clash) B.pre
  have hown : s.vm.findClass RX7 = some m.cls := findClass_of_methodNamed B.named
  have hlocks := B.notSynchronized
  have hS : va_S (fun _ : Nat => False) s.heap s.heap [] := va_S.rf
  have hl := lv_entry ([.int p0, .int p1]) (n := 2) (Nat.le_of_ble_eq_true rfl)
  rw [lg_entry_eq]
  generalize (lg_sl ([.int p0, .int p1]) ++ List.replicate (2 - (lg_sl ([.int p0, .int p1])).length) Slot.unset).toArray = ls at hl ⊢
  have hl : lv_has ls 2 [(0, .int p0), (1, .int p1)] := hl
  refine lv_iload_n hx hb dX7_clash_0 rfl (lv_at hl 0 rfl) ?_
  have hPc := hP.sub (ws' := []) [] rfl
  refine va_calli (va_runS (As := [.int p0]) (rest := []) ⟨hx, hb, hml, hown, hts⟩ (mz_g_heapOf l dC dI cI cJ cZ p0 s.heap ) (va_cwS 1 hts gX7_clash_X7_heapOf rfl rfl rfl (by decide +kernel) ⟨Nat.le_of_ble_eq_true rfl, Nat.le_of_ble_eq_true rfl⟩) ⟨fun a U g mk q => mz_blP q, fun U hU hW => ⟨rfl, hU, hPc, va_K.moved hW.alike hK, mz_nw hW hN⟩⟩ rfl rfl hl.1 rfl (lv_room (Nat.le_of_ble_eq_true rfl)) dX7_clash_1 ⟨Nat.le_of_ble_eq_true rfl, Nat.le_of_ble_eq_true rfl⟩) hS (fun q _ h => h.elim) (fun q h => h.elim) (fun r_1 u t H1 locs ht hvm hw_1 hB hz1 hk1 hS => ?_)
  have hE : s.heap = H1 := hB.symm.trans ht
  subst hE
  refine lv_iload_n hx hb dX7_clash_4 rfl (lv_at hl 1 rfl) ?_
  have hPc := hP.sub (ws' := []) [] rfl
  refine va_calli (va_runS (As := [.int p1]) (rest := [.int r_1]) ⟨hx, hb, hml, hown, hts⟩ (mz_g_heapOf l dC dI cI cJ cZ p1 s.heap ) (va_cwS 1 hts gX7_clash_X7_heapOf rfl rfl rfl (by decide +kernel) ⟨Nat.le_of_ble_eq_true rfl, Nat.le_of_ble_eq_true rfl⟩) ⟨fun a U g mk q => mz_blP q, fun U hU hW => ⟨rfl, hU, hPc, va_K.moved hW.alike hK, mz_nw hW hN⟩⟩ rfl rfl hl.1 rfl (lv_room (Nat.le_of_ble_eq_true rfl)) dX7_clash_5 ⟨Nat.le_of_ble_eq_true rfl, Nat.le_of_ble_eq_true rfl⟩) hS (fun q _ h => h.elim) (fun q h => h.elim) (fun r_5 u t H1 locs ht hvm hw_5 hB hz1 hk1 hS => ?_)
  have hE : s.heap = H1 := hB.symm.trans ht
  subst hE
  refine lv_iand hx hb dX7_clash_8 ?_
  refine lv_topi (fun v_8 ev_8 => ?_)
  refine lv_iload_n hx hb dX7_clash_9 rfl (lv_at hl 0 rfl) ?_
  have hPc := hP.sub (ws' := []) [] rfl
  refine va_calli (va_runS (As := [.int p0]) (rest := [.int v_8]) ⟨hx, hb, hml, hown, hts⟩ (mz_g_onesOf l dC dI cI cJ cZ p0 s.heap ) (va_cwS 1 hts gX7_clash_X7_onesOf rfl rfl rfl (by decide +kernel) ⟨Nat.le_of_ble_eq_true rfl, Nat.le_of_ble_eq_true rfl⟩) ⟨fun a U g mk q => mz_blP q, fun U hU hW => ⟨rfl, hU, hPc, va_K.moved hW.alike hK, mz_nw hW hN⟩⟩ rfl rfl hl.1 rfl (lv_room (Nat.le_of_ble_eq_true rfl)) dX7_clash_10 ⟨Nat.le_of_ble_eq_true rfl, Nat.le_of_ble_eq_true rfl⟩) hS (fun q _ h => h.elim) (fun q h => h.elim) (fun r_10 u t H1 locs ht hvm hw_10 hB hz1 hk1 hS => ?_)
  have hE : s.heap = H1 := hB.symm.trans ht
  subst hE
  refine lv_iload_n hx hb dX7_clash_13 rfl (lv_at hl 1 rfl) ?_
  have hPc := hP.sub (ws' := []) [] rfl
  refine va_calli (va_runS (As := [.int p1]) (rest := [.int r_10, .int v_8]) ⟨hx, hb, hml, hown, hts⟩ (mz_g_onesOf l dC dI cI cJ cZ p1 s.heap ) (va_cwS 1 hts gX7_clash_X7_onesOf rfl rfl rfl (by decide +kernel) ⟨Nat.le_of_ble_eq_true rfl, Nat.le_of_ble_eq_true rfl⟩) ⟨fun a U g mk q => mz_blP q, fun U hU hW => ⟨rfl, hU, hPc, va_K.moved hW.alike hK, mz_nw hW hN⟩⟩ rfl rfl hl.1 rfl (lv_room (Nat.le_of_ble_eq_true rfl)) dX7_clash_14 ⟨Nat.le_of_ble_eq_true rfl, Nat.le_of_ble_eq_true rfl⟩) hS (fun q _ h => h.elim) (fun q h => h.elim) (fun r_14 u t H1 locs ht hvm hw_14 hB hz1 hk1 hS => ?_)
  have hE : s.heap = H1 := hB.symm.trans ht
  subst hE
  refine lv_ixor hx hb dX7_clash_17 ?_
  refine lv_topi (fun v_17 ev_17 => ?_)
  refine lv_iand hx hb dX7_clash_18 ?_
  refine lv_topi (fun v_18 ev_18 => ?_)
  refine lv_if_eq (tgt := 26) hx hb dX7_clash_19 (by decide) (fun c_19 => ?_) (fun c_19 => ?_)
  · skip
    refine lv_iconst (v := 0) hx hb dX7_clash_26 (by decide +kernel) ?_
    refine W.widen (k := 0) (n := 0) (Nat.le_of_ble_eq_true rfl) (Nat.le_of_ble_eq_true rfl) ?_
    exact W.zret (v := 0) hx hb hr (mz_nz (by decide +kernel)) (fun t ht hW => ⟨⟨0, (), rfl, Or.inl rfl, ht⟩, hS.F ht⟩) hS.2.2 dX7_clash_27
  · skip
    refine lv_iconst (v := 1) hx hb dX7_clash_22 (by decide +kernel) ?_
    refine lv_goto (tgt := 27) hx hb dX7_clash_23 (by decide) ?_
    refine W.widen (k := 0) (n := 0) (Nat.le_of_ble_eq_true rfl) (Nat.le_of_ble_eq_true rfl) ?_
    exact W.zret (v := 1) hx hb hr (mz_nz (by decide +kernel)) (fun t ht hW => ⟨⟨1, (), rfl, Or.inr rfl, ht⟩, hS.F ht⟩) hS.2.2 dX7_clash_27
set_option maxHeartbeats 1000000 in
set_option maxRecDepth 100000 in
theorem mz_g_bitCount (l : Launch) (dC : Nat → ClassId) (dI : Nat → Nat → Nat) (cI cJ cZ : ClassId) (p0 : Int32) (Hq : Heap)  : Met l yJ6_bitCount_0f7a4 wsJ6_bitCount_0f7a4 ({ frames := 0, cells := 0, slots := 0, locals := 0 }) (va_Pc [.int p0] (fun U => U.heap = Hq ∧ va_P (dC, dI) vwCl [] Hq ∧ va_K (dC, dI) vwCl [(cI, FieldType.int), (cJ, FieldType.long), (cZ, FieldType.boolean)] U ∧ mz_N U)) (va_Qi (fun (r : Int32) (_ : Unit) => True) (fun _ t => t.heap = Hq) (fun _ : Nat => False)) 0 0 (fun _ : Nat => False) := by
  refine Met.ofW (cc := cJ6_bitCount_0f7a4) (maxL := 1) (ret := (some .int)) (by decide) rfl ?_
  intro p e s m args below meth c s₁ B hml hv
  obtain ⟨rfl, hH, hP, hK, hN⟩ := hv
  subst hH
  have hx := B.exec
  have hb := B.bytes
  have hr := B.returns
  have hts := atoms_spec (ws := wsJ6_bitCount_0f7a4) B.pre
  have hown : s.vm.findClass RJ6 = some m.cls := findClass_of_methodNamed B.named
  have hlocks := B.notSynchronized
  have hS : va_S (fun _ : Nat => False) s.heap s.heap [] := va_S.rf
  have hl := lv_entry ([.int p0]) (n := 1) (Nat.le_of_ble_eq_true rfl)
  rw [lg_entry_eq]
  generalize (lg_sl ([.int p0]) ++ List.replicate (1 - (lg_sl ([.int p0])).length) Slot.unset).toArray = ls at hl ⊢
  have hl : lv_has ls 1 [(0, .int p0)] := hl
  refine lv_iload_n hx hb dJ6_bitCount_0f7a4_0 rfl (lv_at hl 0 rfl) ?_
  refine lv_iload_n hx hb dJ6_bitCount_0f7a4_1 rfl (lv_at hl 0 rfl) ?_
  refine lv_iconst (v := 1) hx hb dJ6_bitCount_0f7a4_2 (by decide +kernel) ?_
  refine lv_iushr hx hb dJ6_bitCount_0f7a4_3 rfl ?_
  refine lv_topi (fun v_3 ev_3 => ?_)
  refine lv_ldcw hx hb hown (hts (.constant RJ6 265 (1431655765)) (by decide +kernel)) dJ6_bitCount_0f7a4_4 ?_
  refine lv_iand hx hb dJ6_bitCount_0f7a4_7 ?_
  refine lv_topi (fun v_7 ev_7 => ?_)
  refine lv_isub hx hb dJ6_bitCount_0f7a4_8 ?_
  refine lv_topi (fun v_8 ev_8 => ?_)
  refine lv_istore_n (lv' := [(0, .int v_8)]) hx hb dJ6_bitCount_0f7a4_9 rfl hl (by decide) rfl (fun ls hl => ?_)
  refine lv_iload_n hx hb dJ6_bitCount_0f7a4_10 rfl (lv_at hl 0 rfl) ?_
  refine lv_ldcw hx hb hown (hts (.constant RJ6 266 (858993459)) (by decide +kernel)) dJ6_bitCount_0f7a4_11 ?_
  refine lv_iand hx hb dJ6_bitCount_0f7a4_14 ?_
  refine lv_topi (fun v_14 ev_14 => ?_)
  refine lv_iload_n hx hb dJ6_bitCount_0f7a4_15 rfl (lv_at hl 0 rfl) ?_
  refine lv_iconst (v := 2) hx hb dJ6_bitCount_0f7a4_16 (by decide +kernel) ?_
  refine lv_iushr hx hb dJ6_bitCount_0f7a4_17 rfl ?_
  refine lv_topi (fun v_17 ev_17 => ?_)
  refine lv_ldcw hx hb hown (hts (.constant RJ6 266 (858993459)) (by decide +kernel)) dJ6_bitCount_0f7a4_18 ?_
  refine lv_iand hx hb dJ6_bitCount_0f7a4_21 ?_
  refine lv_topi (fun v_21 ev_21 => ?_)
  refine lv_iadd hx hb dJ6_bitCount_0f7a4_22 ?_
  refine lv_topi (fun v_22 ev_22 => ?_)
  refine lv_istore_n (lv' := [(0, .int v_22)]) hx hb dJ6_bitCount_0f7a4_23 rfl hl (by decide) rfl (fun ls hl => ?_)
  refine lv_iload_n hx hb dJ6_bitCount_0f7a4_24 rfl (lv_at hl 0 rfl) ?_
  refine lv_iload_n hx hb dJ6_bitCount_0f7a4_25 rfl (lv_at hl 0 rfl) ?_
  refine lv_iconst (v := 4) hx hb dJ6_bitCount_0f7a4_26 (by decide +kernel) ?_
  refine lv_iushr hx hb dJ6_bitCount_0f7a4_27 rfl ?_
  refine lv_topi (fun v_27 ev_27 => ?_)
  refine lv_iadd hx hb dJ6_bitCount_0f7a4_28 ?_
  refine lv_topi (fun v_28 ev_28 => ?_)
  refine lv_ldcw hx hb hown (hts (.constant RJ6 267 (252645135)) (by decide +kernel)) dJ6_bitCount_0f7a4_29 ?_
  refine lv_iand hx hb dJ6_bitCount_0f7a4_32 ?_
  refine lv_topi (fun v_32 ev_32 => ?_)
  refine lv_istore_n (lv' := [(0, .int v_32)]) hx hb dJ6_bitCount_0f7a4_33 rfl hl (by decide) rfl (fun ls hl => ?_)
  refine lv_iload_n hx hb dJ6_bitCount_0f7a4_34 rfl (lv_at hl 0 rfl) ?_
  refine lv_iload_n hx hb dJ6_bitCount_0f7a4_35 rfl (lv_at hl 0 rfl) ?_
  refine lv_bipush (v := 8) hx hb dJ6_bitCount_0f7a4_36 (by decide +kernel) ?_
  refine lv_iushr hx hb dJ6_bitCount_0f7a4_38 rfl ?_
  refine lv_topi (fun v_38 ev_38 => ?_)
  refine lv_iadd hx hb dJ6_bitCount_0f7a4_39 ?_
  refine lv_topi (fun v_39 ev_39 => ?_)
  refine lv_istore_n (lv' := [(0, .int v_39)]) hx hb dJ6_bitCount_0f7a4_40 rfl hl (by decide) rfl (fun ls hl => ?_)
  refine lv_iload_n hx hb dJ6_bitCount_0f7a4_41 rfl (lv_at hl 0 rfl) ?_
  refine lv_iload_n hx hb dJ6_bitCount_0f7a4_42 rfl (lv_at hl 0 rfl) ?_
  refine lv_bipush (v := 16) hx hb dJ6_bitCount_0f7a4_43 (by decide +kernel) ?_
  refine lv_iushr hx hb dJ6_bitCount_0f7a4_45 rfl ?_
  refine lv_topi (fun v_45 ev_45 => ?_)
  refine lv_iadd hx hb dJ6_bitCount_0f7a4_46 ?_
  refine lv_topi (fun v_46 ev_46 => ?_)
  refine lv_istore_n (lv' := [(0, .int v_46)]) hx hb dJ6_bitCount_0f7a4_47 rfl hl (by decide) rfl (fun ls hl => ?_)
  refine lv_iload_n hx hb dJ6_bitCount_0f7a4_48 rfl (lv_at hl 0 rfl) ?_
  refine lv_bipush (v := 63) hx hb dJ6_bitCount_0f7a4_49 (by decide +kernel) ?_
  refine lv_iand hx hb dJ6_bitCount_0f7a4_51 ?_
  refine lv_topi (fun v_51 ev_51 => ?_)
  refine W.widen (k := 0) (n := 0) (Nat.le_of_ble_eq_true rfl) (Nat.le_of_ble_eq_true rfl) ?_
  exact W.iret (v := v_51) hx hb hr (fun t ht hW => ⟨⟨v_51, (), rfl, trivial, ht⟩, hS.F ht⟩) hS.2.2 dJ6_bitCount_0f7a4_52
set_option maxHeartbeats 1000000 in
set_option maxRecDepth 100000 in
theorem mz_g_partsOf (l : Launch) (dC : Nat → ClassId) (dI : Nat → Nat → Nat) (cI cJ cZ : ClassId) (p0 : Int32) (Hq : Heap)  : Met l yX7_partsOf wsX7_partsOf ({ frames := 1, cells := 0, slots := 0, locals := 20 }) (va_Pc [.int p0] (fun U => U.heap = Hq ∧ va_P (dC, dI) vwCl [] Hq ∧ va_K (dC, dI) vwCl [(cI, FieldType.int), (cJ, FieldType.long), (cZ, FieldType.boolean)] U ∧ mz_N U)) (va_Qi (fun (r : Int32) (_ : Unit) => True) (fun _ t => t.heap = Hq) (fun _ : Nat => False)) 0 0 (fun _ : Nat => False) := by
  refine Met.ofW (cc := cX7_partsOf) (maxL := 1) (ret := (some .int)) (by decide) rfl ?_
  intro p e s m args below meth c s₁ B hml hv
  obtain ⟨rfl, hH, hP, hK, hN⟩ := hv
  subst hH
  have hx := B.exec
  have hb := B.bytes
  have hr := B.returns
  have hts := atoms_spec (ws := wsX7_partsOf) B.pre
  have hown : s.vm.findClass RX7 = some m.cls := findClass_of_methodNamed B.named
  have hlocks := B.notSynchronized
  have hS : va_S (fun _ : Nat => False) s.heap s.heap [] := va_S.rf
  have hl := lv_entry ([.int p0]) (n := 1) (Nat.le_of_ble_eq_true rfl)
  rw [lg_entry_eq]
  generalize (lg_sl ([.int p0]) ++ List.replicate (1 - (lg_sl ([.int p0])).length) Slot.unset).toArray = ls at hl ⊢
  have hl : lv_has ls 1 [(0, .int p0)] := hl
  refine lv_iconst (v := 1) hx hb dX7_partsOf_0 (by decide +kernel) ?_
  refine lv_iload_n hx hb dX7_partsOf_1 rfl (lv_at hl 0 rfl) ?_
  have hPc := hP.sub (ws' := []) [] rfl
  refine va_calli (va_runS (As := [.int p0]) (rest := [.int 1]) ⟨hx, hb, hml, hown, hts⟩ (mz_g_bitCount l dC dI cI cJ cZ p0 s.heap ) (va_cwS 1 hts gX7_partsOf_J6_bitCount_0f7a4 rfl rfl rfl (by decide +kernel) ⟨Nat.le_of_ble_eq_true rfl, Nat.le_of_ble_eq_true rfl⟩) ⟨fun a U g mk q => mz_blP q, fun U hU hW => ⟨rfl, hU, hPc, va_K.moved hW.alike hK, mz_nw hW hN⟩⟩ rfl rfl hl.1 rfl (lv_room (Nat.le_of_ble_eq_true rfl)) dX7_partsOf_2 ⟨Nat.le_of_ble_eq_true rfl, Nat.le_of_ble_eq_true rfl⟩) hS (fun q _ h => h.elim) (fun q h => h.elim) (fun r_2 u t H1 locs ht hvm hw_2 hB hz1 hk1 hS => ?_)
  have hE : s.heap = H1 := hB.symm.trans ht
  subst hE
  refine lv_ishl hx hb dX7_partsOf_5 ?_
  refine lv_topi (fun v_5 ev_5 => ?_)
  refine W.widen (k := 0) (n := 0) (Nat.le_of_ble_eq_true rfl) (Nat.le_of_ble_eq_true rfl) ?_
  exact W.iret (v := v_5) hx hb hr (fun t ht hW => ⟨⟨v_5, (), rfl, trivial, ht⟩, hS.F ht⟩) hS.2.2 dX7_partsOf_6
set_option maxHeartbeats 1000000 in
set_option maxRecDepth 100000 in
theorem mz_g_nextPart (l : Launch) (dC : Nat → ClassId) (dI : Nat → Nat → Nat) (cI cJ cZ : ClassId) (p0 : Int32) (p1 : Int32) (Hq : Heap)  : Met l yX7_nextPart wsX7_nextPart ({ frames := 0, cells := 0, slots := 0, locals := 0 }) (va_Pc [.int p0, .int p1] (fun U => U.heap = Hq ∧ va_P (dC, dI) vwCl [] Hq ∧ va_K (dC, dI) vwCl [(cI, FieldType.int), (cJ, FieldType.long), (cZ, FieldType.boolean)] U ∧ mz_N U)) (va_Qi (fun (r : Int32) (_ : Unit) => True) (fun _ t => t.heap = Hq) (fun _ : Nat => False)) 0 0 (fun _ : Nat => False) := by
  refine Met.ofW (cc := cX7_nextPart) (maxL := 2) (ret := (some .int)) (by decide) rfl ?_
  intro p e s m args below meth c s₁ B hml hv
  obtain ⟨rfl, hH, hP, hK, hN⟩ := hv
  subst hH
  have hx := B.exec
  have hb := B.bytes
  have hr := B.returns
  have hts := atoms_spec (ws := wsX7_nextPart) B.pre
  have hown : s.vm.findClass RX7 = some m.cls := findClass_of_methodNamed B.named
  have hlocks := B.notSynchronized
  have hS : va_S (fun _ : Nat => False) s.heap s.heap [] := va_S.rf
  have hl := lv_entry ([.int p0, .int p1]) (n := 2) (Nat.le_of_ble_eq_true rfl)
  rw [lg_entry_eq]
  generalize (lg_sl ([.int p0, .int p1]) ++ List.replicate (2 - (lg_sl ([.int p0, .int p1])).length) Slot.unset).toArray = ls at hl ⊢
  have hl : lv_has ls 2 [(0, .int p0), (1, .int p1)] := hl
  refine lv_iload_n hx hb dX7_nextPart_0 rfl (lv_at hl 0 rfl) ?_
  refine lv_iload_n hx hb dX7_nextPart_1 rfl (lv_at hl 1 rfl) ?_
  refine lv_isub hx hb dX7_nextPart_2 ?_
  refine lv_topi (fun v_2 ev_2 => ?_)
  refine lv_iload_n hx hb dX7_nextPart_3 rfl (lv_at hl 1 rfl) ?_
  refine lv_iand hx hb dX7_nextPart_4 ?_
  refine lv_topi (fun v_4 ev_4 => ?_)
  refine W.widen (k := 0) (n := 0) (Nat.le_of_ble_eq_true rfl) (Nat.le_of_ble_eq_true rfl) ?_
  exact W.iret (v := v_4) hx hb hr (fun t ht hW => ⟨⟨v_4, (), rfl, trivial, ht⟩, hS.F ht⟩) hS.2.2 dX7_nextPart_5
set_option maxHeartbeats 1000000 in
set_option maxRecDepth 100000 in
theorem mz_g_commonDivisor (l : Launch) (dC : Nat → ClassId) (dI : Nat → Nat → Nat) (cI cJ cZ : ClassId) (p0 : Int64) (p1 : Int64) (Hq : Heap)  : Met l yX7_commonDivisor wsX7_commonDivisor ({ frames := 1, cells := 0, slots := 0, locals := 15 }) (va_Pc [.long p0, .long p1] (fun U => U.heap = Hq ∧ va_P (dC, dI) vwCl [] Hq ∧ va_K (dC, dI) vwCl [(cI, FieldType.int), (cJ, FieldType.long), (cZ, FieldType.boolean)] U ∧ mz_N U)) (va_Ql (fun (r : Int64) (_ : Unit) => ¬ r = 0) (fun _ t => t.heap = Hq) (fun _ : Nat => False)) 0 0 (fun _ : Nat => False) := by
  refine Met.ofW (cc := cX7_commonDivisor) (maxL := 11) (ret := (some .long)) (by decide) rfl ?_
  intro p e s m args below meth c s₁ B hml hv
  obtain ⟨rfl, hH, hP, hK, hN⟩ := hv
  subst hH
  have hx := B.exec
  have hb := B.bytes
  have hr := B.returns
  have hts := atoms_spec (ws := wsX7_commonDivisor) B.pre
  have hown : s.vm.findClass RX7 = some m.cls := findClass_of_methodNamed B.named
  have hlocks := B.notSynchronized
  have hS : va_S (fun _ : Nat => False) s.heap s.heap [] := va_S.rf
  have hl := lv_entry ([.long p0, .long p1]) (n := 11) (Nat.le_of_ble_eq_true rfl)
  rw [lg_entry_eq]
  generalize (lg_sl ([.long p0, .long p1]) ++ List.replicate (11 - (lg_sl ([.long p0, .long p1])).length) Slot.unset).toArray = ls at hl ⊢
  have hl : lv_has ls 11 [(0, .long p0), (2, .long p1)] := hl
  refine lv_lload_n hx hb dX7_commonDivisor_0 rfl (lv_at hl 0 rfl) ?_
  refine lv_lstore (lv' := [(4, .long p0), (0, .long p0), (2, .long p1)]) hx hb dX7_commonDivisor_1 hl (by decide) rfl (fun ls hl => ?_)
  refine lv_lload_n hx hb dX7_commonDivisor_3 rfl (lv_at hl 2 rfl) ?_
  refine lv_lstore (lv' := [(6, .long p1), (4, .long p0), (0, .long p0), (2, .long p1)]) hx hb dX7_commonDivisor_4 hl (by decide) rfl (fun ls hl => ?_)
  refine lv_iconst (v := 0) hx hb dX7_commonDivisor_6 (by decide +kernel) ?_
  refine lv_istore (lv' := [(8, .int 0), (6, .long p1), (4, .long p0), (0, .long p0), (2, .long p1)]) hx hb dX7_commonDivisor_7 hl (by decide) rfl (fun ls hl => ?_)
  refine mz_loopU (fun k H locs ls => ∃ (i_9 : Nat), ∃ (x6_9 : Int64), ∃ (x4_9 : Int64), i_9 ≤ 100 ∧ H = s.heap ∧ va_S (fun _ : Nat => False) s.heap H locs ∧ lv_has ls 11 [(8, .int (nI i_9)), (6, .long x6_9), (4, .long x4_9), (0, .long p0), (2, .long p1)] ∧ k = 100 - i_9) ?_ _ _ _ _ ⟨0, p1, p0, by omega, rfl, hS, lv_sub hl [0, 1, 2, 3, 4] rfl, rfl⟩
  intro k_9 H locs ls hI_9 ih_9
  obtain ⟨i_9, x6_9, x4_9, hi_9, hH_9, hS, hl, hk_9⟩ := hI_9
  subst hH_9
  refine lv_iload hx hb dX7_commonDivisor_9 (lv_at hl 0 rfl) ?_
  refine lv_bipush (v := 100) hx hb dX7_commonDivisor_11 (by decide +kernel) ?_
  refine lv_icmp_ge (tgt := 44) hx hb dX7_commonDivisor_13 (by decide) (fun c_13 => ?_) (fun c_13 => ?_)
  · skip
    have d_13 : 100 ≤ i_9 := (nI_leI (a := 100) (b := i_9) (by omega) (by omega)).mp c_13
    refine lv_lconst (v := 1) hx hb dX7_commonDivisor_44 (by decide +kernel) ?_
    refine lv_lload hx hb dX7_commonDivisor_45 (lv_at hl 2 rfl) ?_
    refine va_mmax_long hx hb (by rw [hml]; exact hl.1.symm) hown (hts (.methodLink RX7 199 Lib.MathLoose.max_long.x) (by decide +kernel)) (hts (.static Lib.MathLoose.max_long.x) (by decide +kernel)) (hts (.initialized "java/lang/Math") (by decide +kernel)) (hts (.code Lib.MathLoose.max_long.x Lib.MathLoose.max_long.code 4 (some .long)) (by decide +kernel)) (Nat.le_of_ble_eq_true rfl) (Nat.le_of_ble_eq_true rfl) (Nat.le_of_ble_eq_true rfl) (Nat.le_of_ble_eq_true rfl) dX7_commonDivisor_47 ?_
    refine lv_topl (fun v_47 ev_47 => ?_)
    refine W.widen (k := 0) (n := 0) (Nat.le_of_ble_eq_true rfl) (Nat.le_of_ble_eq_true rfl) ?_
    exact W.lret (v := v_47) hx hb hr (fun t ht hW => ⟨⟨v_47, (), rfl, (by rw [ev_47]; exact mz_mx1 _), ht⟩, hS.F ht⟩) hS.2.2 dX7_commonDivisor_50
  · skip
    have d_13 : ¬ 100 ≤ i_9 := fun h => c_13 ((nI_leI (a := 100) (b := i_9) (by omega) (by omega)).mpr h)
    refine lv_lload hx hb dX7_commonDivisor_16 (lv_at hl 1 rfl) ?_
    refine lv_lconst (v := 0) hx hb dX7_commonDivisor_18 (by decide +kernel) ?_
    refine W.lcmp hx hb dX7_commonDivisor_19 ?_
    refine lv_if_eq (tgt := 44) hx hb dX7_commonDivisor_20 (by decide) (fun c_20 => ?_) (fun c_20 => ?_)
    · skip
      have d_20 := mz_lc1 c_20
      refine lv_lconst (v := 1) hx hb dX7_commonDivisor_44 (by decide +kernel) ?_
      refine lv_lload hx hb dX7_commonDivisor_45 (lv_at hl 2 rfl) ?_
      refine va_mmax_long hx hb (by rw [hml]; exact hl.1.symm) hown (hts (.methodLink RX7 199 Lib.MathLoose.max_long.x) (by decide +kernel)) (hts (.static Lib.MathLoose.max_long.x) (by decide +kernel)) (hts (.initialized "java/lang/Math") (by decide +kernel)) (hts (.code Lib.MathLoose.max_long.x Lib.MathLoose.max_long.code 4 (some .long)) (by decide +kernel)) (Nat.le_of_ble_eq_true rfl) (Nat.le_of_ble_eq_true rfl) (Nat.le_of_ble_eq_true rfl) (Nat.le_of_ble_eq_true rfl) dX7_commonDivisor_47 ?_
      refine lv_topl (fun v_47 ev_47 => ?_)
      refine W.widen (k := 0) (n := 0) (Nat.le_of_ble_eq_true rfl) (Nat.le_of_ble_eq_true rfl) ?_
      exact W.lret (v := v_47) hx hb hr (fun t ht hW => ⟨⟨v_47, (), rfl, (by rw [ev_47]; exact mz_mx1 _), ht⟩, hS.F ht⟩) hS.2.2 dX7_commonDivisor_50
    · skip
      have d_20 := mz_lc0 c_20
      refine lv_lload hx hb dX7_commonDivisor_23 (lv_at hl 2 rfl) ?_
      refine lv_lload hx hb dX7_commonDivisor_25 (lv_at hl 1 rfl) ?_
      refine lv_lrem hx hb dX7_commonDivisor_27 (by first | assumption | omega) ?_
      refine lv_topl (fun v_27 ev_27 => ?_)
      refine lv_lstore (lv' := [(9, .long v_27), (8, .int (nI i_9)), (6, .long x6_9), (4, .long x4_9), (0, .long p0), (2, .long p1)]) hx hb dX7_commonDivisor_28 hl (by decide) rfl (fun ls hl => ?_)
      refine lv_lload hx hb dX7_commonDivisor_30 (lv_at hl 2 rfl) ?_
      refine lv_lstore (lv' := [(4, .long x6_9), (9, .long v_27), (8, .int (nI i_9)), (6, .long x6_9), (0, .long p0), (2, .long p1)]) hx hb dX7_commonDivisor_32 hl (by decide) rfl (fun ls hl => ?_)
      refine lv_lload hx hb dX7_commonDivisor_34 (lv_at hl 1 rfl) ?_
      refine lv_lstore (lv' := [(6, .long v_27), (4, .long x6_9), (9, .long v_27), (8, .int (nI i_9)), (0, .long p0), (2, .long p1)]) hx hb dX7_commonDivisor_36 hl (by decide) rfl (fun ls hl => ?_)
      refine lv_iinc (v := (nI (i_9 + 1))) (lv' := [(8, .int (nI (i_9 + 1))), (6, .long v_27), (4, .long x6_9), (9, .long v_27), (0, .long p0), (2, .long p1)]) hx hb dX7_commonDivisor_38 hl (k := 3) rfl (nI_1 _) (by decide) rfl (fun ls hl => ?_)
      refine lv_goto (tgt := 9) hx hb dX7_commonDivisor_41 (by decide) ?_
      exact ih_9 _ (by omega) _ _ _ ⟨(i_9 + 1), v_27, x6_9, by omega, rfl, hS, lv_sub hl [0, 1, 2, 4, 5] rfl, rfl⟩
set_option maxHeartbeats 1000000 in
set_option maxRecDepth 100000 in
theorem mz_d_size (l : Launch) (dC : Nat → ClassId) (dI : Nat → Nat → Nat) (cI cJ cZ : ClassId) (dr : Nat) (dp : Nat) (dc : Nat) (n : Nat) (Hq : Heap)  : Met l yX2_size wsX2_size ({ frames := 0, cells := 0, slots := 0, locals := 0 }) (va_Pc [.ref dr] (fun U => U.heap = Hq ∧ va_P (dC, dI) vwCl [(dr, .inr (2, [.ref dp, .ref dc, .int (nI n)]))] Hq ∧ va_K (dC, dI) vwCl [(cI, FieldType.int), (cJ, FieldType.long), (cZ, FieldType.boolean)] U ∧ mz_N U)) (va_Qi (fun (r : Int32) (_ : Unit) => r = (nI n)) (fun _ t => t.heap = Hq) (fun _ : Nat => False)) 0 0 (fun _ : Nat => False) := by
  refine Met.ofW (cc := cX2_size) (maxL := 1) (ret := (some .int)) (by decide) rfl ?_
  intro p e s m args below meth c s₁ B hml hv
  obtain ⟨rfl, hH, hP, hK, hN⟩ := hv
  subst hH
  have hx := B.exec
  have hb := B.bytes
  have hr := B.returns
  have hts := atoms_spec (ws := wsX2_size) B.pre
  have hown : s.vm.findClass RX2 = some m.cls := findClass_of_methodNamed B.named
  have hlocks := B.notSynchronized
  have hS : va_S (fun _ : Nat => False) s.heap s.heap [] := va_S.rf
  have hiX2 : ∀ w ∈ u_ws RX2 TX2 3, w ∈ wsX2_size := by decide +kernel
  have hl := lv_entry ([.ref dr]) (n := 1) (Nat.le_of_ble_eq_true rfl)
  rw [lg_entry_eq]
  generalize (lg_sl ([.ref dr]) ++ List.replicate (1 - (lg_sl ([.ref dr])).length) Slot.unset).toArray = ls at hl ⊢
  have hl : lv_has ls 1 [(0, .ref dr)] := hl
  refine lv_aload_n hx hb dX2_size_0 rfl (lv_at hl 0 rfl) ?_
  refine va_get (D := (dC, dI)) (ci := 2) (v := .int (nI n)) (C := RX2) (T := TX2) (N := 3) hx hb hts hiX2 hown hK hP 0 rfl rfl 2 (by decide) (hts (.fieldLink RX2 18 "MadeItSo$Drawing" "things" "I") (by decide +kernel)) (fun _ h9 => h9) rfl dX2_size_1 ?_
  refine W.widen (k := 0) (n := 0) (Nat.le_of_ble_eq_true rfl) (Nat.le_of_ble_eq_true rfl) ?_
  exact W.iret (v := (nI n)) hx hb hr (fun t ht hW => ⟨⟨(nI n), (), rfl, rfl, ht⟩, hS.F ht⟩) hS.2.2 dX2_size_4
set_option maxHeartbeats 1000000 in
set_option maxRecDepth 100000 in
theorem mz_d_has_in (l : Launch) (dC : Nat → ClassId) (dI : Nat → Nat → Nat) (cI cJ cZ : ClassId) (dr : Nat) (dp : Nat) (dc : Nat) (n : Nat) (j : Nat) (Hq : Heap) (hn : n ≤ 8) (hj : j < n) : Met l yX2_has wsX2_has ({ frames := 0, cells := 0, slots := 0, locals := 0 }) (va_Pc [.ref dr, .int (nI j)] (fun U => U.heap = Hq ∧ va_P (dC, dI) vwCl [(dr, .inr (2, [.ref dp, .ref dc, .int (nI n)]))] Hq ∧ va_K (dC, dI) vwCl [(cI, FieldType.int), (cJ, FieldType.long), (cZ, FieldType.boolean)] U ∧ mz_N U)) (va_Qi (fun (r : Int32) (_ : Unit) => r = 1) (fun _ t => t.heap = Hq) (fun _ : Nat => False)) 0 0 (fun _ : Nat => False) := by
  refine Met.ofW (cc := cX2_has) (maxL := 2) (ret := (some .boolean)) (by decide) rfl ?_
  intro p e s m args below meth c s₁ B hml hv
  obtain ⟨rfl, hH, hP, hK, hN⟩ := hv
  subst hH
  have hx := B.exec
  have hb := B.bytes
  have hr := B.returns
  have hts := atoms_spec (ws := wsX2_has) B.pre
  have hown : s.vm.findClass RX2 = some m.cls := findClass_of_methodNamed B.named
  have hlocks := B.notSynchronized
  have hS : va_S (fun _ : Nat => False) s.heap s.heap [] := va_S.rf
  have hiX2 : ∀ w ∈ u_ws RX2 TX2 3, w ∈ wsX2_has := by decide +kernel
  have hl := lv_entry ([.ref dr, .int (nI j)]) (n := 2) (Nat.le_of_ble_eq_true rfl)
  rw [lg_entry_eq]
  generalize (lg_sl ([.ref dr, .int (nI j)]) ++ List.replicate (2 - (lg_sl ([.ref dr, .int (nI j)])).length) Slot.unset).toArray = ls at hl ⊢
  have hl : lv_has ls 2 [(0, .ref dr), (1, .int (nI j))] := hl
  refine lv_iload_n hx hb dX2_has_0 rfl (lv_at hl 1 rfl) ?_
  refine lv_if_lt (tgt := 16) hx hb dX2_has_1 (by decide) (fun c_1 => absurd c_1 (nI_pos (by omega))) (fun _ => ?_)
  refine lv_iload_n hx hb dX2_has_4 rfl (lv_at hl 1 rfl) ?_
  refine lv_aload_n hx hb dX2_has_5 rfl (lv_at hl 0 rfl) ?_
  refine va_get (D := (dC, dI)) (ci := 2) (v := .int (nI n)) (C := RX2) (T := TX2) (N := 3) hx hb hts hiX2 hown hK hP 0 rfl rfl 2 (by decide) (hts (.fieldLink RX2 18 "MadeItSo$Drawing" "things" "I") (by decide +kernel)) (fun _ h9 => h9) rfl dX2_has_6 ?_
  refine lv_icmp_ge (tgt := 16) hx hb dX2_has_9 (by decide) (fun c_9 => absurd c_9 (fun h => absurd ((nI_leI (by omega) (by omega)).mp h) (by omega))) (fun _ => ?_)
  refine lv_iconst (v := 1) hx hb dX2_has_12 (by decide +kernel) ?_
  refine lv_goto (tgt := 17) hx hb dX2_has_13 (by decide) ?_
  refine W.widen (k := 0) (n := 0) (Nat.le_of_ble_eq_true rfl) (Nat.le_of_ble_eq_true rfl) ?_
  exact W.zret (v := 1) hx hb hr (mz_nz (by decide +kernel)) (fun t ht hW => ⟨⟨1, (), rfl, rfl, ht⟩, hS.F ht⟩) hS.2.2 dX2_has_17
set_option maxHeartbeats 1000000 in
set_option maxRecDepth 100000 in
theorem mz_d_has (l : Launch) (dC : Nat → ClassId) (dI : Nat → Nat → Nat) (cI cJ cZ : ClassId) (dr : Nat) (dp : Nat) (dc : Nat) (n : Nat) (p0 : Int32) (Hq : Heap) (hn : n ≤ 8) : Met l yX2_has wsX2_has ({ frames := 0, cells := 0, slots := 0, locals := 0 }) (va_Pc [.ref dr, .int p0] (fun U => U.heap = Hq ∧ va_P (dC, dI) vwCl [(dr, .inr (2, [.ref dp, .ref dc, .int (nI n)]))] Hq ∧ va_K (dC, dI) vwCl [(cI, FieldType.int), (cJ, FieldType.long), (cZ, FieldType.boolean)] U ∧ mz_N U)) (va_Qi (fun (r : Int32) (_ : Unit) => (r = 1 ∧ ∃ j : Nat, j < n ∧ p0 = nI j) ∨ r = 0) (fun _ t => t.heap = Hq) (fun _ : Nat => False)) 0 0 (fun _ : Nat => False) := by
  refine Met.ofW (cc := cX2_has) (maxL := 2) (ret := (some .boolean)) (by decide) rfl ?_
  intro p e s m args below meth c s₁ B hml hv
  obtain ⟨rfl, hH, hP, hK, hN⟩ := hv
  subst hH
  have hx := B.exec
  have hb := B.bytes
  have hr := B.returns
  have hts := atoms_spec (ws := wsX2_has) B.pre
  have hown : s.vm.findClass RX2 = some m.cls := findClass_of_methodNamed B.named
  have hlocks := B.notSynchronized
  have hS : va_S (fun _ : Nat => False) s.heap s.heap [] := va_S.rf
  have hiX2 : ∀ w ∈ u_ws RX2 TX2 3, w ∈ wsX2_has := by decide +kernel
  have hl := lv_entry ([.ref dr, .int p0]) (n := 2) (Nat.le_of_ble_eq_true rfl)
  rw [lg_entry_eq]
  generalize (lg_sl ([.ref dr, .int p0]) ++ List.replicate (2 - (lg_sl ([.ref dr, .int p0])).length) Slot.unset).toArray = ls at hl ⊢
  have hl : lv_has ls 2 [(0, .ref dr), (1, .int p0)] := hl
  refine lv_iload_n hx hb dX2_has_0 rfl (lv_at hl 1 rfl) ?_
  refine lv_if_lt (tgt := 16) hx hb dX2_has_1 (by decide) (fun c_1 => ?_) (fun c_1 => ?_)
  · skip
    refine lv_iconst (v := 0) hx hb dX2_has_16 (by decide +kernel) ?_
    refine W.widen (k := 0) (n := 0) (Nat.le_of_ble_eq_true rfl) (Nat.le_of_ble_eq_true rfl) ?_
    exact W.zret (v := 0) hx hb hr (mz_nz (by decide +kernel)) (fun t ht hW => ⟨⟨0, (), rfl, Or.inr rfl, ht⟩, hS.F ht⟩) hS.2.2 dX2_has_17
  · skip
    refine lv_iload_n hx hb dX2_has_4 rfl (lv_at hl 1 rfl) ?_
    refine lv_aload_n hx hb dX2_has_5 rfl (lv_at hl 0 rfl) ?_
    refine va_get (D := (dC, dI)) (ci := 2) (v := .int (nI n)) (C := RX2) (T := TX2) (N := 3) hx hb hts hiX2 hown hK hP 0 rfl rfl 2 (by decide) (hts (.fieldLink RX2 18 "MadeItSo$Drawing" "things" "I") (by decide +kernel)) (fun _ h9 => h9) rfl dX2_has_6 ?_
    refine lv_icmp_ge (tgt := 16) hx hb dX2_has_9 (by decide) (fun c_9 => ?_) (fun c_9 => ?_)
    · skip
      refine lv_iconst (v := 0) hx hb dX2_has_16 (by decide +kernel) ?_
      refine W.widen (k := 0) (n := 0) (Nat.le_of_ble_eq_true rfl) (Nat.le_of_ble_eq_true rfl) ?_
      exact W.zret (v := 0) hx hb hr (mz_nz (by decide +kernel)) (fun t ht hW => ⟨⟨0, (), rfl, Or.inr rfl, ht⟩, hS.F ht⟩) hS.2.2 dX2_has_17
    · skip
      refine lv_iconst (v := 1) hx hb dX2_has_12 (by decide +kernel) ?_
      refine lv_goto (tgt := 17) hx hb dX2_has_13 (by decide) ?_
      refine W.widen (k := 0) (n := 0) (Nat.le_of_ble_eq_true rfl) (Nat.le_of_ble_eq_true rfl) ?_
      exact W.zret (v := 1) hx hb hr (mz_nz (by decide +kernel)) (fun t ht hW => ⟨⟨1, (), rfl, Or.inl ⟨rfl, mz_ix c_1 c_9 (by omega)⟩, ht⟩, hS.F ht⟩) hS.2.2 dX2_has_17
set_option maxHeartbeats 1000000 in
set_option maxRecDepth 100000 in
theorem mz_d_everything (l : Launch) (dC : Nat → ClassId) (dI : Nat → Nat → Nat) (cI cJ cZ : ClassId) (dr : Nat) (dp : Nat) (dc : Nat) (n : Nat) (Hq : Heap)  : Met l yX2_everything wsX2_everything ({ frames := 0, cells := 0, slots := 0, locals := 0 }) (va_Pc [.ref dr] (fun U => U.heap = Hq ∧ va_P (dC, dI) vwCl [(dr, .inr (2, [.ref dp, .ref dc, .int (nI n)]))] Hq ∧ va_K (dC, dI) vwCl [(cI, FieldType.int), (cJ, FieldType.long), (cZ, FieldType.boolean)] U ∧ mz_N U)) (va_Qi (fun (r : Int32) (_ : Unit) => True) (fun _ t => t.heap = Hq) (fun _ : Nat => False)) 0 0 (fun _ : Nat => False) := by
  refine Met.ofW (cc := cX2_everything) (maxL := 1) (ret := (some .int)) (by decide) rfl ?_
  intro p e s m args below meth c s₁ B hml hv
  obtain ⟨rfl, hH, hP, hK, hN⟩ := hv
  subst hH
  have hx := B.exec
  have hb := B.bytes
  have hr := B.returns
  have hts := atoms_spec (ws := wsX2_everything) B.pre
  have hown : s.vm.findClass RX2 = some m.cls := findClass_of_methodNamed B.named
  have hlocks := B.notSynchronized
  have hS : va_S (fun _ : Nat => False) s.heap s.heap [] := va_S.rf
  have hiX2 : ∀ w ∈ u_ws RX2 TX2 3, w ∈ wsX2_everything := by decide +kernel
  have hl := lv_entry ([.ref dr]) (n := 1) (Nat.le_of_ble_eq_true rfl)
  rw [lg_entry_eq]
  generalize (lg_sl ([.ref dr]) ++ List.replicate (1 - (lg_sl ([.ref dr])).length) Slot.unset).toArray = ls at hl ⊢
  have hl : lv_has ls 1 [(0, .ref dr)] := hl
  refine lv_iconst (v := 1) hx hb dX2_everything_0 (by decide +kernel) ?_
  refine lv_aload_n hx hb dX2_everything_1 rfl (lv_at hl 0 rfl) ?_
  refine va_get (D := (dC, dI)) (ci := 2) (v := .int (nI n)) (C := RX2) (T := TX2) (N := 3) hx hb hts hiX2 hown hK hP 0 rfl rfl 2 (by decide) (hts (.fieldLink RX2 18 "MadeItSo$Drawing" "things" "I") (by decide +kernel)) (fun _ h9 => h9) rfl dX2_everything_2 ?_
  refine lv_ishl hx hb dX2_everything_5 ?_
  refine lv_topi (fun v_5 ev_5 => ?_)
  refine lv_iconst (v := 1) hx hb dX2_everything_6 (by decide +kernel) ?_
  refine lv_isub hx hb dX2_everything_7 ?_
  refine lv_topi (fun v_7 ev_7 => ?_)
  refine W.widen (k := 0) (n := 0) (Nat.le_of_ble_eq_true rfl) (Nat.le_of_ble_eq_true rfl) ?_
  exact W.iret (v := v_7) hx hb hr (fun t ht hW => ⟨⟨v_7, (), rfl, trivial, ht⟩, hS.F ht⟩) hS.2.2 dX2_everything_8
set_option maxHeartbeats 1000000 in
set_option maxRecDepth 100000 in
theorem mz_d_parentsOf (l : Launch) (dC : Nat → ClassId) (dI : Nat → Nat → Nat) (cI cJ cZ : ClassId) (dr : Nat) (dp : Nat) (dc : Nat) (n : Nat) (fp : Nat → Int32) (p0 : Int32) (Hq : Heap) (hn : n ≤ 8) : Met l yX2_parentsOf wsX2_parentsOf ({ frames := 1, cells := 0, slots := 0, locals := 21 }) (va_Pc [.ref dr, .int p0] (fun U => U.heap = Hq ∧ va_P (dC, dI) vwCl [(dr, .inr (2, [.ref dp, .ref dc, .int (nI n)])), (dp, .inl (cI, 8, .inl fp))] Hq ∧ va_K (dC, dI) vwCl [(cI, FieldType.int), (cJ, FieldType.long), (cZ, FieldType.boolean)] U ∧ mz_N U)) (va_Qi (fun (r : Int32) (_ : Unit) => True) (fun _ t => t.heap = Hq) (fun _ : Nat => False)) 0 0 (fun _ : Nat => False) := by
  refine Met.ofW (cc := cX2_parentsOf) (maxL := 2) (ret := (some .int)) (by decide) rfl ?_
  intro p e s m args below meth c s₁ B hml hv
  obtain ⟨rfl, hH, hP, hK, hN⟩ := hv
  subst hH
  have hx := B.exec
  have hb := B.bytes
  have hr := B.returns
  have hts := atoms_spec (ws := wsX2_parentsOf) B.pre
  have hown : s.vm.findClass RX2 = some m.cls := findClass_of_methodNamed B.named
  have hlocks := B.notSynchronized
  have hS : va_S (fun _ : Nat => False) s.heap s.heap [] := va_S.rf
  have hiX2 : ∀ w ∈ u_ws RX2 TX2 3, w ∈ wsX2_parentsOf := by decide +kernel
  have hl := lv_entry ([.ref dr, .int p0]) (n := 2) (Nat.le_of_ble_eq_true rfl)
  rw [lg_entry_eq]
  generalize (lg_sl ([.ref dr, .int p0]) ++ List.replicate (2 - (lg_sl ([.ref dr, .int p0])).length) Slot.unset).toArray = ls at hl ⊢
  have hl : lv_has ls 2 [(0, .ref dr), (1, .int p0)] := hl
  refine lv_aload_n hx hb dX2_parentsOf_0 rfl (lv_at hl 0 rfl) ?_
  refine lv_iload_n hx hb dX2_parentsOf_1 rfl (lv_at hl 1 rfl) ?_
  have hPc := hP.sub (ws' := [(dr, .inr (2, [.ref dp, .ref dc, .int (nI n)]))]) [0] rfl
  refine va_calli (va_runV (As := [.int p0]) (rest := []) ⟨hx, hb, hml, hown, hts⟩ (mz_d_has l dC dI cI cJ cZ dr dp dc n p0 s.heap (by first | assumption | omega)) (cwV 1 hts gX2_parentsOf_X2_has rfl rfl rfl (by decide +kernel) ⟨Nat.le_of_ble_eq_true rfl, Nat.le_of_ble_eq_true rfl⟩) ⟨fun a U g mk q => mz_blP q, va_recv hK hPc (ci := 2) (q0 := 0) rfl rfl, fun U hU hW => ⟨rfl, hU, hPc, va_K.moved hW.alike hK, mz_nw hW hN⟩⟩ rfl rfl hl.1 rfl (lv_room (Nat.le_of_ble_eq_true rfl)) dX2_parentsOf_2 ⟨Nat.le_of_ble_eq_true rfl, Nat.le_of_ble_eq_true rfl⟩) hS (fun q _ h => h.elim) (fun q h => h.elim) (fun r_2 u t H1 locs ht hvm hw_2 hB hz1 hk1 hS => ?_)
  have hE : s.heap = H1 := hB.symm.trans ht
  subst hE
  rcases (show (r_2 = 1 ∧ ∃ j : Nat, j < n ∧ p0 = nI j) ∨ r_2 = 0 from hw_2) with ⟨rfl, j_2, hj_2, he_2⟩ | rfl
  · skip
    subst he_2
    refine lv_if_eq (tgt := 17) hx hb dX2_parentsOf_5 (by decide) (fun c_5 => absurd c_5 (by decide +kernel)) (fun _ => ?_)
    refine lv_aload_n hx hb dX2_parentsOf_8 rfl (lv_at hl 0 rfl) ?_
    refine va_get (D := (dC, dI)) (ci := 2) (v := .ref dp) (C := RX2) (T := TX2) (N := 3) hx hb hts hiX2 hown hK hP 0 rfl rfl 0 (by decide) (hts (.fieldLink RX2 9 "MadeItSo$Drawing" "parents" "[I") (by decide +kernel)) (fun _ h9 => h9) rfl dX2_parentsOf_9 ?_
    refine lv_iload_n hx hb dX2_parentsOf_12 rfl (lv_at hl 1 rfl) ?_
    refine va_iald hx hb hK hP 1 0 rfl rfl (vp_in_nI (by omega) (by omega)) dX2_parentsOf_13 ?_
    refine lv_topi (fun v_13 ev_13 => ?_)
    refine lv_goto (tgt := 18) hx hb dX2_parentsOf_14 (by decide) ?_
    refine W.widen (k := 0) (n := 0) (Nat.le_of_ble_eq_true rfl) (Nat.le_of_ble_eq_true rfl) ?_
    exact W.iret (v := v_13) hx hb hr (fun t ht hW => ⟨⟨v_13, (), rfl, trivial, ht⟩, hS.F ht⟩) hS.2.2 dX2_parentsOf_18
  · skip
    refine lv_if_eq (tgt := 17) hx hb dX2_parentsOf_5 (by decide) (fun _ => ?_) (fun c_5 => absurd (by decide +kernel) c_5)
    refine lv_iconst (v := 0) hx hb dX2_parentsOf_17 (by decide +kernel) ?_
    refine W.widen (k := 0) (n := 0) (Nat.le_of_ble_eq_true rfl) (Nat.le_of_ble_eq_true rfl) ?_
    exact W.iret (v := 0) hx hb hr (fun t ht hW => ⟨⟨0, (), rfl, trivial, ht⟩, hS.F ht⟩) hS.2.2 dX2_parentsOf_18
set_option maxHeartbeats 1000000 in
set_option maxRecDepth 100000 in
theorem mz_d_childrenOf (l : Launch) (dC : Nat → ClassId) (dI : Nat → Nat → Nat) (cI cJ cZ : ClassId) (dr : Nat) (dp : Nat) (dc : Nat) (n : Nat) (fc : Nat → Int32) (p0 : Int32) (Hq : Heap) (hn : n ≤ 8) : Met l yX2_childrenOf wsX2_childrenOf ({ frames := 1, cells := 0, slots := 0, locals := 21 }) (va_Pc [.ref dr, .int p0] (fun U => U.heap = Hq ∧ va_P (dC, dI) vwCl [(dr, .inr (2, [.ref dp, .ref dc, .int (nI n)])), (dc, .inl (cI, 8, .inl fc))] Hq ∧ va_K (dC, dI) vwCl [(cI, FieldType.int), (cJ, FieldType.long), (cZ, FieldType.boolean)] U ∧ mz_N U)) (va_Qi (fun (r : Int32) (_ : Unit) => True) (fun _ t => t.heap = Hq) (fun _ : Nat => False)) 0 0 (fun _ : Nat => False) := by
  refine Met.ofW (cc := cX2_childrenOf) (maxL := 2) (ret := (some .int)) (by decide) rfl ?_
  intro p e s m args below meth c s₁ B hml hv
  obtain ⟨rfl, hH, hP, hK, hN⟩ := hv
  subst hH
  have hx := B.exec
  have hb := B.bytes
  have hr := B.returns
  have hts := atoms_spec (ws := wsX2_childrenOf) B.pre
  have hown : s.vm.findClass RX2 = some m.cls := findClass_of_methodNamed B.named
  have hlocks := B.notSynchronized
  have hS : va_S (fun _ : Nat => False) s.heap s.heap [] := va_S.rf
  have hiX2 : ∀ w ∈ u_ws RX2 TX2 3, w ∈ wsX2_childrenOf := by decide +kernel
  have hl := lv_entry ([.ref dr, .int p0]) (n := 2) (Nat.le_of_ble_eq_true rfl)
  rw [lg_entry_eq]
  generalize (lg_sl ([.ref dr, .int p0]) ++ List.replicate (2 - (lg_sl ([.ref dr, .int p0])).length) Slot.unset).toArray = ls at hl ⊢
  have hl : lv_has ls 2 [(0, .ref dr), (1, .int p0)] := hl
  refine lv_aload_n hx hb dX2_childrenOf_0 rfl (lv_at hl 0 rfl) ?_
  refine lv_iload_n hx hb dX2_childrenOf_1 rfl (lv_at hl 1 rfl) ?_
  have hPc := hP.sub (ws' := [(dr, .inr (2, [.ref dp, .ref dc, .int (nI n)]))]) [0] rfl
  refine va_calli (va_runV (As := [.int p0]) (rest := []) ⟨hx, hb, hml, hown, hts⟩ (mz_d_has l dC dI cI cJ cZ dr dp dc n p0 s.heap (by first | assumption | omega)) (cwV 1 hts gX2_childrenOf_X2_has rfl rfl rfl (by decide +kernel) ⟨Nat.le_of_ble_eq_true rfl, Nat.le_of_ble_eq_true rfl⟩) ⟨fun a U g mk q => mz_blP q, va_recv hK hPc (ci := 2) (q0 := 0) rfl rfl, fun U hU hW => ⟨rfl, hU, hPc, va_K.moved hW.alike hK, mz_nw hW hN⟩⟩ rfl rfl hl.1 rfl (lv_room (Nat.le_of_ble_eq_true rfl)) dX2_childrenOf_2 ⟨Nat.le_of_ble_eq_true rfl, Nat.le_of_ble_eq_true rfl⟩) hS (fun q _ h => h.elim) (fun q h => h.elim) (fun r_2 u t H1 locs ht hvm hw_2 hB hz1 hk1 hS => ?_)
  have hE : s.heap = H1 := hB.symm.trans ht
  subst hE
  rcases (show (r_2 = 1 ∧ ∃ j : Nat, j < n ∧ p0 = nI j) ∨ r_2 = 0 from hw_2) with ⟨rfl, j_2, hj_2, he_2⟩ | rfl
  · skip
    subst he_2
    refine lv_if_eq (tgt := 17) hx hb dX2_childrenOf_5 (by decide) (fun c_5 => absurd c_5 (by decide +kernel)) (fun _ => ?_)
    refine lv_aload_n hx hb dX2_childrenOf_8 rfl (lv_at hl 0 rfl) ?_
    refine va_get (D := (dC, dI)) (ci := 2) (v := .ref dc) (C := RX2) (T := TX2) (N := 3) hx hb hts hiX2 hown hK hP 0 rfl rfl 1 (by decide) (hts (.fieldLink RX2 15 "MadeItSo$Drawing" "children" "[I") (by decide +kernel)) (fun _ h9 => h9) rfl dX2_childrenOf_9 ?_
    refine lv_iload_n hx hb dX2_childrenOf_12 rfl (lv_at hl 1 rfl) ?_
    refine va_iald hx hb hK hP 1 0 rfl rfl (vp_in_nI (by omega) (by omega)) dX2_childrenOf_13 ?_
    refine lv_topi (fun v_13 ev_13 => ?_)
    refine lv_goto (tgt := 18) hx hb dX2_childrenOf_14 (by decide) ?_
    refine W.widen (k := 0) (n := 0) (Nat.le_of_ble_eq_true rfl) (Nat.le_of_ble_eq_true rfl) ?_
    exact W.iret (v := v_13) hx hb hr (fun t ht hW => ⟨⟨v_13, (), rfl, trivial, ht⟩, hS.F ht⟩) hS.2.2 dX2_childrenOf_18
  · skip
    refine lv_if_eq (tgt := 17) hx hb dX2_childrenOf_5 (by decide) (fun _ => ?_) (fun c_5 => absurd (by decide +kernel) c_5)
    refine lv_iconst (v := 0) hx hb dX2_childrenOf_17 (by decide +kernel) ?_
    refine W.widen (k := 0) (n := 0) (Nat.le_of_ble_eq_true rfl) (Nat.le_of_ble_eq_true rfl) ?_
    exact W.iret (v := 0) hx hb hr (fun t ht hW => ⟨⟨0, (), rfl, trivial, ht⟩, hS.F ht⟩) hS.2.2 dX2_childrenOf_18
set_option maxHeartbeats 1000000 in
set_option maxRecDepth 100000 in
theorem mz_d_joinedTo (l : Launch) (dC : Nat → ClassId) (dI : Nat → Nat → Nat) (cI cJ cZ : ClassId) (dr : Nat) (dp : Nat) (dc : Nat) (n : Nat) (fp : Nat → Int32) (fc : Nat → Int32) (p0 : Int32) (Hq : Heap) (hn : n ≤ 8) : Met l yX2_joinedTo wsX2_joinedTo ({ frames := 1, cells := 0, slots := 0, locals := 21 }) (va_Pc [.ref dr, .int p0] (fun U => U.heap = Hq ∧ va_P (dC, dI) vwCl [(dr, .inr (2, [.ref dp, .ref dc, .int (nI n)])), (dp, .inl (cI, 8, .inl fp)), (dc, .inl (cI, 8, .inl fc))] Hq ∧ va_K (dC, dI) vwCl [(cI, FieldType.int), (cJ, FieldType.long), (cZ, FieldType.boolean)] U ∧ mz_N U)) (va_Qi (fun (r : Int32) (_ : Unit) => True) (fun _ t => t.heap = Hq) (fun _ : Nat => False)) 0 0 (fun _ : Nat => False) := by
  refine Met.ofW (cc := cX2_joinedTo) (maxL := 2) (ret := (some .int)) (by decide) rfl ?_
  intro p e s m args below meth c s₁ B hml hv
  obtain ⟨rfl, hH, hP, hK, hN⟩ := hv
  subst hH
  have hx := B.exec
  have hb := B.bytes
  have hr := B.returns
  have hts := atoms_spec (ws := wsX2_joinedTo) B.pre
  have hown : s.vm.findClass RX2 = some m.cls := findClass_of_methodNamed B.named
  have hlocks := B.notSynchronized
  have hS : va_S (fun _ : Nat => False) s.heap s.heap [] := va_S.rf
  have hiX2 : ∀ w ∈ u_ws RX2 TX2 3, w ∈ wsX2_joinedTo := by decide +kernel
  have hl := lv_entry ([.ref dr, .int p0]) (n := 2) (Nat.le_of_ble_eq_true rfl)
  rw [lg_entry_eq]
  generalize (lg_sl ([.ref dr, .int p0]) ++ List.replicate (2 - (lg_sl ([.ref dr, .int p0])).length) Slot.unset).toArray = ls at hl ⊢
  have hl : lv_has ls 2 [(0, .ref dr), (1, .int p0)] := hl
  refine lv_aload_n hx hb dX2_joinedTo_0 rfl (lv_at hl 0 rfl) ?_
  refine lv_iload_n hx hb dX2_joinedTo_1 rfl (lv_at hl 1 rfl) ?_
  have hPc := hP.sub (ws' := [(dr, .inr (2, [.ref dp, .ref dc, .int (nI n)]))]) [0] rfl
  refine va_calli (va_runV (As := [.int p0]) (rest := []) ⟨hx, hb, hml, hown, hts⟩ (mz_d_has l dC dI cI cJ cZ dr dp dc n p0 s.heap (by first | assumption | omega)) (cwV 1 hts gX2_joinedTo_X2_has rfl rfl rfl (by decide +kernel) ⟨Nat.le_of_ble_eq_true rfl, Nat.le_of_ble_eq_true rfl⟩) ⟨fun a U g mk q => mz_blP q, va_recv hK hPc (ci := 2) (q0 := 0) rfl rfl, fun U hU hW => ⟨rfl, hU, hPc, va_K.moved hW.alike hK, mz_nw hW hN⟩⟩ rfl rfl hl.1 rfl (lv_room (Nat.le_of_ble_eq_true rfl)) dX2_joinedTo_2 ⟨Nat.le_of_ble_eq_true rfl, Nat.le_of_ble_eq_true rfl⟩) hS (fun q _ h => h.elim) (fun q h => h.elim) (fun r_2 u t H1 locs ht hvm hw_2 hB hz1 hk1 hS => ?_)
  have hE : s.heap = H1 := hB.symm.trans ht
  subst hE
  rcases (show (r_2 = 1 ∧ ∃ j : Nat, j < n ∧ p0 = nI j) ∨ r_2 = 0 from hw_2) with ⟨rfl, j_2, hj_2, he_2⟩ | rfl
  · skip
    subst he_2
    refine lv_if_eq (tgt := 24) hx hb dX2_joinedTo_5 (by decide) (fun c_5 => absurd c_5 (by decide +kernel)) (fun _ => ?_)
    refine lv_aload_n hx hb dX2_joinedTo_8 rfl (lv_at hl 0 rfl) ?_
    refine va_get (D := (dC, dI)) (ci := 2) (v := .ref dp) (C := RX2) (T := TX2) (N := 3) hx hb hts hiX2 hown hK hP 0 rfl rfl 0 (by decide) (hts (.fieldLink RX2 9 "MadeItSo$Drawing" "parents" "[I") (by decide +kernel)) (fun _ h9 => h9) rfl dX2_joinedTo_9 ?_
    refine lv_iload_n hx hb dX2_joinedTo_12 rfl (lv_at hl 1 rfl) ?_
    refine va_iald hx hb hK hP 1 0 rfl rfl (vp_in_nI (by omega) (by omega)) dX2_joinedTo_13 ?_
    refine lv_topi (fun v_13 ev_13 => ?_)
    refine lv_aload_n hx hb dX2_joinedTo_14 rfl (lv_at hl 0 rfl) ?_
    refine va_get (D := (dC, dI)) (ci := 2) (v := .ref dc) (C := RX2) (T := TX2) (N := 3) hx hb hts hiX2 hown hK hP 0 rfl rfl 1 (by decide) (hts (.fieldLink RX2 15 "MadeItSo$Drawing" "children" "[I") (by decide +kernel)) (fun _ h9 => h9) rfl dX2_joinedTo_15 ?_
    refine lv_iload_n hx hb dX2_joinedTo_18 rfl (lv_at hl 1 rfl) ?_
    refine va_iald hx hb hK hP 2 0 rfl rfl (vp_in_nI (by omega) (by omega)) dX2_joinedTo_19 ?_
    refine lv_topi (fun v_19 ev_19 => ?_)
    refine lv_ior hx hb dX2_joinedTo_20 ?_
    refine lv_topi (fun v_20 ev_20 => ?_)
    refine lv_goto (tgt := 25) hx hb dX2_joinedTo_21 (by decide) ?_
    refine W.widen (k := 0) (n := 0) (Nat.le_of_ble_eq_true rfl) (Nat.le_of_ble_eq_true rfl) ?_
    exact W.iret (v := v_20) hx hb hr (fun t ht hW => ⟨⟨v_20, (), rfl, trivial, ht⟩, hS.F ht⟩) hS.2.2 dX2_joinedTo_25
  · skip
    refine lv_if_eq (tgt := 24) hx hb dX2_joinedTo_5 (by decide) (fun _ => ?_) (fun c_5 => absurd (by decide +kernel) c_5)
    refine lv_iconst (v := 0) hx hb dX2_joinedTo_24 (by decide +kernel) ?_
    refine W.widen (k := 0) (n := 0) (Nat.le_of_ble_eq_true rfl) (Nat.le_of_ble_eq_true rfl) ?_
    exact W.iret (v := 0) hx hb hr (fun t ht hW => ⟨⟨0, (), rfl, trivial, ht⟩, hS.F ht⟩) hS.2.2 dX2_joinedTo_25
set_option maxHeartbeats 1000000 in
set_option maxRecDepth 100000 in
theorem mz_d_leads (l : Launch) (dC : Nat → ClassId) (dI : Nat → Nat → Nat) (cI cJ cZ : ClassId) (dr : Nat) (dp : Nat) (dc : Nat) (n : Nat) (fc : Nat → Int32) (p0 : Int32) (p1 : Int32) (Hq : Heap) (hn : n ≤ 8) : Met l yX2_leads wsX2_leads ({ frames := 1, cells := 0, slots := 0, locals := 21 }) (va_Pc [.ref dr, .int p0, .int p1] (fun U => U.heap = Hq ∧ va_P (dC, dI) vwCl [(dr, .inr (2, [.ref dp, .ref dc, .int (nI n)])), (dc, .inl (cI, 8, .inl fc))] Hq ∧ va_K (dC, dI) vwCl [(cI, FieldType.int), (cJ, FieldType.long), (cZ, FieldType.boolean)] U ∧ mz_N U)) (va_Qi (fun (r : Int32) (_ : Unit) => r = 0 ∨ r = 1) (fun _ t => t.heap = Hq) (fun _ : Nat => False)) 0 0 (fun _ : Nat => False) := by
  refine Met.ofW (cc := cX2_leads) (maxL := 3) (ret := (some .boolean)) (by decide) rfl ?_
  intro p e s m args below meth c s₁ B hml hv
  obtain ⟨rfl, hH, hP, hK, hN⟩ := hv
  subst hH
  have hx := B.exec
  have hb := B.bytes
  have hr := B.returns
  have hts := atoms_spec (ws := wsX2_leads) B.pre
  have hown : s.vm.findClass RX2 = some m.cls := findClass_of_methodNamed B.named
  have hlocks := B.notSynchronized
  have hS : va_S (fun _ : Nat => False) s.heap s.heap [] := va_S.rf
  have hiX2 : ∀ w ∈ u_ws RX2 TX2 3, w ∈ wsX2_leads := by decide +kernel
  have hl := lv_entry ([.ref dr, .int p0, .int p1]) (n := 3) (Nat.le_of_ble_eq_true rfl)
  rw [lg_entry_eq]
  generalize (lg_sl ([.ref dr, .int p0, .int p1]) ++ List.replicate (3 - (lg_sl ([.ref dr, .int p0, .int p1])).length) Slot.unset).toArray = ls at hl ⊢
  have hl : lv_has ls 3 [(0, .ref dr), (1, .int p0), (2, .int p1)] := hl
  refine lv_aload_n hx hb dX2_leads_0 rfl (lv_at hl 0 rfl) ?_
  refine lv_iload_n hx hb dX2_leads_1 rfl (lv_at hl 1 rfl) ?_
  have hPc := hP.sub (ws' := [(dr, .inr (2, [.ref dp, .ref dc, .int (nI n)]))]) [0] rfl
  refine va_calli (va_runV (As := [.int p0]) (rest := []) ⟨hx, hb, hml, hown, hts⟩ (mz_d_has l dC dI cI cJ cZ dr dp dc n p0 s.heap (by first | assumption | omega)) (cwV 1 hts gX2_leads_X2_has rfl rfl rfl (by decide +kernel) ⟨Nat.le_of_ble_eq_true rfl, Nat.le_of_ble_eq_true rfl⟩) ⟨fun a U g mk q => mz_blP q, va_recv hK hPc (ci := 2) (q0 := 0) rfl rfl, fun U hU hW => ⟨rfl, hU, hPc, va_K.moved hW.alike hK, mz_nw hW hN⟩⟩ rfl rfl hl.1 rfl (lv_room (Nat.le_of_ble_eq_true rfl)) dX2_leads_2 ⟨Nat.le_of_ble_eq_true rfl, Nat.le_of_ble_eq_true rfl⟩) hS (fun q _ h => h.elim) (fun q h => h.elim) (fun r_2 u t H1 locs ht hvm hw_2 hB hz1 hk1 hS => ?_)
  have hE : s.heap = H1 := hB.symm.trans ht
  subst hE
  rcases (show (r_2 = 1 ∧ ∃ j : Nat, j < n ∧ p0 = nI j) ∨ r_2 = 0 from hw_2) with ⟨rfl, j_2, hj_2, he_2⟩ | rfl
  · skip
    subst he_2
    refine lv_if_eq (tgt := 33) hx hb dX2_leads_5 (by decide) (fun c_5 => absurd c_5 (by decide +kernel)) (fun _ => ?_)
    refine lv_aload_n hx hb dX2_leads_8 rfl (lv_at hl 0 rfl) ?_
    refine lv_iload_n hx hb dX2_leads_9 rfl (lv_at hl 2 rfl) ?_
    have hPc := hP.sub (ws' := [(dr, .inr (2, [.ref dp, .ref dc, .int (nI n)]))]) [0] rfl
    refine va_calli (va_runV (As := [.int p1]) (rest := []) ⟨hx, hb, hml, hown, hts⟩ (mz_d_has l dC dI cI cJ cZ dr dp dc n p1 s.heap (by first | assumption | omega)) (cwV 1 hts gX2_leads_X2_has rfl rfl rfl (by decide +kernel) ⟨Nat.le_of_ble_eq_true rfl, Nat.le_of_ble_eq_true rfl⟩) ⟨fun a U g mk q => mz_blP q, va_recv hK hPc (ci := 2) (q0 := 0) rfl rfl, fun U hU hW => ⟨rfl, hU, hPc, va_K.moved hW.alike hK, mz_nw hW hN⟩⟩ rfl rfl hl.1 rfl (lv_room (Nat.le_of_ble_eq_true rfl)) dX2_leads_10 ⟨Nat.le_of_ble_eq_true rfl, Nat.le_of_ble_eq_true rfl⟩) hS (fun q _ h => h.elim) (fun q h => h.elim) (fun r_10 u t H1 locs ht hvm hw_10 hB hz1 hk1 hS => ?_)
    have hE : s.heap = H1 := hB.symm.trans ht
    subst hE
    rcases (show (r_10 = 1 ∧ ∃ j : Nat, j < n ∧ p1 = nI j) ∨ r_10 = 0 from hw_10) with ⟨rfl, j_10, hj_10, he_10⟩ | rfl
    · skip
      subst he_10
      refine lv_if_eq (tgt := 33) hx hb dX2_leads_13 (by decide) (fun c_13 => absurd c_13 (by decide +kernel)) (fun _ => ?_)
      refine lv_aload_n hx hb dX2_leads_16 rfl (lv_at hl 0 rfl) ?_
      refine va_get (D := (dC, dI)) (ci := 2) (v := .ref dc) (C := RX2) (T := TX2) (N := 3) hx hb hts hiX2 hown hK hP 0 rfl rfl 1 (by decide) (hts (.fieldLink RX2 15 "MadeItSo$Drawing" "children" "[I") (by decide +kernel)) (fun _ h9 => h9) rfl dX2_leads_17 ?_
      refine lv_iload_n hx hb dX2_leads_20 rfl (lv_at hl 1 rfl) ?_
      refine va_iald hx hb hK hP 1 0 rfl rfl (vp_in_nI (by omega) (by omega)) dX2_leads_21 ?_
      refine lv_topi (fun v_21 ev_21 => ?_)
      refine lv_iload_n hx hb dX2_leads_22 rfl (lv_at hl 2 rfl) ?_
      have hPc := hP.sub (ws' := []) [] rfl
      refine va_calli (va_runSN (As := [.int v_21, .int (nI j_10)]) (rest := []) ⟨hx, hb, hml, hown, hts⟩ (mz_g_inHeap l dC dI cI cJ cZ v_21 (nI j_10) s.heap ) ⟨va_cnB (host := "MadeItSo") 2 hts gX2_leads_X7_inHeap_n26 rfl rfl rfl (hN (RX2, 26, yX7_inHeap, "MadeItSo") (by decide +kernel)) (hts (.initialized RX7) (by decide +kernel)) (by decide +kernel) ⟨Nat.le_of_ble_eq_true rfl, Nat.le_of_ble_eq_true rfl⟩, hts (.static yX7_inHeap) (by decide +kernel), trivial⟩ ⟨fun a U g mk q => mz_blP q, fun U hU hW => ⟨rfl, hU, hPc, va_K.moved hW.alike hK, mz_nw hW hN⟩⟩ rfl rfl hl.1 rfl (lv_room (Nat.le_of_ble_eq_true rfl)) dX2_leads_23 ⟨Nat.le_of_ble_eq_true rfl, Nat.le_of_ble_eq_true rfl⟩) hS (fun q _ h => h.elim) (fun q h => h.elim) (fun r_23 u t H1 locs ht hvm hw_23 hB hz1 hk1 hS => ?_)
      have hE : s.heap = H1 := hB.symm.trans ht
      subst hE
      refine lv_if_eq (tgt := 33) hx hb dX2_leads_26 (by decide) (fun c_26 => ?_) (fun c_26 => ?_)
      · skip
        refine lv_iconst (v := 0) hx hb dX2_leads_33 (by decide +kernel) ?_
        refine W.widen (k := 0) (n := 0) (Nat.le_of_ble_eq_true rfl) (Nat.le_of_ble_eq_true rfl) ?_
        exact W.zret (v := 0) hx hb hr (mz_nz (by decide +kernel)) (fun t ht hW => ⟨⟨0, (), rfl, Or.inl rfl, ht⟩, hS.F ht⟩) hS.2.2 dX2_leads_34
      · skip
        refine lv_iconst (v := 1) hx hb dX2_leads_29 (by decide +kernel) ?_
        refine lv_goto (tgt := 34) hx hb dX2_leads_30 (by decide) ?_
        refine W.widen (k := 0) (n := 0) (Nat.le_of_ble_eq_true rfl) (Nat.le_of_ble_eq_true rfl) ?_
        exact W.zret (v := 1) hx hb hr (mz_nz (by decide +kernel)) (fun t ht hW => ⟨⟨1, (), rfl, Or.inr rfl, ht⟩, hS.F ht⟩) hS.2.2 dX2_leads_34
    · skip
      refine lv_if_eq (tgt := 33) hx hb dX2_leads_13 (by decide) (fun _ => ?_) (fun c_13 => absurd (by decide +kernel) c_13)
      refine lv_iconst (v := 0) hx hb dX2_leads_33 (by decide +kernel) ?_
      refine W.widen (k := 0) (n := 0) (Nat.le_of_ble_eq_true rfl) (Nat.le_of_ble_eq_true rfl) ?_
      exact W.zret (v := 0) hx hb hr (mz_nz (by decide +kernel)) (fun t ht hW => ⟨⟨0, (), rfl, Or.inl rfl, ht⟩, hS.F ht⟩) hS.2.2 dX2_leads_34
  · skip
    refine lv_if_eq (tgt := 33) hx hb dX2_leads_5 (by decide) (fun _ => ?_) (fun c_5 => absurd (by decide +kernel) c_5)
    refine lv_iconst (v := 0) hx hb dX2_leads_33 (by decide +kernel) ?_
    refine W.widen (k := 0) (n := 0) (Nat.le_of_ble_eq_true rfl) (Nat.le_of_ble_eq_true rfl) ?_
    exact W.zret (v := 0) hx hb hr (mz_nz (by decide +kernel)) (fun t ht hW => ⟨⟨0, (), rfl, Or.inl rfl, ht⟩, hS.F ht⟩) hS.2.2 dX2_leads_34
set_option maxHeartbeats 1000000 in
set_option maxRecDepth 100000 in
theorem mz_d_gather (l : Launch) (dC : Nat → ClassId) (dI : Nat → Nat → Nat) (cI cJ cZ : ClassId) (ar : Nat) (f : Nat → Int32) (p0 : Int32) (Hq : Heap)  : Met l yX2_gather wsX2_gather ({ frames := 1, cells := 0, slots := 0, locals := 21 }) (va_Pc [.int p0, .ref ar] (fun U => U.heap = Hq ∧ va_P (dC, dI) vwCl [(ar, .inl (cI, 8, .inl f))] Hq ∧ va_K (dC, dI) vwCl [(cI, FieldType.int), (cJ, FieldType.long), (cZ, FieldType.boolean)] U ∧ mz_N U)) (va_Qi (fun (r : Int32) (_ : Unit) => True) (fun _ t => t.heap = Hq) (fun _ : Nat => False)) 0 0 (fun _ : Nat => False) := by
  refine Met.ofW (cc := cX2_gather) (maxL := 4) (ret := (some .int)) (by decide) rfl ?_
  intro p e s m args below meth c s₁ B hml hv
  obtain ⟨rfl, hH, hP, hK, hN⟩ := hv
  subst hH
  have hx := B.exec
  have hb := B.bytes
  have hr := B.returns
  have hts := atoms_spec (ws := wsX2_gather) B.pre
  have hown : s.vm.findClass RX2 = some m.cls := findClass_of_methodNamed B.named
  have hlocks := B.notSynchronized
  have hS : va_S (fun _ : Nat => False) s.heap s.heap [] := va_S.rf
  have hl := lv_entry ([.int p0, .ref ar]) (n := 4) (Nat.le_of_ble_eq_true rfl)
  rw [lg_entry_eq]
  generalize (lg_sl ([.int p0, .ref ar]) ++ List.replicate (4 - (lg_sl ([.int p0, .ref ar])).length) Slot.unset).toArray = ls at hl ⊢
  have hl : lv_has ls 4 [(0, .int p0), (1, .ref ar)] := hl
  refine lv_iconst (v := 0) hx hb dX2_gather_0 (by decide +kernel) ?_
  refine lv_istore_n (lv' := [(2, .int 0), (0, .int p0), (1, .ref ar)]) hx hb dX2_gather_1 rfl hl (by decide) rfl (fun ls hl => ?_)
  refine lv_iconst (v := 0) hx hb dX2_gather_2 (by decide +kernel) ?_
  refine lv_istore_n (lv' := [(3, .int 0), (2, .int 0), (0, .int p0), (1, .ref ar)]) hx hb dX2_gather_3 rfl hl (by decide) rfl (fun ls hl => ?_)
  refine mz_loopU (fun k H locs ls => ∃ (i_4 : Nat), ∃ (x2_4 : Int32), i_4 ≤ 8 ∧ H = s.heap ∧ va_S (fun _ : Nat => False) s.heap H locs ∧ lv_has ls 4 [(3, .int (nI i_4)), (2, .int x2_4), (0, .int p0), (1, .ref ar)] ∧ k = 8 - i_4) ?_ _ _ _ _ ⟨0, 0, by omega, rfl, hS, lv_sub hl [0, 1, 2, 3] rfl, rfl⟩
  intro k_4 H locs ls hI_4 ih_4
  obtain ⟨i_4, x2_4, hi_4, hH_4, hS, hl, hk_4⟩ := hI_4
  subst hH_4
  refine lv_iload_n hx hb dX2_gather_4 rfl (lv_at hl 0 rfl) ?_
  refine lv_aload_n hx hb dX2_gather_5 rfl (lv_at hl 3 rfl) ?_
  refine va_alen (v := 8) hx hb hK hP 0 0 rfl rfl rfl dX2_gather_6 ?_
  refine lv_icmp_ge (tgt := 30) hx hb dX2_gather_7 (by decide) (fun c_7 => ?_) (fun c_7 => ?_)
  · skip
    have d_7 : 8 ≤ i_4 := (nI_leI (a := 8) (b := i_4) (by omega) (by omega)).mp c_7
    refine lv_iload_n hx hb dX2_gather_30 rfl (lv_at hl 1 rfl) ?_
    refine W.widen (k := 0) (n := 0) (Nat.le_of_ble_eq_true rfl) (Nat.le_of_ble_eq_true rfl) ?_
    exact W.iret (v := x2_4) hx hb hr (fun t ht hW => ⟨⟨x2_4, (), rfl, trivial, ht⟩, hS.F ht⟩) hS.2.2 dX2_gather_31
  · skip
    have d_7 : ¬ 8 ≤ i_4 := fun h => c_7 ((nI_leI (a := 8) (b := i_4) (by omega) (by omega)).mpr h)
    refine lv_iload_n hx hb dX2_gather_10 rfl (lv_at hl 2 rfl) ?_
    refine lv_iload_n hx hb dX2_gather_11 rfl (lv_at hl 0 rfl) ?_
    have hPc := hP.sub (ws' := []) [] rfl
    refine va_calli (va_runSN (As := [.int p0, .int (nI i_4)]) (rest := []) ⟨hx, hb, hml, hown, hts⟩ (mz_g_inHeap l dC dI cI cJ cZ p0 (nI i_4) s.heap ) ⟨va_cnB (host := "MadeItSo") 2 hts gX2_gather_X7_inHeap_n26 rfl rfl rfl (hN (RX2, 26, yX7_inHeap, "MadeItSo") (by decide +kernel)) (hts (.initialized RX7) (by decide +kernel)) (by decide +kernel) ⟨Nat.le_of_ble_eq_true rfl, Nat.le_of_ble_eq_true rfl⟩, hts (.static yX7_inHeap) (by decide +kernel), trivial⟩ ⟨fun a U g mk q => mz_blP q, fun U hU hW => ⟨rfl, hU, hPc, va_K.moved hW.alike hK, mz_nw hW hN⟩⟩ rfl rfl hl.1 rfl (lv_room (Nat.le_of_ble_eq_true rfl)) dX2_gather_12 ⟨Nat.le_of_ble_eq_true rfl, Nat.le_of_ble_eq_true rfl⟩) hS (fun q _ h => h.elim) (fun q h => h.elim) (fun r_12 u t H1 locs ht hvm hw_12 hB hz1 hk1 hS => ?_)
    have hE : s.heap = H1 := hB.symm.trans ht
    subst hE
    refine lv_if_eq (tgt := 24) hx hb dX2_gather_15 (by decide) (fun c_15 => ?_) (fun c_15 => ?_)
    · skip
      refine lv_iinc (v := (nI (i_4 + 1))) (lv' := [(3, .int (nI (i_4 + 1))), (2, .int x2_4), (0, .int p0), (1, .ref ar)]) hx hb dX2_gather_24 hl (k := 0) rfl (nI_1 _) (by decide) rfl (fun ls hl => ?_)
      refine lv_goto (tgt := 4) hx hb dX2_gather_27 (by decide) ?_
      exact ih_4 _ (by omega) _ _ _ ⟨(i_4 + 1), x2_4, by omega, rfl, hS, lv_sub hl [0, 1, 2, 3] rfl, rfl⟩
    · skip
      refine lv_iload_n hx hb dX2_gather_18 rfl (lv_at hl 1 rfl) ?_
      refine lv_aload_n hx hb dX2_gather_19 rfl (lv_at hl 3 rfl) ?_
      refine lv_iload_n hx hb dX2_gather_20 rfl (lv_at hl 0 rfl) ?_
      refine va_iald hx hb hK hP 0 0 rfl rfl (vp_in_nI (by omega) (by omega)) dX2_gather_21 ?_
      refine lv_topi (fun v_21 ev_21 => ?_)
      refine lv_ior hx hb dX2_gather_22 ?_
      refine lv_topi (fun v_22 ev_22 => ?_)
      refine lv_istore_n (lv' := [(2, .int v_22), (3, .int (nI i_4)), (0, .int p0), (1, .ref ar)]) hx hb dX2_gather_23 rfl hl (by decide) rfl (fun ls hl => ?_)
      refine lv_iinc (v := (nI (i_4 + 1))) (lv' := [(3, .int (nI (i_4 + 1))), (2, .int v_22), (0, .int p0), (1, .ref ar)]) hx hb dX2_gather_24 hl (k := 1) rfl (nI_1 _) (by decide) rfl (fun ls hl => ?_)
      refine lv_goto (tgt := 4) hx hb dX2_gather_27 (by decide) ?_
      exact ih_4 _ (by omega) _ _ _ ⟨(i_4 + 1), v_22, by omega, rfl, hS, lv_sub hl [0, 1, 2, 3] rfl, rfl⟩
set_option maxHeartbeats 1000000 in
set_option maxRecDepth 100000 in
theorem mz_d_spread_p (l : Launch) (dC : Nat → ClassId) (dI : Nat → Nat → Nat) (cI cJ cZ : ClassId) (dr : Nat) (dp : Nat) (dc : Nat) (n : Nat) (fp : Nat → Int32) (p0 : Int32) (Hq : Heap)  : Met l yX2_spread wsX2_spread ({ frames := 2, cells := 0, slots := 0, locals := 44 }) (va_Pc [.ref dr, .int p0, .ref dp] (fun U => U.heap = Hq ∧ va_P (dC, dI) vwCl [(dr, .inr (2, [.ref dp, .ref dc, .int (nI n)])), (dp, .inl (cI, 8, .inl fp))] Hq ∧ va_K (dC, dI) vwCl [(cI, FieldType.int), (cJ, FieldType.long), (cZ, FieldType.boolean)] U ∧ mz_N U)) (va_Qi (fun (r : Int32) (_ : Unit) => True) (fun _ t => t.heap = Hq) (fun _ : Nat => False)) 0 0 (fun _ : Nat => False) := by
  refine Met.ofW (cc := cX2_spread) (maxL := 6) (ret := (some .int)) (by decide) rfl ?_
  intro p e s m args below meth c s₁ B hml hv
  obtain ⟨rfl, hH, hP, hK, hN⟩ := hv
  subst hH
  have hx := B.exec
  have hb := B.bytes
  have hr := B.returns
  have hts := atoms_spec (ws := wsX2_spread) B.pre
  have hown : s.vm.findClass RX2 = some m.cls := findClass_of_methodNamed B.named
  have hlocks := B.notSynchronized
  have hS : va_S (fun _ : Nat => False) s.heap s.heap [] := va_S.rf
  have hl := lv_entry ([.ref dr, .int p0, .ref dp]) (n := 6) (Nat.le_of_ble_eq_true rfl)
  rw [lg_entry_eq]
  generalize (lg_sl ([.ref dr, .int p0, .ref dp]) ++ List.replicate (6 - (lg_sl ([.ref dr, .int p0, .ref dp])).length) Slot.unset).toArray = ls at hl ⊢
  have hl : lv_has ls 6 [(0, .ref dr), (1, .int p0), (2, .ref dp)] := hl
  refine lv_iload_n hx hb dX2_spread_0 rfl (lv_at hl 1 rfl) ?_
  refine lv_istore_n (lv' := [(3, .int p0), (0, .ref dr), (1, .int p0), (2, .ref dp)]) hx hb dX2_spread_1 rfl hl (by decide) rfl (fun ls hl => ?_)
  refine lv_iconst (v := 0) hx hb dX2_spread_2 (by decide +kernel) ?_
  refine lv_istore (lv' := [(4, .int 0), (3, .int p0), (0, .ref dr), (1, .int p0), (2, .ref dp)]) hx hb dX2_spread_3 hl (by decide) rfl (fun ls hl => ?_)
  refine mz_loopU (fun k H locs ls => ∃ (i_5 : Nat), ∃ (x3_5 : Int32), i_5 ≤ 8 ∧ H = s.heap ∧ va_S (fun _ : Nat => False) s.heap H locs ∧ lv_has ls 6 [(4, .int (nI i_5)), (3, .int x3_5), (0, .ref dr), (1, .int p0), (2, .ref dp)] ∧ k = 8 - i_5) ?_ _ _ _ _ ⟨0, p0, by omega, rfl, hS, lv_sub hl [0, 1, 2, 3, 4] rfl, rfl⟩
  intro k_5 H locs ls hI_5 ih_5
  obtain ⟨i_5, x3_5, hi_5, hH_5, hS, hl, hk_5⟩ := hI_5
  subst hH_5
  refine lv_iload hx hb dX2_spread_5 (lv_at hl 0 rfl) ?_
  refine lv_bipush (v := 8) hx hb dX2_spread_7 (by decide +kernel) ?_
  refine lv_icmp_ge (tgt := 39) hx hb dX2_spread_9 (by decide) (fun c_9 => ?_) (fun c_9 => ?_)
  · skip
    have d_9 : 8 ≤ i_5 := (nI_leI (a := 8) (b := i_5) (by omega) (by omega)).mp c_9
    refine lv_iload_n hx hb dX2_spread_39 rfl (lv_at hl 1 rfl) ?_
    refine W.widen (k := 0) (n := 0) (Nat.le_of_ble_eq_true rfl) (Nat.le_of_ble_eq_true rfl) ?_
    exact W.iret (v := x3_5) hx hb hr (fun t ht hW => ⟨⟨x3_5, (), rfl, trivial, ht⟩, hS.F ht⟩) hS.2.2 dX2_spread_40
  · skip
    have d_9 : ¬ 8 ≤ i_5 := fun h => c_9 ((nI_leI (a := 8) (b := i_5) (by omega) (by omega)).mpr h)
    refine lv_iload_n hx hb dX2_spread_12 rfl (lv_at hl 1 rfl) ?_
    refine lv_iload_n hx hb dX2_spread_13 rfl (lv_at hl 1 rfl) ?_
    refine lv_aload_n hx hb dX2_spread_14 rfl (lv_at hl 4 rfl) ?_
    have hPc := hP.sub (ws' := [(dp, .inl (cI, 8, .inl fp))]) [1] rfl
    refine va_calli (va_runS (As := [.int x3_5, .ref dp]) (rest := [.int x3_5]) ⟨hx, hb, hml, hown, hts⟩ (mz_d_gather l dC dI cI cJ cZ dp fp x3_5 s.heap ) (va_cwS 2 hts gX2_spread_X2_gather rfl rfl rfl (by decide +kernel) ⟨Nat.le_of_ble_eq_true rfl, Nat.le_of_ble_eq_true rfl⟩) ⟨fun a U g mk q => mz_blP q, fun U hU hW => ⟨rfl, hU, hPc, va_K.moved hW.alike hK, mz_nw hW hN⟩⟩ rfl rfl hl.1 rfl (lv_room (Nat.le_of_ble_eq_true rfl)) dX2_spread_15 ⟨Nat.le_of_ble_eq_true rfl, Nat.le_of_ble_eq_true rfl⟩) hS (fun q _ h => h.elim) (fun q h => h.elim) (fun r_15 u t H1 locs ht hvm hw_15 hB hz1 hk1 hS => ?_)
    have hE : s.heap = H1 := hB.symm.trans ht
    subst hE
    refine lv_ior hx hb dX2_spread_18 ?_
    refine lv_topi (fun v_18 ev_18 => ?_)
    refine lv_istore (lv' := [(5, .int v_18), (4, .int (nI i_5)), (3, .int x3_5), (0, .ref dr), (1, .int p0), (2, .ref dp)]) hx hb dX2_spread_19 hl (by decide) rfl (fun ls hl => ?_)
    refine lv_iload hx hb dX2_spread_21 (lv_at hl 0 rfl) ?_
    refine lv_iload_n hx hb dX2_spread_23 rfl (lv_at hl 2 rfl) ?_
    refine lv_icmp_ne (tgt := 30) hx hb dX2_spread_24 (by decide) (fun c_24 => ?_) (fun c_24 => ?_)
    · skip
      refine lv_iload hx hb dX2_spread_30 (lv_at hl 0 rfl) ?_
      refine lv_istore_n (lv' := [(3, .int v_18), (5, .int v_18), (4, .int (nI i_5)), (0, .ref dr), (1, .int p0), (2, .ref dp)]) hx hb dX2_spread_32 rfl hl (by decide) rfl (fun ls hl => ?_)
      refine lv_iinc (v := (nI (i_5 + 1))) (lv' := [(4, .int (nI (i_5 + 1))), (3, .int v_18), (5, .int v_18), (0, .ref dr), (1, .int p0), (2, .ref dp)]) hx hb dX2_spread_33 hl (k := 2) rfl (nI_1 _) (by decide) rfl (fun ls hl => ?_)
      refine lv_goto (tgt := 5) hx hb dX2_spread_36 (by decide) ?_
      exact ih_5 _ (by omega) _ _ _ ⟨(i_5 + 1), v_18, by omega, rfl, hS, lv_sub hl [0, 1, 3, 4, 5] rfl, rfl⟩
    · skip
      refine lv_goto (tgt := 39) hx hb dX2_spread_27 (by decide) ?_
      refine lv_iload_n hx hb dX2_spread_39 rfl (lv_at hl 2 rfl) ?_
      refine W.widen (k := 0) (n := 0) (Nat.le_of_ble_eq_true rfl) (Nat.le_of_ble_eq_true rfl) ?_
      exact W.iret (v := x3_5) hx hb hr (fun t ht hW => ⟨⟨x3_5, (), rfl, trivial, ht⟩, hS.F ht⟩) hS.2.2 dX2_spread_40
set_option maxHeartbeats 1000000 in
set_option maxRecDepth 100000 in
theorem mz_d_spread_c (l : Launch) (dC : Nat → ClassId) (dI : Nat → Nat → Nat) (cI cJ cZ : ClassId) (dr : Nat) (dp : Nat) (dc : Nat) (n : Nat) (fc : Nat → Int32) (p0 : Int32) (Hq : Heap)  : Met l yX2_spread wsX2_spread ({ frames := 2, cells := 0, slots := 0, locals := 44 }) (va_Pc [.ref dr, .int p0, .ref dc] (fun U => U.heap = Hq ∧ va_P (dC, dI) vwCl [(dr, .inr (2, [.ref dp, .ref dc, .int (nI n)])), (dc, .inl (cI, 8, .inl fc))] Hq ∧ va_K (dC, dI) vwCl [(cI, FieldType.int), (cJ, FieldType.long), (cZ, FieldType.boolean)] U ∧ mz_N U)) (va_Qi (fun (r : Int32) (_ : Unit) => True) (fun _ t => t.heap = Hq) (fun _ : Nat => False)) 0 0 (fun _ : Nat => False) := by
  refine Met.ofW (cc := cX2_spread) (maxL := 6) (ret := (some .int)) (by decide) rfl ?_
  intro p e s m args below meth c s₁ B hml hv
  obtain ⟨rfl, hH, hP, hK, hN⟩ := hv
  subst hH
  have hx := B.exec
  have hb := B.bytes
  have hr := B.returns
  have hts := atoms_spec (ws := wsX2_spread) B.pre
  have hown : s.vm.findClass RX2 = some m.cls := findClass_of_methodNamed B.named
  have hlocks := B.notSynchronized
  have hS : va_S (fun _ : Nat => False) s.heap s.heap [] := va_S.rf
  have hl := lv_entry ([.ref dr, .int p0, .ref dc]) (n := 6) (Nat.le_of_ble_eq_true rfl)
  rw [lg_entry_eq]
  generalize (lg_sl ([.ref dr, .int p0, .ref dc]) ++ List.replicate (6 - (lg_sl ([.ref dr, .int p0, .ref dc])).length) Slot.unset).toArray = ls at hl ⊢
  have hl : lv_has ls 6 [(0, .ref dr), (1, .int p0), (2, .ref dc)] := hl
  refine lv_iload_n hx hb dX2_spread_0 rfl (lv_at hl 1 rfl) ?_
  refine lv_istore_n (lv' := [(3, .int p0), (0, .ref dr), (1, .int p0), (2, .ref dc)]) hx hb dX2_spread_1 rfl hl (by decide) rfl (fun ls hl => ?_)
  refine lv_iconst (v := 0) hx hb dX2_spread_2 (by decide +kernel) ?_
  refine lv_istore (lv' := [(4, .int 0), (3, .int p0), (0, .ref dr), (1, .int p0), (2, .ref dc)]) hx hb dX2_spread_3 hl (by decide) rfl (fun ls hl => ?_)
  refine mz_loopU (fun k H locs ls => ∃ (i_5 : Nat), ∃ (x3_5 : Int32), i_5 ≤ 8 ∧ H = s.heap ∧ va_S (fun _ : Nat => False) s.heap H locs ∧ lv_has ls 6 [(4, .int (nI i_5)), (3, .int x3_5), (0, .ref dr), (1, .int p0), (2, .ref dc)] ∧ k = 8 - i_5) ?_ _ _ _ _ ⟨0, p0, by omega, rfl, hS, lv_sub hl [0, 1, 2, 3, 4] rfl, rfl⟩
  intro k_5 H locs ls hI_5 ih_5
  obtain ⟨i_5, x3_5, hi_5, hH_5, hS, hl, hk_5⟩ := hI_5
  subst hH_5
  refine lv_iload hx hb dX2_spread_5 (lv_at hl 0 rfl) ?_
  refine lv_bipush (v := 8) hx hb dX2_spread_7 (by decide +kernel) ?_
  refine lv_icmp_ge (tgt := 39) hx hb dX2_spread_9 (by decide) (fun c_9 => ?_) (fun c_9 => ?_)
  · skip
    have d_9 : 8 ≤ i_5 := (nI_leI (a := 8) (b := i_5) (by omega) (by omega)).mp c_9
    refine lv_iload_n hx hb dX2_spread_39 rfl (lv_at hl 1 rfl) ?_
    refine W.widen (k := 0) (n := 0) (Nat.le_of_ble_eq_true rfl) (Nat.le_of_ble_eq_true rfl) ?_
    exact W.iret (v := x3_5) hx hb hr (fun t ht hW => ⟨⟨x3_5, (), rfl, trivial, ht⟩, hS.F ht⟩) hS.2.2 dX2_spread_40
  · skip
    have d_9 : ¬ 8 ≤ i_5 := fun h => c_9 ((nI_leI (a := 8) (b := i_5) (by omega) (by omega)).mpr h)
    refine lv_iload_n hx hb dX2_spread_12 rfl (lv_at hl 1 rfl) ?_
    refine lv_iload_n hx hb dX2_spread_13 rfl (lv_at hl 1 rfl) ?_
    refine lv_aload_n hx hb dX2_spread_14 rfl (lv_at hl 4 rfl) ?_
    have hPc := hP.sub (ws' := [(dc, .inl (cI, 8, .inl fc))]) [1] rfl
    refine va_calli (va_runS (As := [.int x3_5, .ref dc]) (rest := [.int x3_5]) ⟨hx, hb, hml, hown, hts⟩ (mz_d_gather l dC dI cI cJ cZ dc fc x3_5 s.heap ) (va_cwS 2 hts gX2_spread_X2_gather rfl rfl rfl (by decide +kernel) ⟨Nat.le_of_ble_eq_true rfl, Nat.le_of_ble_eq_true rfl⟩) ⟨fun a U g mk q => mz_blP q, fun U hU hW => ⟨rfl, hU, hPc, va_K.moved hW.alike hK, mz_nw hW hN⟩⟩ rfl rfl hl.1 rfl (lv_room (Nat.le_of_ble_eq_true rfl)) dX2_spread_15 ⟨Nat.le_of_ble_eq_true rfl, Nat.le_of_ble_eq_true rfl⟩) hS (fun q _ h => h.elim) (fun q h => h.elim) (fun r_15 u t H1 locs ht hvm hw_15 hB hz1 hk1 hS => ?_)
    have hE : s.heap = H1 := hB.symm.trans ht
    subst hE
    refine lv_ior hx hb dX2_spread_18 ?_
    refine lv_topi (fun v_18 ev_18 => ?_)
    refine lv_istore (lv' := [(5, .int v_18), (4, .int (nI i_5)), (3, .int x3_5), (0, .ref dr), (1, .int p0), (2, .ref dc)]) hx hb dX2_spread_19 hl (by decide) rfl (fun ls hl => ?_)
    refine lv_iload hx hb dX2_spread_21 (lv_at hl 0 rfl) ?_
    refine lv_iload_n hx hb dX2_spread_23 rfl (lv_at hl 2 rfl) ?_
    refine lv_icmp_ne (tgt := 30) hx hb dX2_spread_24 (by decide) (fun c_24 => ?_) (fun c_24 => ?_)
    · skip
      refine lv_iload hx hb dX2_spread_30 (lv_at hl 0 rfl) ?_
      refine lv_istore_n (lv' := [(3, .int v_18), (5, .int v_18), (4, .int (nI i_5)), (0, .ref dr), (1, .int p0), (2, .ref dc)]) hx hb dX2_spread_32 rfl hl (by decide) rfl (fun ls hl => ?_)
      refine lv_iinc (v := (nI (i_5 + 1))) (lv' := [(4, .int (nI (i_5 + 1))), (3, .int v_18), (5, .int v_18), (0, .ref dr), (1, .int p0), (2, .ref dc)]) hx hb dX2_spread_33 hl (k := 2) rfl (nI_1 _) (by decide) rfl (fun ls hl => ?_)
      refine lv_goto (tgt := 5) hx hb dX2_spread_36 (by decide) ?_
      exact ih_5 _ (by omega) _ _ _ ⟨(i_5 + 1), v_18, by omega, rfl, hS, lv_sub hl [0, 1, 3, 4, 5] rfl, rfl⟩
    · skip
      refine lv_goto (tgt := 39) hx hb dX2_spread_27 (by decide) ?_
      refine lv_iload_n hx hb dX2_spread_39 rfl (lv_at hl 2 rfl) ?_
      refine W.widen (k := 0) (n := 0) (Nat.le_of_ble_eq_true rfl) (Nat.le_of_ble_eq_true rfl) ?_
      exact W.iret (v := x3_5) hx hb hr (fun t ht hW => ⟨⟨x3_5, (), rfl, trivial, ht⟩, hS.F ht⟩) hS.2.2 dX2_spread_40
set_option maxHeartbeats 1000000 in
set_option maxRecDepth 100000 in
theorem mz_d_withAllBelow (l : Launch) (dC : Nat → ClassId) (dI : Nat → Nat → Nat) (cI cJ cZ : ClassId) (dr : Nat) (dp : Nat) (dc : Nat) (n : Nat) (fc : Nat → Int32) (p0 : Int32) (Hq : Heap)  : Met l yX2_withAllBelow wsX2_withAllBelow ({ frames := 3, cells := 0, slots := 0, locals := 69 }) (va_Pc [.ref dr, .int p0] (fun U => U.heap = Hq ∧ va_P (dC, dI) vwCl [(dr, .inr (2, [.ref dp, .ref dc, .int (nI n)])), (dc, .inl (cI, 8, .inl fc))] Hq ∧ va_K (dC, dI) vwCl [(cI, FieldType.int), (cJ, FieldType.long), (cZ, FieldType.boolean)] U ∧ mz_N U)) (va_Qi (fun (r : Int32) (_ : Unit) => True) (fun _ t => t.heap = Hq) (fun _ : Nat => False)) 0 0 (fun _ : Nat => False) := by
  refine Met.ofW (cc := cX2_withAllBelow) (maxL := 2) (ret := (some .int)) (by decide) rfl ?_
  intro p e s m args below meth c s₁ B hml hv
  obtain ⟨rfl, hH, hP, hK, hN⟩ := hv
  subst hH
  have hx := B.exec
  have hb := B.bytes
  have hr := B.returns
  have hts := atoms_spec (ws := wsX2_withAllBelow) B.pre
  have hown : s.vm.findClass RX2 = some m.cls := findClass_of_methodNamed B.named
  have hlocks := B.notSynchronized
  have hS : va_S (fun _ : Nat => False) s.heap s.heap [] := va_S.rf
  have hiX2 : ∀ w ∈ u_ws RX2 TX2 3, w ∈ wsX2_withAllBelow := by decide +kernel
  have hl := lv_entry ([.ref dr, .int p0]) (n := 2) (Nat.le_of_ble_eq_true rfl)
  rw [lg_entry_eq]
  generalize (lg_sl ([.ref dr, .int p0]) ++ List.replicate (2 - (lg_sl ([.ref dr, .int p0])).length) Slot.unset).toArray = ls at hl ⊢
  have hl : lv_has ls 2 [(0, .ref dr), (1, .int p0)] := hl
  refine lv_aload_n hx hb dX2_withAllBelow_0 rfl (lv_at hl 0 rfl) ?_
  refine lv_iload_n hx hb dX2_withAllBelow_1 rfl (lv_at hl 1 rfl) ?_
  refine lv_aload_n hx hb dX2_withAllBelow_2 rfl (lv_at hl 0 rfl) ?_
  refine va_get (D := (dC, dI)) (ci := 2) (v := .ref dc) (C := RX2) (T := TX2) (N := 3) hx hb hts hiX2 hown hK hP 0 rfl rfl 1 (by decide) (hts (.fieldLink RX2 15 "MadeItSo$Drawing" "children" "[I") (by decide +kernel)) (fun _ h9 => h9) rfl dX2_withAllBelow_3 ?_
  have hPc := hP.sub (ws' := [(dr, .inr (2, [.ref dp, .ref dc, .int (nI n)])), (dc, .inl (cI, 8, .inl fc))]) [0, 1] rfl
  refine va_calli (va_runV (As := [.int p0, .ref dc]) (rest := []) ⟨hx, hb, hml, hown, hts⟩ (mz_d_spread_c l dC dI cI cJ cZ dr dp dc n fc p0 s.heap ) (cwV 2 hts gX2_withAllBelow_X2_spread rfl rfl rfl (by decide +kernel) ⟨Nat.le_of_ble_eq_true rfl, Nat.le_of_ble_eq_true rfl⟩) ⟨fun a U g mk q => mz_blP q, va_recv hK hPc (ci := 2) (q0 := 0) rfl rfl, fun U hU hW => ⟨rfl, hU, hPc, va_K.moved hW.alike hK, mz_nw hW hN⟩⟩ rfl rfl hl.1 rfl (lv_room (Nat.le_of_ble_eq_true rfl)) dX2_withAllBelow_6 ⟨Nat.le_of_ble_eq_true rfl, Nat.le_of_ble_eq_true rfl⟩) hS (fun q _ h => h.elim) (fun q h => h.elim) (fun r_6 u t H1 locs ht hvm hw_6 hB hz1 hk1 hS => ?_)
  have hE : s.heap = H1 := hB.symm.trans ht
  subst hE
  refine W.widen (k := 0) (n := 0) (Nat.le_of_ble_eq_true rfl) (Nat.le_of_ble_eq_true rfl) ?_
  exact W.iret (v := r_6) hx hb hr (fun t ht hW => ⟨⟨r_6, (), rfl, trivial, ht⟩, hS.F ht⟩) hS.2.2 dX2_withAllBelow_9
set_option maxHeartbeats 1000000 in
set_option maxRecDepth 100000 in
theorem mz_d_allBelow (l : Launch) (dC : Nat → ClassId) (dI : Nat → Nat → Nat) (cI cJ cZ : ClassId) (dr : Nat) (dp : Nat) (dc : Nat) (n : Nat) (fc : Nat → Int32) (p0 : Int32) (Hq : Heap) (hn : n ≤ 8) : Met l yX2_allBelow wsX2_allBelow ({ frames := 4, cells := 0, slots := 0, locals := 90 }) (va_Pc [.ref dr, .int p0] (fun U => U.heap = Hq ∧ va_P (dC, dI) vwCl [(dr, .inr (2, [.ref dp, .ref dc, .int (nI n)])), (dc, .inl (cI, 8, .inl fc))] Hq ∧ va_K (dC, dI) vwCl [(cI, FieldType.int), (cJ, FieldType.long), (cZ, FieldType.boolean)] U ∧ mz_N U)) (va_Qi (fun (r : Int32) (_ : Unit) => True) (fun _ t => t.heap = Hq) (fun _ : Nat => False)) 0 0 (fun _ : Nat => False) := by
  refine Met.ofW (cc := cX2_allBelow) (maxL := 2) (ret := (some .int)) (by decide) rfl ?_
  intro p e s m args below meth c s₁ B hml hv
  obtain ⟨rfl, hH, hP, hK, hN⟩ := hv
  subst hH
  have hx := B.exec
  have hb := B.bytes
  have hr := B.returns
  have hts := atoms_spec (ws := wsX2_allBelow) B.pre
  have hown : s.vm.findClass RX2 = some m.cls := findClass_of_methodNamed B.named
  have hlocks := B.notSynchronized
  have hS : va_S (fun _ : Nat => False) s.heap s.heap [] := va_S.rf
  have hl := lv_entry ([.ref dr, .int p0]) (n := 2) (Nat.le_of_ble_eq_true rfl)
  rw [lg_entry_eq]
  generalize (lg_sl ([.ref dr, .int p0]) ++ List.replicate (2 - (lg_sl ([.ref dr, .int p0])).length) Slot.unset).toArray = ls at hl ⊢
  have hl : lv_has ls 2 [(0, .ref dr), (1, .int p0)] := hl
  refine lv_aload_n hx hb dX2_allBelow_0 rfl (lv_at hl 0 rfl) ?_
  refine lv_aload_n hx hb dX2_allBelow_1 rfl (lv_at hl 0 rfl) ?_
  refine lv_iload_n hx hb dX2_allBelow_2 rfl (lv_at hl 1 rfl) ?_
  have hPc := hP.sub (ws' := [(dr, .inr (2, [.ref dp, .ref dc, .int (nI n)])), (dc, .inl (cI, 8, .inl fc))]) [0, 1] rfl
  refine va_calli (va_runV (As := [.int p0]) (rest := [.ref dr]) ⟨hx, hb, hml, hown, hts⟩ (mz_d_childrenOf l dC dI cI cJ cZ dr dp dc n fc p0 s.heap (by first | assumption | omega)) (cwV 1 hts gX2_allBelow_X2_childrenOf rfl rfl rfl (by decide +kernel) ⟨Nat.le_of_ble_eq_true rfl, Nat.le_of_ble_eq_true rfl⟩) ⟨fun a U g mk q => mz_blP q, va_recv hK hPc (ci := 2) (q0 := 0) rfl rfl, fun U hU hW => ⟨rfl, hU, hPc, va_K.moved hW.alike hK, mz_nw hW hN⟩⟩ rfl rfl hl.1 rfl (lv_room (Nat.le_of_ble_eq_true rfl)) dX2_allBelow_3 ⟨Nat.le_of_ble_eq_true rfl, Nat.le_of_ble_eq_true rfl⟩) hS (fun q _ h => h.elim) (fun q h => h.elim) (fun r_3 u t H1 locs ht hvm hw_3 hB hz1 hk1 hS => ?_)
  have hE : s.heap = H1 := hB.symm.trans ht
  subst hE
  have hPc := hP.sub (ws' := [(dr, .inr (2, [.ref dp, .ref dc, .int (nI n)])), (dc, .inl (cI, 8, .inl fc))]) [0, 1] rfl
  refine va_calli (va_runV (As := [.int r_3]) (rest := []) ⟨hx, hb, hml, hown, hts⟩ (mz_d_withAllBelow l dC dI cI cJ cZ dr dp dc n fc r_3 s.heap ) (cwV 1 hts gX2_allBelow_X2_withAllBelow rfl rfl rfl (by decide +kernel) ⟨Nat.le_of_ble_eq_true rfl, Nat.le_of_ble_eq_true rfl⟩) ⟨fun a U g mk q => mz_blP q, va_recv hK hPc (ci := 2) (q0 := 0) rfl rfl, fun U hU hW => ⟨rfl, hU, hPc, va_K.moved hW.alike hK, mz_nw hW hN⟩⟩ rfl rfl hl.1 rfl (lv_room (Nat.le_of_ble_eq_true rfl)) dX2_allBelow_6 ⟨Nat.le_of_ble_eq_true rfl, Nat.le_of_ble_eq_true rfl⟩) hS (fun q _ h => h.elim) (fun q h => h.elim) (fun r_6 u t H1 locs ht hvm hw_6 hB hz1 hk1 hS => ?_)
  have hE : s.heap = H1 := hB.symm.trans ht
  subst hE
  refine W.widen (k := 0) (n := 0) (Nat.le_of_ble_eq_true rfl) (Nat.le_of_ble_eq_true rfl) ?_
  exact W.iret (v := r_6) hx hb hr (fun t ht hW => ⟨⟨r_6, (), rfl, trivial, ht⟩, hS.F ht⟩) hS.2.2 dX2_allBelow_9
set_option maxHeartbeats 1000000 in
set_option maxRecDepth 100000 in
theorem mz_d_road (l : Launch) (dC : Nat → ClassId) (dI : Nat → Nat → Nat) (cI cJ cZ : ClassId) (dr : Nat) (dp : Nat) (dc : Nat) (n : Nat) (fp : Nat → Int32) (fc : Nat → Int32) (p0 : Int32) (p1 : Int32) (Hq : Heap) (hn : n ≤ 8) : Met l yX2_road wsX2_road ({ frames := 5, cells := 0, slots := 0, locals := 111 }) (va_Pc [.ref dr, .int p0, .int p1] (fun U => U.heap = Hq ∧ va_P (dC, dI) vwCl [(dr, .inr (2, [.ref dp, .ref dc, .int (nI n)])), (dp, .inl (cI, 8, .inl fp)), (dc, .inl (cI, 8, .inl fc))] Hq ∧ va_K (dC, dI) vwCl [(cI, FieldType.int), (cJ, FieldType.long), (cZ, FieldType.boolean)] U ∧ mz_N U)) (va_Qi (fun (r : Int32) (_ : Unit) => True) (fun _ t => t.heap = Hq) (fun _ : Nat => False)) 0 0 (fun _ : Nat => False) := by
  refine Met.ofW (cc := cX2_road) (maxL := 3) (ret := (some .int)) (by decide) rfl ?_
  intro p e s m args below meth c s₁ B hml hv
  obtain ⟨rfl, hH, hP, hK, hN⟩ := hv
  subst hH
  have hx := B.exec
  have hb := B.bytes
  have hr := B.returns
  have hts := atoms_spec (ws := wsX2_road) B.pre
  have hown : s.vm.findClass RX2 = some m.cls := findClass_of_methodNamed B.named
  have hlocks := B.notSynchronized
  have hS : va_S (fun _ : Nat => False) s.heap s.heap [] := va_S.rf
  have hiX2 : ∀ w ∈ u_ws RX2 TX2 3, w ∈ wsX2_road := by decide +kernel
  have hl := lv_entry ([.ref dr, .int p0, .int p1]) (n := 3) (Nat.le_of_ble_eq_true rfl)
  rw [lg_entry_eq]
  generalize (lg_sl ([.ref dr, .int p0, .int p1]) ++ List.replicate (3 - (lg_sl ([.ref dr, .int p0, .int p1])).length) Slot.unset).toArray = ls at hl ⊢
  have hl : lv_has ls 3 [(0, .ref dr), (1, .int p0), (2, .int p1)] := hl
  refine lv_aload_n hx hb dX2_road_0 rfl (lv_at hl 0 rfl) ?_
  refine lv_iload_n hx hb dX2_road_1 rfl (lv_at hl 1 rfl) ?_
  have hPc := hP.sub (ws' := [(dr, .inr (2, [.ref dp, .ref dc, .int (nI n)])), (dc, .inl (cI, 8, .inl fc))]) [0, 2] rfl
  refine va_calli (va_runV (As := [.int p0]) (rest := []) ⟨hx, hb, hml, hown, hts⟩ (mz_d_allBelow l dC dI cI cJ cZ dr dp dc n fc p0 s.heap (by first | assumption | omega)) (cwV 1 hts gX2_road_X2_allBelow rfl rfl rfl (by decide +kernel) ⟨Nat.le_of_ble_eq_true rfl, Nat.le_of_ble_eq_true rfl⟩) ⟨fun a U g mk q => mz_blP q, va_recv hK hPc (ci := 2) (q0 := 0) rfl rfl, fun U hU hW => ⟨rfl, hU, hPc, va_K.moved hW.alike hK, mz_nw hW hN⟩⟩ rfl rfl hl.1 rfl (lv_room (Nat.le_of_ble_eq_true rfl)) dX2_road_2 ⟨Nat.le_of_ble_eq_true rfl, Nat.le_of_ble_eq_true rfl⟩) hS (fun q _ h => h.elim) (fun q h => h.elim) (fun r_2 u t H1 locs ht hvm hw_2 hB hz1 hk1 hS => ?_)
  have hE : s.heap = H1 := hB.symm.trans ht
  subst hE
  refine lv_aload_n hx hb dX2_road_5 rfl (lv_at hl 0 rfl) ?_
  refine lv_iload_n hx hb dX2_road_6 rfl (lv_at hl 2 rfl) ?_
  have hPc := hP.sub (ws' := []) [] rfl
  refine va_calli (va_runSN (As := [.int p1]) (rest := [.ref dr, .int r_2]) ⟨hx, hb, hml, hown, hts⟩ (mz_g_bit l dC dI cI cJ cZ p1 s.heap ) ⟨va_cnB (host := "MadeItSo") 1 hts gX2_road_X7_bit_n37 rfl rfl rfl (hN (RX2, 37, yX7_bit, "MadeItSo") (by decide +kernel)) (hts (.initialized RX7) (by decide +kernel)) (by decide +kernel) ⟨Nat.le_of_ble_eq_true rfl, Nat.le_of_ble_eq_true rfl⟩, hts (.static yX7_bit) (by decide +kernel), trivial⟩ ⟨fun a U g mk q => mz_blP q, fun U hU hW => ⟨rfl, hU, hPc, va_K.moved hW.alike hK, mz_nw hW hN⟩⟩ rfl rfl hl.1 rfl (lv_room (Nat.le_of_ble_eq_true rfl)) dX2_road_7 ⟨Nat.le_of_ble_eq_true rfl, Nat.le_of_ble_eq_true rfl⟩) hS (fun q _ h => h.elim) (fun q h => h.elim) (fun r_7 u t H1 locs ht hvm hw_7 hB hz1 hk1 hS => ?_)
  have hE : s.heap = H1 := hB.symm.trans ht
  subst hE
  obtain rfl : r_7 = (1 <<< (p1 &&& 31)) := hw_7
  refine lv_aload_n hx hb dX2_road_10 rfl (lv_at hl 0 rfl) ?_
  refine va_get (D := (dC, dI)) (ci := 2) (v := .ref dp) (C := RX2) (T := TX2) (N := 3) hx hb hts hiX2 hown hK hP 0 rfl rfl 0 (by decide) (hts (.fieldLink RX2 9 "MadeItSo$Drawing" "parents" "[I") (by decide +kernel)) (fun _ h9 => h9) rfl dX2_road_11 ?_
  have hPc := hP.sub (ws' := [(dr, .inr (2, [.ref dp, .ref dc, .int (nI n)])), (dp, .inl (cI, 8, .inl fp))]) [0, 1] rfl
  refine va_calli (va_runV (As := [.int (1 <<< (p1 &&& 31)), .ref dp]) (rest := [.int r_2]) ⟨hx, hb, hml, hown, hts⟩ (mz_d_spread_p l dC dI cI cJ cZ dr dp dc n fp (1 <<< (p1 &&& 31)) s.heap ) (cwV 2 hts gX2_road_X2_spread rfl rfl rfl (by decide +kernel) ⟨Nat.le_of_ble_eq_true rfl, Nat.le_of_ble_eq_true rfl⟩) ⟨fun a U g mk q => mz_blP q, va_recv hK hPc (ci := 2) (q0 := 0) rfl rfl, fun U hU hW => ⟨rfl, hU, hPc, va_K.moved hW.alike hK, mz_nw hW hN⟩⟩ rfl rfl hl.1 rfl (lv_room (Nat.le_of_ble_eq_true rfl)) dX2_road_14 ⟨Nat.le_of_ble_eq_true rfl, Nat.le_of_ble_eq_true rfl⟩) hS (fun q _ h => h.elim) (fun q h => h.elim) (fun r_14 u t H1 locs ht hvm hw_14 hB hz1 hk1 hS => ?_)
  have hE : s.heap = H1 := hB.symm.trans ht
  subst hE
  refine lv_iand hx hb dX2_road_17 ?_
  refine lv_topi (fun v_17 ev_17 => ?_)
  refine W.widen (k := 0) (n := 0) (Nat.le_of_ble_eq_true rfl) (Nat.le_of_ble_eq_true rfl) ?_
  exact W.iret (v := v_17) hx hb hr (fun t ht hW => ⟨⟨v_17, (), rfl, trivial, ht⟩, hS.F ht⟩) hS.2.2 dX2_road_18
set_option maxHeartbeats 1000000 in
set_option maxRecDepth 100000 in
theorem mz_d_canJoin (l : Launch) (dC : Nat → ClassId) (dI : Nat → Nat → Nat) (cI cJ cZ : ClassId) (dr : Nat) (dp : Nat) (dc : Nat) (n : Nat) (fp : Nat → Int32) (fc : Nat → Int32) (p0 : Int32) (p1 : Int32) (Hq : Heap) (hn : n ≤ 8) : Met l yX2_canJoin wsX2_canJoin ({ frames := 5, cells := 0, slots := 0, locals := 111 }) (va_Pc [.ref dr, .int p0, .int p1] (fun U => U.heap = Hq ∧ va_P (dC, dI) vwCl [(dr, .inr (2, [.ref dp, .ref dc, .int (nI n)])), (dp, .inl (cI, 8, .inl fp)), (dc, .inl (cI, 8, .inl fc))] Hq ∧ va_K (dC, dI) vwCl [(cI, FieldType.int), (cJ, FieldType.long), (cZ, FieldType.boolean)] U ∧ mz_N U)) (va_Qi (fun (r : Int32) (_ : Unit) => r = 0 ∨ r = 1) (fun _ t => t.heap = Hq) (fun _ : Nat => False)) 0 0 (fun _ : Nat => False) := by
  refine Met.ofW (cc := cX2_canJoin) (maxL := 3) (ret := (some .boolean)) (by decide) rfl ?_
  intro p e s m args below meth c s₁ B hml hv
  obtain ⟨rfl, hH, hP, hK, hN⟩ := hv
  subst hH
  have hx := B.exec
  have hb := B.bytes
  have hr := B.returns
  have hts := atoms_spec (ws := wsX2_canJoin) B.pre
  have hown : s.vm.findClass RX2 = some m.cls := findClass_of_methodNamed B.named
  have hlocks := B.notSynchronized
  have hS : va_S (fun _ : Nat => False) s.heap s.heap [] := va_S.rf
  have hl := lv_entry ([.ref dr, .int p0, .int p1]) (n := 3) (Nat.le_of_ble_eq_true rfl)
  rw [lg_entry_eq]
  generalize (lg_sl ([.ref dr, .int p0, .int p1]) ++ List.replicate (3 - (lg_sl ([.ref dr, .int p0, .int p1])).length) Slot.unset).toArray = ls at hl ⊢
  have hl : lv_has ls 3 [(0, .ref dr), (1, .int p0), (2, .int p1)] := hl
  refine lv_iload_n hx hb dX2_canJoin_0 rfl (lv_at hl 1 rfl) ?_
  refine lv_iload_n hx hb dX2_canJoin_1 rfl (lv_at hl 2 rfl) ?_
  refine lv_icmp_eq (tgt := 33) hx hb dX2_canJoin_2 (by decide) (fun c_2 => ?_) (fun c_2 => ?_)
  · skip
    refine lv_iconst (v := 0) hx hb dX2_canJoin_33 (by decide +kernel) ?_
    refine W.widen (k := 0) (n := 0) (Nat.le_of_ble_eq_true rfl) (Nat.le_of_ble_eq_true rfl) ?_
    exact W.zret (v := 0) hx hb hr (mz_nz (by decide +kernel)) (fun t ht hW => ⟨⟨0, (), rfl, Or.inl rfl, ht⟩, hS.F ht⟩) hS.2.2 dX2_canJoin_34
  · skip
    refine lv_aload_n hx hb dX2_canJoin_5 rfl (lv_at hl 0 rfl) ?_
    refine lv_iload_n hx hb dX2_canJoin_6 rfl (lv_at hl 1 rfl) ?_
    have hPc := hP.sub (ws' := [(dr, .inr (2, [.ref dp, .ref dc, .int (nI n)])), (dp, .inl (cI, 8, .inl fp)), (dc, .inl (cI, 8, .inl fc))]) [0, 1, 2] rfl
    refine va_calli (va_runV (As := [.int p0]) (rest := []) ⟨hx, hb, hml, hown, hts⟩ (mz_d_joinedTo l dC dI cI cJ cZ dr dp dc n fp fc p0 s.heap (by first | assumption | omega)) (cwV 1 hts gX2_canJoin_X2_joinedTo rfl rfl rfl (by decide +kernel) ⟨Nat.le_of_ble_eq_true rfl, Nat.le_of_ble_eq_true rfl⟩) ⟨fun a U g mk q => mz_blP q, va_recv hK hPc (ci := 2) (q0 := 0) rfl rfl, fun U hU hW => ⟨rfl, hU, hPc, va_K.moved hW.alike hK, mz_nw hW hN⟩⟩ rfl rfl hl.1 rfl (lv_room (Nat.le_of_ble_eq_true rfl)) dX2_canJoin_7 ⟨Nat.le_of_ble_eq_true rfl, Nat.le_of_ble_eq_true rfl⟩) hS (fun q _ h => h.elim) (fun q h => h.elim) (fun r_7 u t H1 locs ht hvm hw_7 hB hz1 hk1 hS => ?_)
    have hE : s.heap = H1 := hB.symm.trans ht
    subst hE
    refine lv_iload_n hx hb dX2_canJoin_10 rfl (lv_at hl 2 rfl) ?_
    have hPc := hP.sub (ws' := []) [] rfl
    refine va_calli (va_runSN (As := [.int r_7, .int p1]) (rest := []) ⟨hx, hb, hml, hown, hts⟩ (mz_g_inHeap l dC dI cI cJ cZ r_7 p1 s.heap ) ⟨va_cnB (host := "MadeItSo") 2 hts gX2_canJoin_X7_inHeap_n26 rfl rfl rfl (hN (RX2, 26, yX7_inHeap, "MadeItSo") (by decide +kernel)) (hts (.initialized RX7) (by decide +kernel)) (by decide +kernel) ⟨Nat.le_of_ble_eq_true rfl, Nat.le_of_ble_eq_true rfl⟩, hts (.static yX7_inHeap) (by decide +kernel), trivial⟩ ⟨fun a U g mk q => mz_blP q, fun U hU hW => ⟨rfl, hU, hPc, va_K.moved hW.alike hK, mz_nw hW hN⟩⟩ rfl rfl hl.1 rfl (lv_room (Nat.le_of_ble_eq_true rfl)) dX2_canJoin_11 ⟨Nat.le_of_ble_eq_true rfl, Nat.le_of_ble_eq_true rfl⟩) hS (fun q _ h => h.elim) (fun q h => h.elim) (fun r_11 u t H1 locs ht hvm hw_11 hB hz1 hk1 hS => ?_)
    have hE : s.heap = H1 := hB.symm.trans ht
    subst hE
    refine lv_if_ne (tgt := 33) hx hb dX2_canJoin_14 (by decide) (fun c_14 => ?_) (fun c_14 => ?_)
    · skip
      refine lv_iconst (v := 0) hx hb dX2_canJoin_33 (by decide +kernel) ?_
      refine W.widen (k := 0) (n := 0) (Nat.le_of_ble_eq_true rfl) (Nat.le_of_ble_eq_true rfl) ?_
      exact W.zret (v := 0) hx hb hr (mz_nz (by decide +kernel)) (fun t ht hW => ⟨⟨0, (), rfl, Or.inl rfl, ht⟩, hS.F ht⟩) hS.2.2 dX2_canJoin_34
    · skip
      refine lv_aload_n hx hb dX2_canJoin_17 rfl (lv_at hl 0 rfl) ?_
      refine lv_iload_n hx hb dX2_canJoin_18 rfl (lv_at hl 2 rfl) ?_
      have hPc := hP.sub (ws' := [(dr, .inr (2, [.ref dp, .ref dc, .int (nI n)])), (dc, .inl (cI, 8, .inl fc))]) [0, 2] rfl
      refine va_calli (va_runV (As := [.int p1]) (rest := []) ⟨hx, hb, hml, hown, hts⟩ (mz_d_allBelow l dC dI cI cJ cZ dr dp dc n fc p1 s.heap (by first | assumption | omega)) (cwV 1 hts gX2_canJoin_X2_allBelow rfl rfl rfl (by decide +kernel) ⟨Nat.le_of_ble_eq_true rfl, Nat.le_of_ble_eq_true rfl⟩) ⟨fun a U g mk q => mz_blP q, va_recv hK hPc (ci := 2) (q0 := 0) rfl rfl, fun U hU hW => ⟨rfl, hU, hPc, va_K.moved hW.alike hK, mz_nw hW hN⟩⟩ rfl rfl hl.1 rfl (lv_room (Nat.le_of_ble_eq_true rfl)) dX2_canJoin_19 ⟨Nat.le_of_ble_eq_true rfl, Nat.le_of_ble_eq_true rfl⟩) hS (fun q _ h => h.elim) (fun q h => h.elim) (fun r_19 u t H1 locs ht hvm hw_19 hB hz1 hk1 hS => ?_)
      have hE : s.heap = H1 := hB.symm.trans ht
      subst hE
      refine lv_iload_n hx hb dX2_canJoin_22 rfl (lv_at hl 1 rfl) ?_
      have hPc := hP.sub (ws' := []) [] rfl
      refine va_calli (va_runSN (As := [.int r_19, .int p0]) (rest := []) ⟨hx, hb, hml, hown, hts⟩ (mz_g_inHeap l dC dI cI cJ cZ r_19 p0 s.heap ) ⟨va_cnB (host := "MadeItSo") 2 hts gX2_canJoin_X7_inHeap_n26 rfl rfl rfl (hN (RX2, 26, yX7_inHeap, "MadeItSo") (by decide +kernel)) (hts (.initialized RX7) (by decide +kernel)) (by decide +kernel) ⟨Nat.le_of_ble_eq_true rfl, Nat.le_of_ble_eq_true rfl⟩, hts (.static yX7_inHeap) (by decide +kernel), trivial⟩ ⟨fun a U g mk q => mz_blP q, fun U hU hW => ⟨rfl, hU, hPc, va_K.moved hW.alike hK, mz_nw hW hN⟩⟩ rfl rfl hl.1 rfl (lv_room (Nat.le_of_ble_eq_true rfl)) dX2_canJoin_23 ⟨Nat.le_of_ble_eq_true rfl, Nat.le_of_ble_eq_true rfl⟩) hS (fun q _ h => h.elim) (fun q h => h.elim) (fun r_23 u t H1 locs ht hvm hw_23 hB hz1 hk1 hS => ?_)
      have hE : s.heap = H1 := hB.symm.trans ht
      subst hE
      refine lv_if_ne (tgt := 33) hx hb dX2_canJoin_26 (by decide) (fun c_26 => ?_) (fun c_26 => ?_)
      · skip
        refine lv_iconst (v := 0) hx hb dX2_canJoin_33 (by decide +kernel) ?_
        refine W.widen (k := 0) (n := 0) (Nat.le_of_ble_eq_true rfl) (Nat.le_of_ble_eq_true rfl) ?_
        exact W.zret (v := 0) hx hb hr (mz_nz (by decide +kernel)) (fun t ht hW => ⟨⟨0, (), rfl, Or.inl rfl, ht⟩, hS.F ht⟩) hS.2.2 dX2_canJoin_34
      · skip
        refine lv_iconst (v := 1) hx hb dX2_canJoin_29 (by decide +kernel) ?_
        refine lv_goto (tgt := 34) hx hb dX2_canJoin_30 (by decide) ?_
        refine W.widen (k := 0) (n := 0) (Nat.le_of_ble_eq_true rfl) (Nat.le_of_ble_eq_true rfl) ?_
        exact W.zret (v := 1) hx hb hr (mz_nz (by decide +kernel)) (fun t ht hW => ⟨⟨1, (), rfl, Or.inr rfl, ht⟩, hS.F ht⟩) hS.2.2 dX2_canJoin_34
set_option maxHeartbeats 1000000 in
set_option maxRecDepth 100000 in
theorem mz_d_arrows (l : Launch) (dC : Nat → ClassId) (dI : Nat → Nat → Nat) (cI cJ cZ : ClassId) (dr : Nat) (dp : Nat) (dc : Nat) (n : Nat) (fp : Nat → Int32) (Hq : Heap) (hn : n ≤ 8) : Met l yX2_arrows wsX2_arrows ({ frames := 1, cells := 0, slots := 0, locals := 20 }) (va_Pc [.ref dr] (fun U => U.heap = Hq ∧ va_P (dC, dI) vwCl [(dr, .inr (2, [.ref dp, .ref dc, .int (nI n)])), (dp, .inl (cI, 8, .inl fp))] Hq ∧ va_K (dC, dI) vwCl [(cI, FieldType.int), (cJ, FieldType.long), (cZ, FieldType.boolean)] U ∧ mz_N U)) (va_Qi (fun (r : Int32) (_ : Unit) => True) (fun _ t => t.heap = Hq) (fun _ : Nat => False)) 0 0 (fun _ : Nat => False) := by
  refine Met.ofW (cc := cX2_arrows) (maxL := 3) (ret := (some .int)) (by decide) rfl ?_
  intro p e s m args below meth c s₁ B hml hv
  obtain ⟨rfl, hH, hP, hK, hN⟩ := hv
  subst hH
  have hx := B.exec
  have hb := B.bytes
  have hr := B.returns
  have hts := atoms_spec (ws := wsX2_arrows) B.pre
  have hown : s.vm.findClass RX2 = some m.cls := findClass_of_methodNamed B.named
  have hlocks := B.notSynchronized
  have hS : va_S (fun _ : Nat => False) s.heap s.heap [] := va_S.rf
  have hiX2 : ∀ w ∈ u_ws RX2 TX2 3, w ∈ wsX2_arrows := by decide +kernel
  have hl := lv_entry ([.ref dr]) (n := 3) (Nat.le_of_ble_eq_true rfl)
  rw [lg_entry_eq]
  generalize (lg_sl ([.ref dr]) ++ List.replicate (3 - (lg_sl ([.ref dr])).length) Slot.unset).toArray = ls at hl ⊢
  have hl : lv_has ls 3 [(0, .ref dr)] := hl
  refine lv_iconst (v := 0) hx hb dX2_arrows_0 (by decide +kernel) ?_
  refine lv_istore_n (lv' := [(1, .int 0), (0, .ref dr)]) hx hb dX2_arrows_1 rfl hl (by decide) rfl (fun ls hl => ?_)
  refine lv_iconst (v := 0) hx hb dX2_arrows_2 (by decide +kernel) ?_
  refine lv_istore_n (lv' := [(2, .int 0), (1, .int 0), (0, .ref dr)]) hx hb dX2_arrows_3 rfl hl (by decide) rfl (fun ls hl => ?_)
  refine mz_loopU (fun k H locs ls => ∃ (i_4 : Nat), ∃ (x1_4 : Int32), i_4 ≤ n ∧ H = s.heap ∧ va_S (fun _ : Nat => False) s.heap H locs ∧ lv_has ls 3 [(2, .int (nI i_4)), (1, .int x1_4), (0, .ref dr)] ∧ k = n - i_4) ?_ _ _ _ _ ⟨0, 0, by omega, rfl, hS, lv_sub hl [0, 1, 2] rfl, rfl⟩
  intro k_4 H locs ls hI_4 ih_4
  obtain ⟨i_4, x1_4, hi_4, hH_4, hS, hl, hk_4⟩ := hI_4
  subst hH_4
  refine lv_iload_n hx hb dX2_arrows_4 rfl (lv_at hl 0 rfl) ?_
  refine lv_aload_n hx hb dX2_arrows_5 rfl (lv_at hl 2 rfl) ?_
  refine va_get (D := (dC, dI)) (ci := 2) (v := .int (nI n)) (C := RX2) (T := TX2) (N := 3) hx hb hts hiX2 hown hK hP 0 rfl rfl 2 (by decide) (hts (.fieldLink RX2 18 "MadeItSo$Drawing" "things" "I") (by decide +kernel)) (fun _ h9 => h9) rfl dX2_arrows_6 ?_
  refine lv_icmp_ge (tgt := 30) hx hb dX2_arrows_9 (by decide) (fun c_9 => ?_) (fun c_9 => ?_)
  · skip
    have d_9 : n ≤ i_4 := (nI_leI (a := n) (b := i_4) (by omega) (by omega)).mp c_9
    refine lv_iload_n hx hb dX2_arrows_30 rfl (lv_at hl 1 rfl) ?_
    refine W.widen (k := 0) (n := 0) (Nat.le_of_ble_eq_true rfl) (Nat.le_of_ble_eq_true rfl) ?_
    exact W.iret (v := x1_4) hx hb hr (fun t ht hW => ⟨⟨x1_4, (), rfl, trivial, ht⟩, hS.F ht⟩) hS.2.2 dX2_arrows_31
  · skip
    have d_9 : ¬ n ≤ i_4 := fun h => c_9 ((nI_leI (a := n) (b := i_4) (by omega) (by omega)).mpr h)
    refine lv_iload_n hx hb dX2_arrows_12 rfl (lv_at hl 1 rfl) ?_
    refine lv_aload_n hx hb dX2_arrows_13 rfl (lv_at hl 2 rfl) ?_
    refine va_get (D := (dC, dI)) (ci := 2) (v := .ref dp) (C := RX2) (T := TX2) (N := 3) hx hb hts hiX2 hown hK hP 0 rfl rfl 0 (by decide) (hts (.fieldLink RX2 9 "MadeItSo$Drawing" "parents" "[I") (by decide +kernel)) (fun _ h9 => h9) rfl dX2_arrows_14 ?_
    refine lv_iload_n hx hb dX2_arrows_17 rfl (lv_at hl 0 rfl) ?_
    refine va_iald hx hb hK hP 1 0 rfl rfl (vp_in_nI (by omega) (by omega)) dX2_arrows_18 ?_
    refine lv_topi (fun v_18 ev_18 => ?_)
    have hPc := hP.sub (ws' := []) [] rfl
    refine va_calli (va_runS (As := [.int v_18]) (rest := [.int x1_4]) ⟨hx, hb, hml, hown, hts⟩ (mz_g_bitCount l dC dI cI cJ cZ v_18 s.heap ) (va_cwS 1 hts gX2_arrows_J6_bitCount_0f7a4 rfl rfl rfl (by decide +kernel) ⟨Nat.le_of_ble_eq_true rfl, Nat.le_of_ble_eq_true rfl⟩) ⟨fun a U g mk q => mz_blP q, fun U hU hW => ⟨rfl, hU, hPc, va_K.moved hW.alike hK, mz_nw hW hN⟩⟩ rfl rfl hl.1 rfl (lv_room (Nat.le_of_ble_eq_true rfl)) dX2_arrows_19 ⟨Nat.le_of_ble_eq_true rfl, Nat.le_of_ble_eq_true rfl⟩) hS (fun q _ h => h.elim) (fun q h => h.elim) (fun r_19 u t H1 locs ht hvm hw_19 hB hz1 hk1 hS => ?_)
    have hE : s.heap = H1 := hB.symm.trans ht
    subst hE
    refine lv_iadd hx hb dX2_arrows_22 ?_
    refine lv_topi (fun v_22 ev_22 => ?_)
    refine lv_istore_n (lv' := [(1, .int v_22), (2, .int (nI i_4)), (0, .ref dr)]) hx hb dX2_arrows_23 rfl hl (by decide) rfl (fun ls hl => ?_)
    refine lv_iinc (v := (nI (i_4 + 1))) (lv' := [(2, .int (nI (i_4 + 1))), (1, .int v_22), (0, .ref dr)]) hx hb dX2_arrows_24 hl (k := 1) rfl (nI_1 _) (by decide) rfl (fun ls hl => ?_)
    refine lv_goto (tgt := 4) hx hb dX2_arrows_27 (by decide) ?_
    exact ih_4 _ (by omega) _ _ _ ⟨(i_4 + 1), v_22, by omega, rfl, hS, lv_sub hl [0, 1, 2] rfl, rfl⟩
set_option maxHeartbeats 1000000 in
set_option maxRecDepth 100000 in
theorem mz_d_nextAfter (l : Launch) (dC : Nat → ClassId) (dI : Nat → Nat → Nat) (cI cJ cZ : ClassId) (dr : Nat) (dp : Nat) (dc : Nat) (n : Nat) (fp : Nat → Int32) (p0 : Int32) (Hq : Heap) (hn : n ≤ 8) : Met l yX2_nextAfter wsX2_nextAfter ({ frames := 1, cells := 0, slots := 0, locals := 21 }) (va_Pc [.ref dr, .int p0] (fun U => U.heap = Hq ∧ va_P (dC, dI) vwCl [(dr, .inr (2, [.ref dp, .ref dc, .int (nI n)])), (dp, .inl (cI, 8, .inl fp))] Hq ∧ va_K (dC, dI) vwCl [(cI, FieldType.int), (cJ, FieldType.long), (cZ, FieldType.boolean)] U ∧ mz_N U)) (va_Qi (fun (r : Int32) (_ : Unit) => True) (fun _ t => t.heap = Hq) (fun _ : Nat => False)) 0 0 (fun _ : Nat => False) := by
  refine Met.ofW (cc := cX2_nextAfter) (maxL := 3) (ret := (some .int)) (by decide) rfl ?_
  intro p e s m args below meth c s₁ B hml hv
  obtain ⟨rfl, hH, hP, hK, hN⟩ := hv
  subst hH
  have hx := B.exec
  have hb := B.bytes
  have hr := B.returns
  have hts := atoms_spec (ws := wsX2_nextAfter) B.pre
  have hown : s.vm.findClass RX2 = some m.cls := findClass_of_methodNamed B.named
  have hlocks := B.notSynchronized
  have hS : va_S (fun _ : Nat => False) s.heap s.heap [] := va_S.rf
  have hiX2 : ∀ w ∈ u_ws RX2 TX2 3, w ∈ wsX2_nextAfter := by decide +kernel
  have hl := lv_entry ([.ref dr, .int p0]) (n := 3) (Nat.le_of_ble_eq_true rfl)
  rw [lg_entry_eq]
  generalize (lg_sl ([.ref dr, .int p0]) ++ List.replicate (3 - (lg_sl ([.ref dr, .int p0])).length) Slot.unset).toArray = ls at hl ⊢
  have hl : lv_has ls 3 [(0, .ref dr), (1, .int p0)] := hl
  refine lv_iconst (v := 0) hx hb dX2_nextAfter_0 (by decide +kernel) ?_
  refine lv_istore_n (lv' := [(2, .int 0), (0, .ref dr), (1, .int p0)]) hx hb dX2_nextAfter_1 rfl hl (by decide) rfl (fun ls hl => ?_)
  refine mz_loopU (fun k H locs ls => ∃ (i_2 : Nat), i_2 ≤ n ∧ H = s.heap ∧ va_S (fun _ : Nat => False) s.heap H locs ∧ lv_has ls 3 [(2, .int (nI i_2)), (0, .ref dr), (1, .int p0)] ∧ k = n - i_2) ?_ _ _ _ _ ⟨0, by omega, rfl, hS, lv_sub hl [0, 1, 2] rfl, rfl⟩
  intro k_2 H locs ls hI_2 ih_2
  obtain ⟨i_2, hi_2, hH_2, hS, hl, hk_2⟩ := hI_2
  subst hH_2
  refine lv_iload_n hx hb dX2_nextAfter_2 rfl (lv_at hl 0 rfl) ?_
  refine lv_aload_n hx hb dX2_nextAfter_3 rfl (lv_at hl 1 rfl) ?_
  refine va_get (D := (dC, dI)) (ci := 2) (v := .int (nI n)) (C := RX2) (T := TX2) (N := 3) hx hb hts hiX2 hown hK hP 0 rfl rfl 2 (by decide) (hts (.fieldLink RX2 18 "MadeItSo$Drawing" "things" "I") (by decide +kernel)) (fun _ h9 => h9) rfl dX2_nextAfter_4 ?_
  refine lv_icmp_ge (tgt := 39) hx hb dX2_nextAfter_7 (by decide) (fun c_7 => ?_) (fun c_7 => ?_)
  · skip
    have d_7 : n ≤ i_2 := (nI_leI (a := n) (b := i_2) (by omega) (by omega)).mp c_7
    refine lv_iconst (v := (-1)) hx hb dX2_nextAfter_39 (by decide +kernel) ?_
    refine W.widen (k := 0) (n := 0) (Nat.le_of_ble_eq_true rfl) (Nat.le_of_ble_eq_true rfl) ?_
    exact W.iret (v := (-1)) hx hb hr (fun t ht hW => ⟨⟨(-1), (), rfl, trivial, ht⟩, hS.F ht⟩) hS.2.2 dX2_nextAfter_40
  · skip
    have d_7 : ¬ n ≤ i_2 := fun h => c_7 ((nI_leI (a := n) (b := i_2) (by omega) (by omega)).mpr h)
    refine lv_iload_n hx hb dX2_nextAfter_10 rfl (lv_at hl 2 rfl) ?_
    refine lv_iload_n hx hb dX2_nextAfter_11 rfl (lv_at hl 0 rfl) ?_
    have hPc := hP.sub (ws' := []) [] rfl
    refine va_calli (va_runSN (As := [.int p0, .int (nI i_2)]) (rest := []) ⟨hx, hb, hml, hown, hts⟩ (mz_g_inHeap l dC dI cI cJ cZ p0 (nI i_2) s.heap ) ⟨va_cnB (host := "MadeItSo") 2 hts gX2_nextAfter_X7_inHeap_n26 rfl rfl rfl (hN (RX2, 26, yX7_inHeap, "MadeItSo") (by decide +kernel)) (hts (.initialized RX7) (by decide +kernel)) (by decide +kernel) ⟨Nat.le_of_ble_eq_true rfl, Nat.le_of_ble_eq_true rfl⟩, hts (.static yX7_inHeap) (by decide +kernel), trivial⟩ ⟨fun a U g mk q => mz_blP q, fun U hU hW => ⟨rfl, hU, hPc, va_K.moved hW.alike hK, mz_nw hW hN⟩⟩ rfl rfl hl.1 rfl (lv_room (Nat.le_of_ble_eq_true rfl)) dX2_nextAfter_12 ⟨Nat.le_of_ble_eq_true rfl, Nat.le_of_ble_eq_true rfl⟩) hS (fun q _ h => h.elim) (fun q h => h.elim) (fun r_12 u t H1 locs ht hvm hw_12 hB hz1 hk1 hS => ?_)
    have hE : s.heap = H1 := hB.symm.trans ht
    subst hE
    refine lv_if_ne (tgt := 33) hx hb dX2_nextAfter_15 (by decide) (fun c_15 => ?_) (fun c_15 => ?_)
    · skip
      refine lv_iinc (v := (nI (i_2 + 1))) (lv' := [(2, .int (nI (i_2 + 1))), (0, .ref dr), (1, .int p0)]) hx hb dX2_nextAfter_33 hl (k := 0) rfl (nI_1 _) (by decide) rfl (fun ls hl => ?_)
      refine lv_goto (tgt := 2) hx hb dX2_nextAfter_36 (by decide) ?_
      exact ih_2 _ (by omega) _ _ _ ⟨(i_2 + 1), by omega, rfl, hS, lv_sub hl [0, 1, 2] rfl, rfl⟩
    · skip
      refine lv_aload_n hx hb dX2_nextAfter_18 rfl (lv_at hl 1 rfl) ?_
      refine va_get (D := (dC, dI)) (ci := 2) (v := .ref dp) (C := RX2) (T := TX2) (N := 3) hx hb hts hiX2 hown hK hP 0 rfl rfl 0 (by decide) (hts (.fieldLink RX2 9 "MadeItSo$Drawing" "parents" "[I") (by decide +kernel)) (fun _ h9 => h9) rfl dX2_nextAfter_19 ?_
      refine lv_iload_n hx hb dX2_nextAfter_22 rfl (lv_at hl 0 rfl) ?_
      refine va_iald hx hb hK hP 1 0 rfl rfl (vp_in_nI (by omega) (by omega)) dX2_nextAfter_23 ?_
      refine lv_topi (fun v_23 ev_23 => ?_)
      refine lv_iload_n hx hb dX2_nextAfter_24 rfl (lv_at hl 2 rfl) ?_
      refine lv_iconst (v := (-1)) hx hb dX2_nextAfter_25 (by decide +kernel) ?_
      refine lv_ixor hx hb dX2_nextAfter_26 ?_
      refine lv_topi (fun v_26 ev_26 => ?_)
      refine lv_iand hx hb dX2_nextAfter_27 ?_
      refine lv_topi (fun v_27 ev_27 => ?_)
      refine lv_if_ne (tgt := 33) hx hb dX2_nextAfter_28 (by decide) (fun c_28 => ?_) (fun c_28 => ?_)
      · skip
        refine lv_iinc (v := (nI (i_2 + 1))) (lv' := [(2, .int (nI (i_2 + 1))), (0, .ref dr), (1, .int p0)]) hx hb dX2_nextAfter_33 hl (k := 0) rfl (nI_1 _) (by decide) rfl (fun ls hl => ?_)
        refine lv_goto (tgt := 2) hx hb dX2_nextAfter_36 (by decide) ?_
        exact ih_2 _ (by omega) _ _ _ ⟨(i_2 + 1), by omega, rfl, hS, lv_sub hl [0, 1, 2] rfl, rfl⟩
      · skip
        refine lv_iload_n hx hb dX2_nextAfter_31 rfl (lv_at hl 0 rfl) ?_
        refine W.widen (k := 0) (n := 0) (Nat.le_of_ble_eq_true rfl) (Nat.le_of_ble_eq_true rfl) ?_
        exact W.iret (v := (nI i_2)) hx hb hr (fun t ht hW => ⟨⟨(nI i_2), (), rfl, trivial, ht⟩, hS.F ht⟩) hS.2.2 dX2_nextAfter_32
set_option maxHeartbeats 1000000 in
set_option maxRecDepth 100000 in
theorem mz_d_barred (l : Launch) (dC : Nat → ClassId) (dI : Nat → Nat → Nat) (cI cJ cZ : ClassId) (dr : Nat) (dp : Nat) (dc : Nat) (n : Nat) (fp : Nat → Int32) (fc : Nat → Int32) (p0 : Int32) (p1 : Int32) (p2 : Int32) (Hq : Heap)  : Met l yX2_barred wsX2_barred ({ frames := 3, cells := 0, slots := 0, locals := 69 }) (va_Pc [.ref dr, .int p0, .int p1, .int p2] (fun U => U.heap = Hq ∧ va_P (dC, dI) vwCl [(dr, .inr (2, [.ref dp, .ref dc, .int (nI n)])), (dp, .inl (cI, 8, .inl fp)), (dc, .inl (cI, 8, .inl fc))] Hq ∧ va_K (dC, dI) vwCl [(cI, FieldType.int), (cJ, FieldType.long), (cZ, FieldType.boolean)] U ∧ mz_N U)) (va_Qi (fun (r : Int32) (_ : Unit) => r = 0 ∨ r = 1) (fun _ t => t.heap = Hq) (fun _ : Nat => False)) 0 0 (fun _ : Nat => False) := by
  refine Met.ofW (cc := cX2_barred) (maxL := 12) (ret := (some .boolean)) (by decide) rfl ?_
  intro p e s m args below meth c s₁ B hml hv
  obtain ⟨rfl, hH, hP, hK, hN⟩ := hv
  subst hH
  have hx := B.exec
  have hb := B.bytes
  have hr := B.returns
  have hts := atoms_spec (ws := wsX2_barred) B.pre
  have hown : s.vm.findClass RX2 = some m.cls := findClass_of_methodNamed B.named
  have hlocks := B.notSynchronized
  have hS : va_S (fun _ : Nat => False) s.heap s.heap [] := va_S.rf
  have hiX2 : ∀ w ∈ u_ws RX2 TX2 3, w ∈ wsX2_barred := by decide +kernel
  have hl := lv_entry ([.ref dr, .int p0, .int p1, .int p2]) (n := 12) (Nat.le_of_ble_eq_true rfl)
  rw [lg_entry_eq]
  generalize (lg_sl ([.ref dr, .int p0, .int p1, .int p2]) ++ List.replicate (12 - (lg_sl ([.ref dr, .int p0, .int p1, .int p2])).length) Slot.unset).toArray = ls at hl ⊢
  have hl : lv_has ls 12 [(0, .ref dr), (1, .int p0), (2, .int p1), (3, .int p2)] := hl
  refine lv_aload_n hx hb dX2_barred_0 rfl (lv_at hl 0 rfl) ?_
  refine lv_iload_n hx hb dX2_barred_1 rfl (lv_at hl 3 rfl) ?_
  refine lv_aload_n hx hb dX2_barred_2 rfl (lv_at hl 0 rfl) ?_
  refine va_get (D := (dC, dI)) (ci := 2) (v := .ref dp) (C := RX2) (T := TX2) (N := 3) hx hb hts hiX2 hown hK hP 0 rfl rfl 0 (by decide) (hts (.fieldLink RX2 9 "MadeItSo$Drawing" "parents" "[I") (by decide +kernel)) (fun _ h9 => h9) rfl dX2_barred_3 ?_
  have hPc := hP.sub (ws' := [(dr, .inr (2, [.ref dp, .ref dc, .int (nI n)])), (dp, .inl (cI, 8, .inl fp))]) [0, 1] rfl
  refine va_calli (va_runV (As := [.int p2, .ref dp]) (rest := []) ⟨hx, hb, hml, hown, hts⟩ (mz_d_spread_p l dC dI cI cJ cZ dr dp dc n fp p2 s.heap ) (cwV 2 hts gX2_barred_X2_spread rfl rfl rfl (by decide +kernel) ⟨Nat.le_of_ble_eq_true rfl, Nat.le_of_ble_eq_true rfl⟩) ⟨fun a U g mk q => mz_blP q, va_recv hK hPc (ci := 2) (q0 := 0) rfl rfl, fun U hU hW => ⟨rfl, hU, hPc, va_K.moved hW.alike hK, mz_nw hW hN⟩⟩ rfl rfl hl.1 rfl (lv_room (Nat.le_of_ble_eq_true rfl)) dX2_barred_6 ⟨Nat.le_of_ble_eq_true rfl, Nat.le_of_ble_eq_true rfl⟩) hS (fun q _ h => h.elim) (fun q h => h.elim) (fun r_6 u t H1 locs ht hvm hw_6 hB hz1 hk1 hS => ?_)
  have hE : s.heap = H1 := hB.symm.trans ht
  subst hE
  refine lv_istore (lv' := [(4, .int r_6), (0, .ref dr), (1, .int p0), (2, .int p1), (3, .int p2)]) hx hb dX2_barred_9 hl (by decide) rfl (fun ls hl => ?_)
  refine lv_iload_n hx hb dX2_barred_11 rfl (lv_at hl 2 rfl) ?_
  refine lv_istore (lv' := [(5, .int p0), (4, .int r_6), (0, .ref dr), (1, .int p0), (2, .int p1), (3, .int p2)]) hx hb dX2_barred_12 hl (by decide) rfl (fun ls hl => ?_)
  refine lv_iconst (v := 0) hx hb dX2_barred_14 (by decide +kernel) ?_
  refine lv_istore (lv' := [(6, .int 0), (5, .int p0), (4, .int r_6), (0, .ref dr), (1, .int p0), (2, .int p1), (3, .int p2)]) hx hb dX2_barred_15 hl (by decide) rfl (fun ls hl => ?_)
  refine lv_iconst (v := 0) hx hb dX2_barred_17 (by decide +kernel) ?_
  refine lv_istore (lv' := [(7, .int 0), (6, .int 0), (5, .int p0), (4, .int r_6), (0, .ref dr), (1, .int p0), (2, .int p1), (3, .int p2)]) hx hb dX2_barred_18 hl (by decide) rfl (fun ls hl => ?_)
  refine mz_loopU (fun k H locs ls => ∃ (i_20 : Nat), ∃ (x6_20 : Int32), ∃ (x5_20 : Int32), i_20 ≤ 16 ∧ H = s.heap ∧ va_S (fun _ : Nat => False) s.heap H locs ∧ lv_has ls 12 [(7, .int (nI i_20)), (6, .int x6_20), (5, .int x5_20), (4, .int r_6), (0, .ref dr), (1, .int p0), (2, .int p1), (3, .int p2)] ∧ k = 16 - i_20) ?_ _ _ _ _ ⟨0, 0, p0, by omega, rfl, hS, lv_sub hl [0, 1, 2, 3, 4, 5, 6, 7] rfl, rfl⟩
  intro k_20 H locs ls hI_20 ih_20
  obtain ⟨i_20, x6_20, x5_20, hi_20, hH_20, hS, hl, hk_20⟩ := hI_20
  subst hH_20
  refine lv_iload hx hb dX2_barred_20 (lv_at hl 0 rfl) ?_
  refine lv_bipush (v := 16) hx hb dX2_barred_22 (by decide +kernel) ?_
  refine lv_icmp_ge (tgt := 111) hx hb dX2_barred_24 (by decide) (fun c_24 => ?_) (fun c_24 => ?_)
  · skip
    have d_24 : 16 ≤ i_20 := (nI_leI (a := 16) (b := i_20) (by omega) (by omega)).mp c_24
    refine lv_iload hx hb dX2_barred_111 (lv_at hl 2 rfl) ?_
    refine lv_iload hx hb dX2_barred_113 (lv_at hl 1 rfl) ?_
    refine lv_ior hx hb dX2_barred_115 ?_
    refine lv_topi (fun v_115 ev_115 => ?_)
    refine lv_iload_n hx hb dX2_barred_116 rfl (lv_at hl 6 rfl) ?_
    refine lv_iand hx hb dX2_barred_117 ?_
    refine lv_topi (fun v_117 ev_117 => ?_)
    refine lv_if_ne (tgt := 125) hx hb dX2_barred_118 (by decide) (fun c_118 => ?_) (fun c_118 => ?_)
    · skip
      refine lv_iconst (v := 0) hx hb dX2_barred_125 (by decide +kernel) ?_
      refine W.widen (k := 0) (n := 0) (Nat.le_of_ble_eq_true rfl) (Nat.le_of_ble_eq_true rfl) ?_
      exact W.zret (v := 0) hx hb hr (mz_nz (by decide +kernel)) (fun t ht hW => ⟨⟨0, (), rfl, Or.inl rfl, ht⟩, hS.F ht⟩) hS.2.2 dX2_barred_126
    · skip
      refine lv_iconst (v := 1) hx hb dX2_barred_121 (by decide +kernel) ?_
      refine lv_goto (tgt := 126) hx hb dX2_barred_122 (by decide) ?_
      refine W.widen (k := 0) (n := 0) (Nat.le_of_ble_eq_true rfl) (Nat.le_of_ble_eq_true rfl) ?_
      exact W.zret (v := 1) hx hb hr (mz_nz (by decide +kernel)) (fun t ht hW => ⟨⟨1, (), rfl, Or.inr rfl, ht⟩, hS.F ht⟩) hS.2.2 dX2_barred_126
  · skip
    have d_24 : ¬ 16 ≤ i_20 := fun h => c_24 ((nI_leI (a := 16) (b := i_20) (by omega) (by omega)).mpr h)
    refine lv_iload hx hb dX2_barred_27 (lv_at hl 2 rfl) ?_
    refine lv_iload_n hx hb dX2_barred_29 rfl (lv_at hl 7 rfl) ?_
    refine lv_iconst (v := (-1)) hx hb dX2_barred_30 (by decide +kernel) ?_
    refine lv_ixor hx hb dX2_barred_31 ?_
    refine lv_topi (fun v_31 ev_31 => ?_)
    refine lv_iand hx hb dX2_barred_32 ?_
    refine lv_topi (fun v_32 ev_32 => ?_)
    refine lv_iload hx hb dX2_barred_33 (lv_at hl 1 rfl) ?_
    refine lv_iload hx hb dX2_barred_35 (lv_at hl 3 rfl) ?_
    refine lv_iand hx hb dX2_barred_37 ?_
    refine lv_topi (fun v_37 ev_37 => ?_)
    refine lv_ior hx hb dX2_barred_38 ?_
    refine lv_topi (fun v_38 ev_38 => ?_)
    refine lv_istore (lv' := [(8, .int v_38), (7, .int (nI i_20)), (6, .int x6_20), (5, .int x5_20), (4, .int r_6), (0, .ref dr), (1, .int p0), (2, .int p1), (3, .int p2)]) hx hb dX2_barred_39 hl (by decide) rfl (fun ls hl => ?_)
    refine lv_iload hx hb dX2_barred_41 (lv_at hl 3 rfl) ?_
    refine lv_iload hx hb dX2_barred_43 (lv_at hl 2 rfl) ?_
    refine lv_ior hx hb dX2_barred_45 ?_
    refine lv_topi (fun v_45 ev_45 => ?_)
    refine lv_iload_n hx hb dX2_barred_46 rfl (lv_at hl 8 rfl) ?_
    refine lv_iconst (v := (-1)) hx hb dX2_barred_47 (by decide +kernel) ?_
    refine lv_ixor hx hb dX2_barred_48 ?_
    refine lv_topi (fun v_48 ev_48 => ?_)
    refine lv_iand hx hb dX2_barred_49 ?_
    refine lv_topi (fun v_49 ev_49 => ?_)
    refine lv_istore (lv' := [(9, .int v_49), (8, .int v_38), (7, .int (nI i_20)), (6, .int x6_20), (5, .int x5_20), (4, .int r_6), (0, .ref dr), (1, .int p0), (2, .int p1), (3, .int p2)]) hx hb dX2_barred_50 hl (by decide) rfl (fun ls hl => ?_)
    refine lv_iload hx hb dX2_barred_52 (lv_at hl 4 rfl) ?_
    refine lv_iload hx hb dX2_barred_54 (lv_at hl 1 rfl) ?_
    refine lv_aload_n hx hb dX2_barred_56 rfl (lv_at hl 6 rfl) ?_
    refine va_get (D := (dC, dI)) (ci := 2) (v := .ref dp) (C := RX2) (T := TX2) (N := 3) hx hb hts hiX2 hown hK hP 0 rfl rfl 0 (by decide) (hts (.fieldLink RX2 9 "MadeItSo$Drawing" "parents" "[I") (by decide +kernel)) (fun _ h9 => h9) rfl dX2_barred_57 ?_
    have hPc := hP.sub (ws' := [(dp, .inl (cI, 8, .inl fp))]) [1] rfl
    refine va_calli (va_runS (As := [.int v_38, .ref dp]) (rest := [.int x5_20]) ⟨hx, hb, hml, hown, hts⟩ (mz_d_gather l dC dI cI cJ cZ dp fp v_38 s.heap ) (va_cwS 2 hts gX2_barred_X2_gather rfl rfl rfl (by decide +kernel) ⟨Nat.le_of_ble_eq_true rfl, Nat.le_of_ble_eq_true rfl⟩) ⟨fun a U g mk q => mz_blP q, fun U hU hW => ⟨rfl, hU, hPc, va_K.moved hW.alike hK, mz_nw hW hN⟩⟩ rfl rfl hl.1 rfl (lv_room (Nat.le_of_ble_eq_true rfl)) dX2_barred_60 ⟨Nat.le_of_ble_eq_true rfl, Nat.le_of_ble_eq_true rfl⟩) hS (fun q _ h => h.elim) (fun q h => h.elim) (fun r_60 u t H1 locs ht hvm hw_60 hB hz1 hk1 hS => ?_)
    have hE : s.heap = H1 := hB.symm.trans ht
    subst hE
    refine lv_ior hx hb dX2_barred_63 ?_
    refine lv_topi (fun v_63 ev_63 => ?_)
    refine lv_istore (lv' := [(10, .int v_63), (9, .int v_49), (8, .int v_38), (7, .int (nI i_20)), (6, .int x6_20), (5, .int x5_20), (4, .int r_6), (0, .ref dr), (1, .int p0), (2, .int p1), (3, .int p2)]) hx hb dX2_barred_64 hl (by decide) rfl (fun ls hl => ?_)
    refine lv_iload hx hb dX2_barred_66 (lv_at hl 4 rfl) ?_
    refine lv_iload hx hb dX2_barred_68 (lv_at hl 1 rfl) ?_
    refine lv_aload_n hx hb dX2_barred_70 rfl (lv_at hl 7 rfl) ?_
    refine va_get (D := (dC, dI)) (ci := 2) (v := .ref dc) (C := RX2) (T := TX2) (N := 3) hx hb hts hiX2 hown hK hP 0 rfl rfl 1 (by decide) (hts (.fieldLink RX2 15 "MadeItSo$Drawing" "children" "[I") (by decide +kernel)) (fun _ h9 => h9) rfl dX2_barred_71 ?_
    have hPc := hP.sub (ws' := [(dc, .inl (cI, 8, .inl fc))]) [2] rfl
    refine va_calli (va_runS (As := [.int v_49, .ref dc]) (rest := [.int x6_20]) ⟨hx, hb, hml, hown, hts⟩ (mz_d_gather l dC dI cI cJ cZ dc fc v_49 s.heap ) (va_cwS 2 hts gX2_barred_X2_gather rfl rfl rfl (by decide +kernel) ⟨Nat.le_of_ble_eq_true rfl, Nat.le_of_ble_eq_true rfl⟩) ⟨fun a U g mk q => mz_blP q, fun U hU hW => ⟨rfl, hU, hPc, va_K.moved hW.alike hK, mz_nw hW hN⟩⟩ rfl rfl hl.1 rfl (lv_room (Nat.le_of_ble_eq_true rfl)) dX2_barred_74 ⟨Nat.le_of_ble_eq_true rfl, Nat.le_of_ble_eq_true rfl⟩) hS (fun q _ h => h.elim) (fun q h => h.elim) (fun r_74 u t H1 locs ht hvm hw_74 hB hz1 hk1 hS => ?_)
    have hE : s.heap = H1 := hB.symm.trans ht
    subst hE
    refine lv_ior hx hb dX2_barred_77 ?_
    refine lv_topi (fun v_77 ev_77 => ?_)
    refine lv_istore (lv' := [(11, .int v_77), (10, .int v_63), (9, .int v_49), (8, .int v_38), (7, .int (nI i_20)), (6, .int x6_20), (5, .int x5_20), (4, .int r_6), (0, .ref dr), (1, .int p0), (2, .int p1), (3, .int p2)]) hx hb dX2_barred_78 hl (by decide) rfl (fun ls hl => ?_)
    refine lv_iload hx hb dX2_barred_80 (lv_at hl 1 rfl) ?_
    refine lv_iload hx hb dX2_barred_82 (lv_at hl 6 rfl) ?_
    refine lv_icmp_ne (tgt := 97) hx hb dX2_barred_84 (by decide) (fun c_84 => ?_) (fun c_84 => ?_)
    · skip
      refine lv_iload hx hb dX2_barred_97 (lv_at hl 1 rfl) ?_
      refine lv_istore (lv' := [(5, .int v_63), (11, .int v_77), (10, .int v_63), (9, .int v_49), (8, .int v_38), (7, .int (nI i_20)), (6, .int x6_20), (4, .int r_6), (0, .ref dr), (1, .int p0), (2, .int p1), (3, .int p2)]) hx hb dX2_barred_99 hl (by decide) rfl (fun ls hl => ?_)
      refine lv_iload hx hb dX2_barred_101 (lv_at hl 1 rfl) ?_
      refine lv_istore (lv' := [(6, .int v_77), (5, .int v_63), (11, .int v_77), (10, .int v_63), (9, .int v_49), (8, .int v_38), (7, .int (nI i_20)), (4, .int r_6), (0, .ref dr), (1, .int p0), (2, .int p1), (3, .int p2)]) hx hb dX2_barred_103 hl (by decide) rfl (fun ls hl => ?_)
      refine lv_iinc (v := (nI (i_20 + 1))) (lv' := [(7, .int (nI (i_20 + 1))), (6, .int v_77), (5, .int v_63), (11, .int v_77), (10, .int v_63), (9, .int v_49), (8, .int v_38), (4, .int r_6), (0, .ref dr), (1, .int p0), (2, .int p1), (3, .int p2)]) hx hb dX2_barred_105 hl (k := 6) rfl (nI_1 _) (by decide) rfl (fun ls hl => ?_)
      refine lv_goto (tgt := 20) hx hb dX2_barred_108 (by decide) ?_
      exact ih_20 _ (by omega) _ _ _ ⟨(i_20 + 1), v_77, v_63, by omega, rfl, hS, lv_sub hl [0, 1, 2, 7, 8, 9, 10, 11] rfl, rfl⟩
    · skip
      refine lv_iload hx hb dX2_barred_87 (lv_at hl 0 rfl) ?_
      refine lv_iload hx hb dX2_barred_89 (lv_at hl 5 rfl) ?_
      refine lv_icmp_ne (tgt := 97) hx hb dX2_barred_91 (by decide) (fun c_91 => ?_) (fun c_91 => ?_)
      · skip
        refine lv_iload hx hb dX2_barred_97 (lv_at hl 1 rfl) ?_
        refine lv_istore (lv' := [(5, .int v_63), (11, .int v_77), (10, .int v_63), (9, .int v_49), (8, .int v_38), (7, .int (nI i_20)), (6, .int x6_20), (4, .int r_6), (0, .ref dr), (1, .int p0), (2, .int p1), (3, .int p2)]) hx hb dX2_barred_99 hl (by decide) rfl (fun ls hl => ?_)
        refine lv_iload hx hb dX2_barred_101 (lv_at hl 1 rfl) ?_
        refine lv_istore (lv' := [(6, .int v_77), (5, .int v_63), (11, .int v_77), (10, .int v_63), (9, .int v_49), (8, .int v_38), (7, .int (nI i_20)), (4, .int r_6), (0, .ref dr), (1, .int p0), (2, .int p1), (3, .int p2)]) hx hb dX2_barred_103 hl (by decide) rfl (fun ls hl => ?_)
        refine lv_iinc (v := (nI (i_20 + 1))) (lv' := [(7, .int (nI (i_20 + 1))), (6, .int v_77), (5, .int v_63), (11, .int v_77), (10, .int v_63), (9, .int v_49), (8, .int v_38), (4, .int r_6), (0, .ref dr), (1, .int p0), (2, .int p1), (3, .int p2)]) hx hb dX2_barred_105 hl (k := 6) rfl (nI_1 _) (by decide) rfl (fun ls hl => ?_)
        refine lv_goto (tgt := 20) hx hb dX2_barred_108 (by decide) ?_
        exact ih_20 _ (by omega) _ _ _ ⟨(i_20 + 1), v_77, v_63, by omega, rfl, hS, lv_sub hl [0, 1, 2, 7, 8, 9, 10, 11] rfl, rfl⟩
      · skip
        refine lv_goto (tgt := 111) hx hb dX2_barred_94 (by decide) ?_
        refine lv_iload hx hb dX2_barred_111 (lv_at hl 6 rfl) ?_
        refine lv_iload hx hb dX2_barred_113 (lv_at hl 5 rfl) ?_
        refine lv_ior hx hb dX2_barred_115 ?_
        refine lv_topi (fun v_115 ev_115 => ?_)
        refine lv_iload_n hx hb dX2_barred_116 rfl (lv_at hl 10 rfl) ?_
        refine lv_iand hx hb dX2_barred_117 ?_
        refine lv_topi (fun v_117 ev_117 => ?_)
        refine lv_if_ne (tgt := 125) hx hb dX2_barred_118 (by decide) (fun c_118 => ?_) (fun c_118 => ?_)
        · skip
          refine lv_iconst (v := 0) hx hb dX2_barred_125 (by decide +kernel) ?_
          refine W.widen (k := 0) (n := 0) (Nat.le_of_ble_eq_true rfl) (Nat.le_of_ble_eq_true rfl) ?_
          exact W.zret (v := 0) hx hb hr (mz_nz (by decide +kernel)) (fun t ht hW => ⟨⟨0, (), rfl, Or.inl rfl, ht⟩, hS.F ht⟩) hS.2.2 dX2_barred_126
        · skip
          refine lv_iconst (v := 1) hx hb dX2_barred_121 (by decide +kernel) ?_
          refine lv_goto (tgt := 126) hx hb dX2_barred_122 (by decide) ?_
          refine W.widen (k := 0) (n := 0) (Nat.le_of_ble_eq_true rfl) (Nat.le_of_ble_eq_true rfl) ?_
          exact W.zret (v := 1) hx hb hr (mz_nz (by decide +kernel)) (fun t ht hW => ⟨⟨1, (), rfl, Or.inr rfl, ht⟩, hS.F ht⟩) hS.2.2 dX2_barred_126
set_option maxHeartbeats 1000000 in
set_option maxRecDepth 100000 in
theorem mz_d_apart (l : Launch) (dC : Nat → ClassId) (dI : Nat → Nat → Nat) (cI cJ cZ : ClassId) (dr : Nat) (dp : Nat) (dc : Nat) (n : Nat) (fp : Nat → Int32) (fc : Nat → Int32) (p0 : Int32) (Hq : Heap) (hn : n ≤ 8) : Met l yX2_apart wsX2_apart ({ frames := 2, cells := 0, slots := 0, locals := 42 }) (va_Pc [.ref dr, .int p0] (fun U => U.heap = Hq ∧ va_P (dC, dI) vwCl [(dr, .inr (2, [.ref dp, .ref dc, .int (nI n)])), (dp, .inl (cI, 8, .inl fp)), (dc, .inl (cI, 8, .inl fc))] Hq ∧ va_K (dC, dI) vwCl [(cI, FieldType.int), (cJ, FieldType.long), (cZ, FieldType.boolean)] U ∧ mz_N U)) (va_Qi (fun (r : Int32) (_ : Unit) => r = 0 ∨ r = 1) (fun _ t => t.heap = Hq) (fun _ : Nat => False)) 0 0 (fun _ : Nat => False) := by
  refine Met.ofW (cc := cX2_apart) (maxL := 3) (ret := (some .boolean)) (by decide) rfl ?_
  intro p e s m args below meth c s₁ B hml hv
  obtain ⟨rfl, hH, hP, hK, hN⟩ := hv
  subst hH
  have hx := B.exec
  have hb := B.bytes
  have hr := B.returns
  have hts := atoms_spec (ws := wsX2_apart) B.pre
  have hown : s.vm.findClass RX2 = some m.cls := findClass_of_methodNamed B.named
  have hlocks := B.notSynchronized
  have hS : va_S (fun _ : Nat => False) s.heap s.heap [] := va_S.rf
  have hiX2 : ∀ w ∈ u_ws RX2 TX2 3, w ∈ wsX2_apart := by decide +kernel
  have hl := lv_entry ([.ref dr, .int p0]) (n := 3) (Nat.le_of_ble_eq_true rfl)
  rw [lg_entry_eq]
  generalize (lg_sl ([.ref dr, .int p0]) ++ List.replicate (3 - (lg_sl ([.ref dr, .int p0])).length) Slot.unset).toArray = ls at hl ⊢
  have hl : lv_has ls 3 [(0, .ref dr), (1, .int p0)] := hl
  refine lv_iconst (v := 0) hx hb dX2_apart_0 (by decide +kernel) ?_
  refine lv_istore_n (lv' := [(2, .int 0), (0, .ref dr), (1, .int p0)]) hx hb dX2_apart_1 rfl hl (by decide) rfl (fun ls hl => ?_)
  refine mz_loopU (fun k H locs ls => ∃ (i_2 : Nat), i_2 ≤ n ∧ H = s.heap ∧ va_S (fun _ : Nat => False) s.heap H locs ∧ lv_has ls 3 [(2, .int (nI i_2)), (0, .ref dr), (1, .int p0)] ∧ k = n - i_2) ?_ _ _ _ _ ⟨0, by omega, rfl, hS, lv_sub hl [0, 1, 2] rfl, rfl⟩
  intro k_2 H locs ls hI_2 ih_2
  obtain ⟨i_2, hi_2, hH_2, hS, hl, hk_2⟩ := hI_2
  subst hH_2
  refine lv_iload_n hx hb dX2_apart_2 rfl (lv_at hl 0 rfl) ?_
  refine lv_aload_n hx hb dX2_apart_3 rfl (lv_at hl 1 rfl) ?_
  refine va_get (D := (dC, dI)) (ci := 2) (v := .int (nI n)) (C := RX2) (T := TX2) (N := 3) hx hb hts hiX2 hown hK hP 0 rfl rfl 2 (by decide) (hts (.fieldLink RX2 18 "MadeItSo$Drawing" "things" "I") (by decide +kernel)) (fun _ h9 => h9) rfl dX2_apart_4 ?_
  refine lv_icmp_ge (tgt := 36) hx hb dX2_apart_7 (by decide) (fun c_7 => ?_) (fun c_7 => ?_)
  · skip
    have d_7 : n ≤ i_2 := (nI_leI (a := n) (b := i_2) (by omega) (by omega)).mp c_7
    refine lv_iconst (v := 1) hx hb dX2_apart_36 (by decide +kernel) ?_
    refine W.widen (k := 0) (n := 0) (Nat.le_of_ble_eq_true rfl) (Nat.le_of_ble_eq_true rfl) ?_
    exact W.zret (v := 1) hx hb hr (mz_nz (by decide +kernel)) (fun t ht hW => ⟨⟨1, (), rfl, Or.inr rfl, ht⟩, hS.F ht⟩) hS.2.2 dX2_apart_37
  · skip
    have d_7 : ¬ n ≤ i_2 := fun h => c_7 ((nI_leI (a := n) (b := i_2) (by omega) (by omega)).mpr h)
    refine lv_iload_n hx hb dX2_apart_10 rfl (lv_at hl 2 rfl) ?_
    refine lv_iload_n hx hb dX2_apart_11 rfl (lv_at hl 0 rfl) ?_
    have hPc := hP.sub (ws' := []) [] rfl
    refine va_calli (va_runSN (As := [.int p0, .int (nI i_2)]) (rest := []) ⟨hx, hb, hml, hown, hts⟩ (mz_g_inHeap l dC dI cI cJ cZ p0 (nI i_2) s.heap ) ⟨va_cnB (host := "MadeItSo") 2 hts gX2_apart_X7_inHeap_n26 rfl rfl rfl (hN (RX2, 26, yX7_inHeap, "MadeItSo") (by decide +kernel)) (hts (.initialized RX7) (by decide +kernel)) (by decide +kernel) ⟨Nat.le_of_ble_eq_true rfl, Nat.le_of_ble_eq_true rfl⟩, hts (.static yX7_inHeap) (by decide +kernel), trivial⟩ ⟨fun a U g mk q => mz_blP q, fun U hU hW => ⟨rfl, hU, hPc, va_K.moved hW.alike hK, mz_nw hW hN⟩⟩ rfl rfl hl.1 rfl (lv_room (Nat.le_of_ble_eq_true rfl)) dX2_apart_12 ⟨Nat.le_of_ble_eq_true rfl, Nat.le_of_ble_eq_true rfl⟩) hS (fun q _ h => h.elim) (fun q h => h.elim) (fun r_12 u t H1 locs ht hvm hw_12 hB hz1 hk1 hS => ?_)
    have hE : s.heap = H1 := hB.symm.trans ht
    subst hE
    refine lv_if_eq (tgt := 30) hx hb dX2_apart_15 (by decide) (fun c_15 => ?_) (fun c_15 => ?_)
    · skip
      refine lv_iinc (v := (nI (i_2 + 1))) (lv' := [(2, .int (nI (i_2 + 1))), (0, .ref dr), (1, .int p0)]) hx hb dX2_apart_30 hl (k := 0) rfl (nI_1 _) (by decide) rfl (fun ls hl => ?_)
      refine lv_goto (tgt := 2) hx hb dX2_apart_33 (by decide) ?_
      exact ih_2 _ (by omega) _ _ _ ⟨(i_2 + 1), by omega, rfl, hS, lv_sub hl [0, 1, 2] rfl, rfl⟩
    · skip
      refine lv_aload_n hx hb dX2_apart_18 rfl (lv_at hl 1 rfl) ?_
      refine lv_iload_n hx hb dX2_apart_19 rfl (lv_at hl 0 rfl) ?_
      have hPc := hP.sub (ws' := [(dr, .inr (2, [.ref dp, .ref dc, .int (nI n)])), (dp, .inl (cI, 8, .inl fp)), (dc, .inl (cI, 8, .inl fc))]) [0, 1, 2] rfl
      refine va_calli (va_runV (As := [.int (nI i_2)]) (rest := []) ⟨hx, hb, hml, hown, hts⟩ (mz_d_joinedTo l dC dI cI cJ cZ dr dp dc n fp fc (nI i_2) s.heap (by first | assumption | omega)) (cwV 1 hts gX2_apart_X2_joinedTo rfl rfl rfl (by decide +kernel) ⟨Nat.le_of_ble_eq_true rfl, Nat.le_of_ble_eq_true rfl⟩) ⟨fun a U g mk q => mz_blP q, va_recv hK hPc (ci := 2) (q0 := 0) rfl rfl, fun U hU hW => ⟨rfl, hU, hPc, va_K.moved hW.alike hK, mz_nw hW hN⟩⟩ rfl rfl hl.1 rfl (lv_room (Nat.le_of_ble_eq_true rfl)) dX2_apart_20 ⟨Nat.le_of_ble_eq_true rfl, Nat.le_of_ble_eq_true rfl⟩) hS (fun q _ h => h.elim) (fun q h => h.elim) (fun r_20 u t H1 locs ht hvm hw_20 hB hz1 hk1 hS => ?_)
      have hE : s.heap = H1 := hB.symm.trans ht
      subst hE
      refine lv_iload_n hx hb dX2_apart_23 rfl (lv_at hl 2 rfl) ?_
      refine lv_iand hx hb dX2_apart_24 ?_
      refine lv_topi (fun v_24 ev_24 => ?_)
      refine lv_if_eq (tgt := 30) hx hb dX2_apart_25 (by decide) (fun c_25 => ?_) (fun c_25 => ?_)
      · skip
        refine lv_iinc (v := (nI (i_2 + 1))) (lv' := [(2, .int (nI (i_2 + 1))), (0, .ref dr), (1, .int p0)]) hx hb dX2_apart_30 hl (k := 0) rfl (nI_1 _) (by decide) rfl (fun ls hl => ?_)
        refine lv_goto (tgt := 2) hx hb dX2_apart_33 (by decide) ?_
        exact ih_2 _ (by omega) _ _ _ ⟨(i_2 + 1), by omega, rfl, hS, lv_sub hl [0, 1, 2] rfl, rfl⟩
      · skip
        refine lv_iconst (v := 0) hx hb dX2_apart_28 (by decide +kernel) ?_
        refine W.widen (k := 0) (n := 0) (Nat.le_of_ble_eq_true rfl) (Nat.le_of_ble_eq_true rfl) ?_
        exact W.zret (v := 0) hx hb hr (mz_nz (by decide +kernel)) (fun t ht hW => ⟨⟨0, (), rfl, Or.inl rfl, ht⟩, hS.F ht⟩) hS.2.2 dX2_apart_29
set_option maxHeartbeats 1000000 in
set_option maxRecDepth 100000 in
theorem mz_d_unjoinedWith (l : Launch) (dC : Nat → ClassId) (dI : Nat → Nat → Nat) (cI cJ cZ : ClassId) (dr : Nat) (dp : Nat) (dc : Nat) (n : Nat) (fp : Nat → Int32) (fc : Nat → Int32) (p0 : Int32) (p1 : Int32) (Hq : Heap) (hn : n ≤ 8) : Met l yX2_unjoinedWith wsX2_unjoinedWith ({ frames := 2, cells := 0, slots := 0, locals := 42 }) (va_Pc [.ref dr, .int p0, .int p1] (fun U => U.heap = Hq ∧ va_P (dC, dI) vwCl [(dr, .inr (2, [.ref dp, .ref dc, .int (nI n)])), (dp, .inl (cI, 8, .inl fp)), (dc, .inl (cI, 8, .inl fc))] Hq ∧ va_K (dC, dI) vwCl [(cI, FieldType.int), (cJ, FieldType.long), (cZ, FieldType.boolean)] U ∧ mz_N U)) (va_Qi (fun (r : Int32) (_ : Unit) => True) (fun _ t => t.heap = Hq) (fun _ : Nat => False)) 0 0 (fun _ : Nat => False) := by
  refine Met.ofW (cc := cX2_unjoinedWith) (maxL := 3) (ret := (some .int)) (by decide) rfl ?_
  intro p e s m args below meth c s₁ B hml hv
  obtain ⟨rfl, hH, hP, hK, hN⟩ := hv
  subst hH
  have hx := B.exec
  have hb := B.bytes
  have hr := B.returns
  have hts := atoms_spec (ws := wsX2_unjoinedWith) B.pre
  have hown : s.vm.findClass RX2 = some m.cls := findClass_of_methodNamed B.named
  have hlocks := B.notSynchronized
  have hS : va_S (fun _ : Nat => False) s.heap s.heap [] := va_S.rf
  have hl := lv_entry ([.ref dr, .int p0, .int p1]) (n := 3) (Nat.le_of_ble_eq_true rfl)
  rw [lg_entry_eq]
  generalize (lg_sl ([.ref dr, .int p0, .int p1]) ++ List.replicate (3 - (lg_sl ([.ref dr, .int p0, .int p1])).length) Slot.unset).toArray = ls at hl ⊢
  have hl : lv_has ls 3 [(0, .ref dr), (1, .int p0), (2, .int p1)] := hl
  refine lv_iload_n hx hb dX2_unjoinedWith_0 rfl (lv_at hl 2 rfl) ?_
  refine lv_iload_n hx hb dX2_unjoinedWith_1 rfl (lv_at hl 1 rfl) ?_
  have hPc := hP.sub (ws' := []) [] rfl
  refine va_calli (va_runSN (As := [.int p1, .int p0]) (rest := []) ⟨hx, hb, hml, hown, hts⟩ (mz_g_inHeap l dC dI cI cJ cZ p1 p0 s.heap ) ⟨va_cnB (host := "MadeItSo") 2 hts gX2_unjoinedWith_X7_inHeap_n26 rfl rfl rfl (hN (RX2, 26, yX7_inHeap, "MadeItSo") (by decide +kernel)) (hts (.initialized RX7) (by decide +kernel)) (by decide +kernel) ⟨Nat.le_of_ble_eq_true rfl, Nat.le_of_ble_eq_true rfl⟩, hts (.static yX7_inHeap) (by decide +kernel), trivial⟩ ⟨fun a U g mk q => mz_blP q, fun U hU hW => ⟨rfl, hU, hPc, va_K.moved hW.alike hK, mz_nw hW hN⟩⟩ rfl rfl hl.1 rfl (lv_room (Nat.le_of_ble_eq_true rfl)) dX2_unjoinedWith_2 ⟨Nat.le_of_ble_eq_true rfl, Nat.le_of_ble_eq_true rfl⟩) hS (fun q _ h => h.elim) (fun q h => h.elim) (fun r_2 u t H1 locs ht hvm hw_2 hB hz1 hk1 hS => ?_)
  have hE : s.heap = H1 := hB.symm.trans ht
  subst hE
  refine lv_if_eq (tgt := 27) hx hb dX2_unjoinedWith_5 (by decide) (fun c_5 => ?_) (fun c_5 => ?_)
  · skip
    refine lv_iconst (v := 0) hx hb dX2_unjoinedWith_27 (by decide +kernel) ?_
    refine W.widen (k := 0) (n := 0) (Nat.le_of_ble_eq_true rfl) (Nat.le_of_ble_eq_true rfl) ?_
    exact W.iret (v := 0) hx hb hr (fun t ht hW => ⟨⟨0, (), rfl, trivial, ht⟩, hS.F ht⟩) hS.2.2 dX2_unjoinedWith_28
  · skip
    refine lv_iload_n hx hb dX2_unjoinedWith_8 rfl (lv_at hl 2 rfl) ?_
    refine lv_aload_n hx hb dX2_unjoinedWith_9 rfl (lv_at hl 0 rfl) ?_
    refine lv_iload_n hx hb dX2_unjoinedWith_10 rfl (lv_at hl 1 rfl) ?_
    have hPc := hP.sub (ws' := [(dr, .inr (2, [.ref dp, .ref dc, .int (nI n)])), (dp, .inl (cI, 8, .inl fp)), (dc, .inl (cI, 8, .inl fc))]) [0, 1, 2] rfl
    refine va_calli (va_runV (As := [.int p0]) (rest := [.int p1]) ⟨hx, hb, hml, hown, hts⟩ (mz_d_joinedTo l dC dI cI cJ cZ dr dp dc n fp fc p0 s.heap (by first | assumption | omega)) (cwV 1 hts gX2_unjoinedWith_X2_joinedTo rfl rfl rfl (by decide +kernel) ⟨Nat.le_of_ble_eq_true rfl, Nat.le_of_ble_eq_true rfl⟩) ⟨fun a U g mk q => mz_blP q, va_recv hK hPc (ci := 2) (q0 := 0) rfl rfl, fun U hU hW => ⟨rfl, hU, hPc, va_K.moved hW.alike hK, mz_nw hW hN⟩⟩ rfl rfl hl.1 rfl (lv_room (Nat.le_of_ble_eq_true rfl)) dX2_unjoinedWith_11 ⟨Nat.le_of_ble_eq_true rfl, Nat.le_of_ble_eq_true rfl⟩) hS (fun q _ h => h.elim) (fun q h => h.elim) (fun r_11 u t H1 locs ht hvm hw_11 hB hz1 hk1 hS => ?_)
    have hE : s.heap = H1 := hB.symm.trans ht
    subst hE
    refine lv_iconst (v := (-1)) hx hb dX2_unjoinedWith_14 (by decide +kernel) ?_
    refine lv_ixor hx hb dX2_unjoinedWith_15 ?_
    refine lv_topi (fun v_15 ev_15 => ?_)
    refine lv_iand hx hb dX2_unjoinedWith_16 ?_
    refine lv_topi (fun v_16 ev_16 => ?_)
    refine lv_iload_n hx hb dX2_unjoinedWith_17 rfl (lv_at hl 1 rfl) ?_
    have hPc := hP.sub (ws' := []) [] rfl
    refine va_calli (va_runSN (As := [.int p0]) (rest := [.int v_16]) ⟨hx, hb, hml, hown, hts⟩ (mz_g_bit l dC dI cI cJ cZ p0 s.heap ) ⟨va_cnB (host := "MadeItSo") 1 hts gX2_unjoinedWith_X7_bit_n37 rfl rfl rfl (hN (RX2, 37, yX7_bit, "MadeItSo") (by decide +kernel)) (hts (.initialized RX7) (by decide +kernel)) (by decide +kernel) ⟨Nat.le_of_ble_eq_true rfl, Nat.le_of_ble_eq_true rfl⟩, hts (.static yX7_bit) (by decide +kernel), trivial⟩ ⟨fun a U g mk q => mz_blP q, fun U hU hW => ⟨rfl, hU, hPc, va_K.moved hW.alike hK, mz_nw hW hN⟩⟩ rfl rfl hl.1 rfl (lv_room (Nat.le_of_ble_eq_true rfl)) dX2_unjoinedWith_18 ⟨Nat.le_of_ble_eq_true rfl, Nat.le_of_ble_eq_true rfl⟩) hS (fun q _ h => h.elim) (fun q h => h.elim) (fun r_18 u t H1 locs ht hvm hw_18 hB hz1 hk1 hS => ?_)
    have hE : s.heap = H1 := hB.symm.trans ht
    subst hE
    obtain rfl : r_18 = (1 <<< (p0 &&& 31)) := hw_18
    refine lv_iconst (v := (-1)) hx hb dX2_unjoinedWith_21 (by decide +kernel) ?_
    refine lv_ixor hx hb dX2_unjoinedWith_22 ?_
    refine lv_topi (fun v_22 ev_22 => ?_)
    refine lv_iand hx hb dX2_unjoinedWith_23 ?_
    refine lv_topi (fun v_23 ev_23 => ?_)
    refine lv_goto (tgt := 28) hx hb dX2_unjoinedWith_24 (by decide) ?_
    refine W.widen (k := 0) (n := 0) (Nat.le_of_ble_eq_true rfl) (Nat.le_of_ble_eq_true rfl) ?_
    exact W.iret (v := v_23) hx hb hr (fun t ht hW => ⟨⟨v_23, (), rfl, trivial, ht⟩, hS.F ht⟩) hS.2.2 dX2_unjoinedWith_28
set_option maxHeartbeats 1000000 in
set_option maxRecDepth 100000 in
theorem mz_d_sameThirds (l : Launch) (dC : Nat → ClassId) (dI : Nat → Nat → Nat) (cI cJ cZ : ClassId) (dr : Nat) (dp : Nat) (dc : Nat) (n : Nat) (fp : Nat → Int32) (fc : Nat → Int32) (p0 : Int32) (p1 : Int32) (Hq : Heap) (hn : n ≤ 8) : Met l yX2_sameThirds wsX2_sameThirds ({ frames := 3, cells := 0, slots := 0, locals := 64 }) (va_Pc [.ref dr, .int p0, .int p1] (fun U => U.heap = Hq ∧ va_P (dC, dI) vwCl [(dr, .inr (2, [.ref dp, .ref dc, .int (nI n)])), (dp, .inl (cI, 8, .inl fp)), (dc, .inl (cI, 8, .inl fc))] Hq ∧ va_K (dC, dI) vwCl [(cI, FieldType.int), (cJ, FieldType.long), (cZ, FieldType.boolean)] U ∧ mz_N U)) (va_Qi (fun (r : Int32) (_ : Unit) => r = 0 ∨ r = 1) (fun _ t => t.heap = Hq) (fun _ : Nat => False)) 0 0 (fun _ : Nat => False) := by
  refine Met.ofW (cc := cX2_sameThirds) (maxL := 5) (ret := (some .boolean)) (by decide) rfl ?_
  intro p e s m args below meth c s₁ B hml hv
  obtain ⟨rfl, hH, hP, hK, hN⟩ := hv
  subst hH
  have hx := B.exec
  have hb := B.bytes
  have hr := B.returns
  have hts := atoms_spec (ws := wsX2_sameThirds) B.pre
  have hown : s.vm.findClass RX2 = some m.cls := findClass_of_methodNamed B.named
  have hlocks := B.notSynchronized
  have hS : va_S (fun _ : Nat => False) s.heap s.heap [] := va_S.rf
  have hiX2 : ∀ w ∈ u_ws RX2 TX2 3, w ∈ wsX2_sameThirds := by decide +kernel
  have hl := lv_entry ([.ref dr, .int p0, .int p1]) (n := 5) (Nat.le_of_ble_eq_true rfl)
  rw [lg_entry_eq]
  generalize (lg_sl ([.ref dr, .int p0, .int p1]) ++ List.replicate (5 - (lg_sl ([.ref dr, .int p0, .int p1])).length) Slot.unset).toArray = ls at hl ⊢
  have hl : lv_has ls 5 [(0, .ref dr), (1, .int p0), (2, .int p1)] := hl
  refine lv_aload_n hx hb dX2_sameThirds_0 rfl (lv_at hl 0 rfl) ?_
  refine lv_iload_n hx hb dX2_sameThirds_1 rfl (lv_at hl 1 rfl) ?_
  have hPc := hP.sub (ws' := [(dr, .inr (2, [.ref dp, .ref dc, .int (nI n)])), (dp, .inl (cI, 8, .inl fp))]) [0, 1] rfl
  refine va_calli (va_runV (As := [.int p0]) (rest := []) ⟨hx, hb, hml, hown, hts⟩ (mz_d_parentsOf l dC dI cI cJ cZ dr dp dc n fp p0 s.heap (by first | assumption | omega)) (cwV 1 hts gX2_sameThirds_X2_parentsOf rfl rfl rfl (by decide +kernel) ⟨Nat.le_of_ble_eq_true rfl, Nat.le_of_ble_eq_true rfl⟩) ⟨fun a U g mk q => mz_blP q, va_recv hK hPc (ci := 2) (q0 := 0) rfl rfl, fun U hU hW => ⟨rfl, hU, hPc, va_K.moved hW.alike hK, mz_nw hW hN⟩⟩ rfl rfl hl.1 rfl (lv_room (Nat.le_of_ble_eq_true rfl)) dX2_sameThirds_2 ⟨Nat.le_of_ble_eq_true rfl, Nat.le_of_ble_eq_true rfl⟩) hS (fun q _ h => h.elim) (fun q h => h.elim) (fun r_2 u t H1 locs ht hvm hw_2 hB hz1 hk1 hS => ?_)
  have hE : s.heap = H1 := hB.symm.trans ht
  subst hE
  refine lv_istore_n (lv' := [(3, .int r_2), (0, .ref dr), (1, .int p0), (2, .int p1)]) hx hb dX2_sameThirds_5 rfl hl (by decide) rfl (fun ls hl => ?_)
  refine lv_iconst (v := 0) hx hb dX2_sameThirds_6 (by decide +kernel) ?_
  refine lv_istore (lv' := [(4, .int 0), (3, .int r_2), (0, .ref dr), (1, .int p0), (2, .int p1)]) hx hb dX2_sameThirds_7 hl (by decide) rfl (fun ls hl => ?_)
  refine mz_loopU (fun k H locs ls => ∃ (i_9 : Nat), i_9 ≤ n ∧ H = s.heap ∧ va_S (fun _ : Nat => False) s.heap H locs ∧ lv_has ls 5 [(4, .int (nI i_9)), (3, .int r_2), (0, .ref dr), (1, .int p0), (2, .int p1)] ∧ k = n - i_9) ?_ _ _ _ _ ⟨0, by omega, rfl, hS, lv_sub hl [0, 1, 2, 3, 4] rfl, rfl⟩
  intro k_9 H locs ls hI_9 ih_9
  obtain ⟨i_9, hi_9, hH_9, hS, hl, hk_9⟩ := hI_9
  subst hH_9
  refine lv_iload hx hb dX2_sameThirds_9 (lv_at hl 0 rfl) ?_
  refine lv_aload_n hx hb dX2_sameThirds_11 rfl (lv_at hl 2 rfl) ?_
  refine va_get (D := (dC, dI)) (ci := 2) (v := .int (nI n)) (C := RX2) (T := TX2) (N := 3) hx hb hts hiX2 hown hK hP 0 rfl rfl 2 (by decide) (hts (.fieldLink RX2 18 "MadeItSo$Drawing" "things" "I") (by decide +kernel)) (fun _ h9 => h9) rfl dX2_sameThirds_12 ?_
  refine lv_icmp_ge (tgt := 54) hx hb dX2_sameThirds_15 (by decide) (fun c_15 => ?_) (fun c_15 => ?_)
  · skip
    have d_15 : n ≤ i_9 := (nI_leI (a := n) (b := i_9) (by omega) (by omega)).mp c_15
    refine lv_iconst (v := 1) hx hb dX2_sameThirds_54 (by decide +kernel) ?_
    refine W.widen (k := 0) (n := 0) (Nat.le_of_ble_eq_true rfl) (Nat.le_of_ble_eq_true rfl) ?_
    exact W.zret (v := 1) hx hb hr (mz_nz (by decide +kernel)) (fun t ht hW => ⟨⟨1, (), rfl, Or.inr rfl, ht⟩, hS.F ht⟩) hS.2.2 dX2_sameThirds_55
  · skip
    have d_15 : ¬ n ≤ i_9 := fun h => c_15 ((nI_leI (a := n) (b := i_9) (by omega) (by omega)).mpr h)
    refine lv_iload_n hx hb dX2_sameThirds_18 rfl (lv_at hl 1 rfl) ?_
    refine lv_iload_n hx hb dX2_sameThirds_19 rfl (lv_at hl 4 rfl) ?_
    refine lv_ior hx hb dX2_sameThirds_20 ?_
    refine lv_topi (fun v_20 ev_20 => ?_)
    refine lv_iload hx hb dX2_sameThirds_21 (lv_at hl 0 rfl) ?_
    have hPc := hP.sub (ws' := []) [] rfl
    refine va_calli (va_runSN (As := [.int v_20, .int (nI i_9)]) (rest := []) ⟨hx, hb, hml, hown, hts⟩ (mz_g_inHeap l dC dI cI cJ cZ v_20 (nI i_9) s.heap ) ⟨va_cnB (host := "MadeItSo") 2 hts gX2_sameThirds_X7_inHeap_n26 rfl rfl rfl (hN (RX2, 26, yX7_inHeap, "MadeItSo") (by decide +kernel)) (hts (.initialized RX7) (by decide +kernel)) (by decide +kernel) ⟨Nat.le_of_ble_eq_true rfl, Nat.le_of_ble_eq_true rfl⟩, hts (.static yX7_inHeap) (by decide +kernel), trivial⟩ ⟨fun a U g mk q => mz_blP q, fun U hU hW => ⟨rfl, hU, hPc, va_K.moved hW.alike hK, mz_nw hW hN⟩⟩ rfl rfl hl.1 rfl (lv_room (Nat.le_of_ble_eq_true rfl)) dX2_sameThirds_23 ⟨Nat.le_of_ble_eq_true rfl, Nat.le_of_ble_eq_true rfl⟩) hS (fun q _ h => h.elim) (fun q h => h.elim) (fun r_23 u t H1 locs ht hvm hw_23 hB hz1 hk1 hS => ?_)
    have hE : s.heap = H1 := hB.symm.trans ht
    subst hE
    refine lv_if_eq (tgt := 48) hx hb dX2_sameThirds_26 (by decide) (fun c_26 => ?_) (fun c_26 => ?_)
    · skip
      refine lv_iinc (v := (nI (i_9 + 1))) (lv' := [(4, .int (nI (i_9 + 1))), (3, .int r_2), (0, .ref dr), (1, .int p0), (2, .int p1)]) hx hb dX2_sameThirds_48 hl (k := 0) rfl (nI_1 _) (by decide) rfl (fun ls hl => ?_)
      refine lv_goto (tgt := 9) hx hb dX2_sameThirds_51 (by decide) ?_
      exact ih_9 _ (by omega) _ _ _ ⟨(i_9 + 1), by omega, rfl, hS, lv_sub hl [0, 1, 2, 3, 4] rfl, rfl⟩
    · skip
      refine lv_aload_n hx hb dX2_sameThirds_29 rfl (lv_at hl 2 rfl) ?_
      refine lv_iload hx hb dX2_sameThirds_30 (lv_at hl 0 rfl) ?_
      refine lv_iload_n hx hb dX2_sameThirds_32 rfl (lv_at hl 4 rfl) ?_
      have hPc := hP.sub (ws' := [(dr, .inr (2, [.ref dp, .ref dc, .int (nI n)])), (dp, .inl (cI, 8, .inl fp)), (dc, .inl (cI, 8, .inl fc))]) [0, 1, 2] rfl
      refine va_calli (va_runV (As := [.int (nI i_9), .int p1]) (rest := []) ⟨hx, hb, hml, hown, hts⟩ (mz_d_unjoinedWith l dC dI cI cJ cZ dr dp dc n fp fc (nI i_9) p1 s.heap (by first | assumption | omega)) (cwV 2 hts gX2_sameThirds_X2_unjoinedWith rfl rfl rfl (by decide +kernel) ⟨Nat.le_of_ble_eq_true rfl, Nat.le_of_ble_eq_true rfl⟩) ⟨fun a U g mk q => mz_blP q, va_recv hK hPc (ci := 2) (q0 := 0) rfl rfl, fun U hU hW => ⟨rfl, hU, hPc, va_K.moved hW.alike hK, mz_nw hW hN⟩⟩ rfl rfl hl.1 rfl (lv_room (Nat.le_of_ble_eq_true rfl)) dX2_sameThirds_33 ⟨Nat.le_of_ble_eq_true rfl, Nat.le_of_ble_eq_true rfl⟩) hS (fun q _ h => h.elim) (fun q h => h.elim) (fun r_33 u t H1 locs ht hvm hw_33 hB hz1 hk1 hS => ?_)
      have hE : s.heap = H1 := hB.symm.trans ht
      subst hE
      refine lv_aload_n hx hb dX2_sameThirds_36 rfl (lv_at hl 2 rfl) ?_
      refine lv_iload hx hb dX2_sameThirds_37 (lv_at hl 0 rfl) ?_
      refine lv_iload_n hx hb dX2_sameThirds_39 rfl (lv_at hl 1 rfl) ?_
      have hPc := hP.sub (ws' := [(dr, .inr (2, [.ref dp, .ref dc, .int (nI n)])), (dp, .inl (cI, 8, .inl fp)), (dc, .inl (cI, 8, .inl fc))]) [0, 1, 2] rfl
      refine va_calli (va_runV (As := [.int (nI i_9), .int r_2]) (rest := [.int r_33]) ⟨hx, hb, hml, hown, hts⟩ (mz_d_unjoinedWith l dC dI cI cJ cZ dr dp dc n fp fc (nI i_9) r_2 s.heap (by first | assumption | omega)) (cwV 2 hts gX2_sameThirds_X2_unjoinedWith rfl rfl rfl (by decide +kernel) ⟨Nat.le_of_ble_eq_true rfl, Nat.le_of_ble_eq_true rfl⟩) ⟨fun a U g mk q => mz_blP q, va_recv hK hPc (ci := 2) (q0 := 0) rfl rfl, fun U hU hW => ⟨rfl, hU, hPc, va_K.moved hW.alike hK, mz_nw hW hN⟩⟩ rfl rfl hl.1 rfl (lv_room (Nat.le_of_ble_eq_true rfl)) dX2_sameThirds_40 ⟨Nat.le_of_ble_eq_true rfl, Nat.le_of_ble_eq_true rfl⟩) hS (fun q _ h => h.elim) (fun q h => h.elim) (fun r_40 u t H1 locs ht hvm hw_40 hB hz1 hk1 hS => ?_)
      have hE : s.heap = H1 := hB.symm.trans ht
      subst hE
      refine lv_icmp_eq (tgt := 48) hx hb dX2_sameThirds_43 (by decide) (fun c_43 => ?_) (fun c_43 => ?_)
      · skip
        refine lv_iinc (v := (nI (i_9 + 1))) (lv' := [(4, .int (nI (i_9 + 1))), (3, .int r_2), (0, .ref dr), (1, .int p0), (2, .int p1)]) hx hb dX2_sameThirds_48 hl (k := 0) rfl (nI_1 _) (by decide) rfl (fun ls hl => ?_)
        refine lv_goto (tgt := 9) hx hb dX2_sameThirds_51 (by decide) ?_
        exact ih_9 _ (by omega) _ _ _ ⟨(i_9 + 1), by omega, rfl, hS, lv_sub hl [0, 1, 2, 3, 4] rfl, rfl⟩
      · skip
        refine lv_iconst (v := 0) hx hb dX2_sameThirds_46 (by decide +kernel) ?_
        refine W.widen (k := 0) (n := 0) (Nat.le_of_ble_eq_true rfl) (Nat.le_of_ble_eq_true rfl) ?_
        exact W.zret (v := 0) hx hb hr (mz_nz (by decide +kernel)) (fun t ht hW => ⟨⟨0, (), rfl, Or.inl rfl, ht⟩, hS.F ht⟩) hS.2.2 dX2_sameThirds_47
set_option maxHeartbeats 1000000 in
set_option maxRecDepth 100000 in
theorem mz_d_join (l : Launch) (dC : Nat → ClassId) (dI : Nat → Nat → Nat) (cI cJ cZ : ClassId) (dr : Nat) (dp : Nat) (dc : Nat) (n : Nat) (fp : Nat → Int32) (fc : Nat → Int32) (p0 : Int32) (p1 : Int32) (sz : Nat) (hn : n ≤ 8) : Met l yX2_join wsX2_join ({ frames := 1, cells := 0, slots := 0, locals := 21 }) (va_Pc [.ref dr, .int p0, .int p1] (fun U => U.heap.size = sz ∧ va_P (dC, dI) vwCl [(dr, .inr (2, [.ref dp, .ref dc, .int (nI n)])), (dp, .inl (cI, 8, .inl fp)), (dc, .inl (cI, 8, .inl fc))] U.heap ∧ va_K (dC, dI) vwCl [(cI, FieldType.int), (cJ, FieldType.long), (cZ, FieldType.boolean)] U ∧ va_D (fun _ => True) [(dr, .inr (2, [.ref dp, .ref dc, .int (nI n)])), (dp, .inl (cI, 8, .inl fp)), (dc, .inl (cI, 8, .inl fc))] ∧ mz_N U)) (va_Qv (fun (_ : Unit) => True) (fun _ t => ∃ (gp : Nat → Int32), ∃ (gc : Nat → Int32), va_P (dC, dI) vwCl [(dr, .inr (2, [.ref dp, .ref dc, .int (nI n)])), (dp, .inl (cI, 8, .inl gp)), (dc, .inl (cI, 8, .inl gc))] t.heap ∧ va_D (va_A [(dr, .inr (2, [.ref dp, .ref dc, .int (nI n)])), (dp, .inl (cI, 8, .inl fp)), (dc, .inl (cI, 8, .inl fc))] sz) [(dr, .inr (2, [.ref dp, .ref dc, .int (nI n)])), (dp, .inl (cI, 8, .inl gp)), (dc, .inl (cI, 8, .inl gc))]) (va_A [(dr, .inr (2, [.ref dp, .ref dc, .int (nI n)])), (dp, .inl (cI, 8, .inl fp)), (dc, .inl (cI, 8, .inl fc))] sz)) 0 0 (va_A [(dr, .inr (2, [.ref dp, .ref dc, .int (nI n)])), (dp, .inl (cI, 8, .inl fp)), (dc, .inl (cI, 8, .inl fc))] sz) := by
  refine Met.ofW (cc := cX2_join) (maxL := 3) (ret := none) (by decide) rfl ?_
  intro p e s m args below meth c s₁ B hml hv
  obtain ⟨rfl, hsz, hP, hK, hD0, hN⟩ := hv
  subst hsz
  have hx := B.exec
  have hb := B.bytes
  have hr := B.returns
  have hts := atoms_spec (ws := wsX2_join) B.pre
  have hown : s.vm.findClass RX2 = some m.cls := findClass_of_methodNamed B.named
  have hlocks := B.notSynchronized
  have hD := hD0.self (sz := s.heap.size)
  generalize hAe : va_A [(dr, .inr (2, [.ref dp, .ref dc, .int (nI n)])), (dp, .inl (cI, 8, .inl fp)), (dc, .inl (cI, 8, .inl fc))] s.heap.size = A at hD ⊢
  have hA : ∀ q : Nat, s.heap.size ≤ q → A q := fun q h => by rw [← hAe]; exact Or.inr h
  have hS : va_S A s.heap s.heap [] := va_S.rf
  have hiX2 : ∀ w ∈ u_ws RX2 TX2 3, w ∈ wsX2_join := by decide +kernel
  have hl := lv_entry ([.ref dr, .int p0, .int p1]) (n := 3) (Nat.le_of_ble_eq_true rfl)
  rw [lg_entry_eq]
  generalize (lg_sl ([.ref dr, .int p0, .int p1]) ++ List.replicate (3 - (lg_sl ([.ref dr, .int p0, .int p1])).length) Slot.unset).toArray = ls at hl ⊢
  have hl : lv_has ls 3 [(0, .ref dr), (1, .int p0), (2, .int p1)] := hl
  refine lv_aload_n hx hb dX2_join_0 rfl (lv_at hl 0 rfl) ?_
  refine lv_iload_n hx hb dX2_join_1 rfl (lv_at hl 1 rfl) ?_
  have hPc := hP.sub (ws' := [(dr, .inr (2, [.ref dp, .ref dc, .int (nI n)]))]) [0] rfl
  refine va_calli (va_runV (As := [.int p0]) (rest := []) ⟨hx, hb, hml, hown, hts⟩ (mz_d_has l dC dI cI cJ cZ dr dp dc n p0 s.heap (by first | assumption | omega)) (cwV 1 hts gX2_join_X2_has rfl rfl rfl (by decide +kernel) ⟨Nat.le_of_ble_eq_true rfl, Nat.le_of_ble_eq_true rfl⟩) ⟨fun a U g mk q => mz_blP q, va_recv hK hPc (ci := 2) (q0 := 0) rfl rfl, fun U hU hW => ⟨rfl, hU, hPc, va_K.moved hW.alike hK, mz_nw hW hN⟩⟩ rfl rfl hl.1 rfl (lv_room (Nat.le_of_ble_eq_true rfl)) dX2_join_2 ⟨Nat.le_of_ble_eq_true rfl, Nat.le_of_ble_eq_true rfl⟩) hS (fun q _ h => h.elim) (fun q h => h.elim) (fun r_2 u t H1 locs ht hvm hw_2 hB hz1 hk1 hS => ?_)
  have hE : s.heap = H1 := hB.symm.trans ht
  subst hE
  rcases (show (r_2 = 1 ∧ ∃ j : Nat, j < n ∧ p0 = nI j) ∨ r_2 = 0 from hw_2) with ⟨rfl, j_2, hj_2, he_2⟩ | rfl
  · skip
    subst he_2
    refine lv_if_eq (tgt := 42) hx hb dX2_join_5 (by decide) (fun c_5 => absurd c_5 (by decide +kernel)) (fun _ => ?_)
    refine lv_aload_n hx hb dX2_join_8 rfl (lv_at hl 0 rfl) ?_
    refine lv_iload_n hx hb dX2_join_9 rfl (lv_at hl 2 rfl) ?_
    have hPc := hP.sub (ws' := [(dr, .inr (2, [.ref dp, .ref dc, .int (nI n)]))]) [0] rfl
    refine va_calli (va_runV (As := [.int p1]) (rest := []) ⟨hx, hb, hml, hown, hts⟩ (mz_d_has l dC dI cI cJ cZ dr dp dc n p1 s.heap (by first | assumption | omega)) (cwV 1 hts gX2_join_X2_has rfl rfl rfl (by decide +kernel) ⟨Nat.le_of_ble_eq_true rfl, Nat.le_of_ble_eq_true rfl⟩) ⟨fun a U g mk q => mz_blP q, va_recv hK hPc (ci := 2) (q0 := 0) rfl rfl, fun U hU hW => ⟨rfl, hU, hPc, va_K.moved hW.alike hK, mz_nw hW hN⟩⟩ rfl rfl hl.1 rfl (lv_room (Nat.le_of_ble_eq_true rfl)) dX2_join_10 ⟨Nat.le_of_ble_eq_true rfl, Nat.le_of_ble_eq_true rfl⟩) hS (fun q _ h => h.elim) (fun q h => h.elim) (fun r_10 u t H1 locs ht hvm hw_10 hB hz1 hk1 hS => ?_)
    have hE : s.heap = H1 := hB.symm.trans ht
    subst hE
    rcases (show (r_10 = 1 ∧ ∃ j : Nat, j < n ∧ p1 = nI j) ∨ r_10 = 0 from hw_10) with ⟨rfl, j_10, hj_10, he_10⟩ | rfl
    · skip
      subst he_10
      refine lv_if_eq (tgt := 42) hx hb dX2_join_13 (by decide) (fun c_13 => absurd c_13 (by decide +kernel)) (fun _ => ?_)
      refine lv_aload_n hx hb dX2_join_16 rfl (lv_at hl 0 rfl) ?_
      refine va_get (D := (dC, dI)) (ci := 2) (v := .ref dc) (C := RX2) (T := TX2) (N := 3) hx hb hts hiX2 hown hK hP 0 rfl rfl 1 (by decide) (hts (.fieldLink RX2 15 "MadeItSo$Drawing" "children" "[I") (by decide +kernel)) (fun _ h9 => h9) rfl dX2_join_17 ?_
      refine lv_iload_n hx hb dX2_join_20 rfl (lv_at hl 1 rfl) ?_
      refine lv_dup2_11 hx hb dX2_join_21 rfl rfl ?_
      refine va_iald hx hb hK hP 2 0 rfl rfl (vp_in_nI (by omega) (by omega)) dX2_join_22 ?_
      refine lv_topi (fun v_22 ev_22 => ?_)
      refine lv_iload_n hx hb dX2_join_23 rfl (lv_at hl 2 rfl) ?_
      have hPc := hP.sub (ws' := []) [] rfl
      refine va_calli (va_runSN (As := [.int (nI j_10)]) (rest := [.int v_22, .int (nI j_2), .ref dc]) ⟨hx, hb, hml, hown, hts⟩ (mz_g_bit l dC dI cI cJ cZ (nI j_10) s.heap ) ⟨va_cnB (host := "MadeItSo") 1 hts gX2_join_X7_bit_n37 rfl rfl rfl (hN (RX2, 37, yX7_bit, "MadeItSo") (by decide +kernel)) (hts (.initialized RX7) (by decide +kernel)) (by decide +kernel) ⟨Nat.le_of_ble_eq_true rfl, Nat.le_of_ble_eq_true rfl⟩, hts (.static yX7_bit) (by decide +kernel), trivial⟩ ⟨fun a U g mk q => mz_blP q, fun U hU hW => ⟨rfl, hU, hPc, va_K.moved hW.alike hK, mz_nw hW hN⟩⟩ rfl rfl hl.1 rfl (lv_room (Nat.le_of_ble_eq_true rfl)) dX2_join_24 ⟨Nat.le_of_ble_eq_true rfl, Nat.le_of_ble_eq_true rfl⟩) hS (fun q _ h => h.elim) (fun q h => h.elim) (fun r_24 u t H1 locs ht hvm hw_24 hB hz1 hk1 hS => ?_)
      have hE : s.heap = H1 := hB.symm.trans ht
      subst hE
      obtain rfl : r_24 = (1 <<< ((nI j_10) &&& 31)) := hw_24
      refine lv_ior hx hb dX2_join_27 ?_
      refine lv_topi (fun v_27 ev_27 => ?_)
      refine va_iast hx hb hK hP hD hS 2 0 rfl rfl (vp_in_nI (by omega) (by omega)) dX2_join_28 (fun H locs hP hD hS => ?_)
      have hP : va_P (dC, dI) vwCl [(dr, .inr (2, [.ref dp, .ref dc, .int (nI n)])), (dp, .inl (cI, 8, .inl fp)), (dc, .inl (cI, 8, .inl (upd fc ((nI j_2) : Int32).toNatClampNeg v_27)))] H := hP
      have hD : va_D A [(dr, .inr (2, [.ref dp, .ref dc, .int (nI n)])), (dp, .inl (cI, 8, .inl fp)), (dc, .inl (cI, 8, .inl (upd fc ((nI j_2) : Int32).toNatClampNeg v_27)))] := hD
      generalize (upd fc ((nI j_2) : Int32).toNatClampNeg v_27) = f_28 at hP hD
      refine lv_aload_n hx hb dX2_join_29 rfl (lv_at hl 0 rfl) ?_
      refine va_get (D := (dC, dI)) (ci := 2) (v := .ref dp) (C := RX2) (T := TX2) (N := 3) hx hb hts hiX2 hown hK hP 0 rfl rfl 0 (by decide) (hts (.fieldLink RX2 9 "MadeItSo$Drawing" "parents" "[I") (by decide +kernel)) (fun _ h9 => h9) rfl dX2_join_30 ?_
      refine lv_iload_n hx hb dX2_join_33 rfl (lv_at hl 2 rfl) ?_
      refine lv_dup2_11 hx hb dX2_join_34 rfl rfl ?_
      refine va_iald hx hb hK hP 1 0 rfl rfl (vp_in_nI (by omega) (by omega)) dX2_join_35 ?_
      refine lv_topi (fun v_35 ev_35 => ?_)
      refine lv_iload_n hx hb dX2_join_36 rfl (lv_at hl 1 rfl) ?_
      have hPc := hP.sub (ws' := []) [] rfl
      refine va_calli (va_runSN (As := [.int (nI j_2)]) (rest := [.int v_35, .int (nI j_10), .ref dp]) ⟨hx, hb, hml, hown, hts⟩ (mz_g_bit l dC dI cI cJ cZ (nI j_2) H ) ⟨va_cnB (host := "MadeItSo") 1 hts gX2_join_X7_bit_n37 rfl rfl rfl (hN (RX2, 37, yX7_bit, "MadeItSo") (by decide +kernel)) (hts (.initialized RX7) (by decide +kernel)) (by decide +kernel) ⟨Nat.le_of_ble_eq_true rfl, Nat.le_of_ble_eq_true rfl⟩, hts (.static yX7_bit) (by decide +kernel), trivial⟩ ⟨fun a U g mk q => mz_blP q, fun U hU hW => ⟨rfl, hU, hPc, va_K.moved hW.alike hK, mz_nw hW hN⟩⟩ rfl rfl hl.1 rfl (lv_room (Nat.le_of_ble_eq_true rfl)) dX2_join_37 ⟨Nat.le_of_ble_eq_true rfl, Nat.le_of_ble_eq_true rfl⟩) hS (fun q _ h => h.elim) (fun q h => h.elim) (fun r_37 u t H1 locs ht hvm hw_37 hB hz1 hk1 hS => ?_)
      have hE : H = H1 := hB.symm.trans ht
      subst hE
      obtain rfl : r_37 = (1 <<< ((nI j_2) &&& 31)) := hw_37
      refine lv_ior hx hb dX2_join_40 ?_
      refine lv_topi (fun v_40 ev_40 => ?_)
      refine va_iast hx hb hK hP hD hS 1 0 rfl rfl (vp_in_nI (by omega) (by omega)) dX2_join_41 (fun H locs hP hD hS => ?_)
      have hP : va_P (dC, dI) vwCl [(dr, .inr (2, [.ref dp, .ref dc, .int (nI n)])), (dp, .inl (cI, 8, .inl (upd fp ((nI j_10) : Int32).toNatClampNeg v_40))), (dc, .inl (cI, 8, .inl f_28))] H := hP
      have hD : va_D A [(dr, .inr (2, [.ref dp, .ref dc, .int (nI n)])), (dp, .inl (cI, 8, .inl (upd fp ((nI j_10) : Int32).toNatClampNeg v_40))), (dc, .inl (cI, 8, .inl f_28))] := hD
      generalize (upd fp ((nI j_10) : Int32).toNatClampNeg v_40) = f_41 at hP hD
      have hP9 := hP.sub (ws' := [(dr, .inr (2, [.ref dp, .ref dc, .int (nI n)])), (dp, .inl (cI, 8, .inl f_41)), (dc, .inl (cI, 8, .inl f_28))]) [0, 1, 2] rfl
      have hD9 := hD.sub (ws' := [(dr, .inr (2, [.ref dp, .ref dc, .int (nI n)])), (dp, .inl (cI, 8, .inl f_41)), (dc, .inl (cI, 8, .inl f_28))]) [0, 1, 2] (by decide) rfl
      refine W.widen (k := 0) (n := 0) (Nat.le_of_ble_eq_true rfl) (Nat.le_of_ble_eq_true rfl) ?_
      exact W.vret hx hb hr (fun t ht hW => ⟨⟨(), rfl, trivial, f_41, f_28, by rw [ht]; exact hP9, hD9⟩, hS.F ht⟩) hS.2.2 dX2_join_42
    · skip
      refine lv_if_eq (tgt := 42) hx hb dX2_join_13 (by decide) (fun _ => ?_) (fun c_13 => absurd (by decide +kernel) c_13)
      have hP9 := hP.sub (ws' := [(dr, .inr (2, [.ref dp, .ref dc, .int (nI n)])), (dp, .inl (cI, 8, .inl fp)), (dc, .inl (cI, 8, .inl fc))]) [0, 1, 2] rfl
      have hD9 := hD.sub (ws' := [(dr, .inr (2, [.ref dp, .ref dc, .int (nI n)])), (dp, .inl (cI, 8, .inl fp)), (dc, .inl (cI, 8, .inl fc))]) [0, 1, 2] (by decide) rfl
      refine W.widen (k := 0) (n := 0) (Nat.le_of_ble_eq_true rfl) (Nat.le_of_ble_eq_true rfl) ?_
      exact W.vret hx hb hr (fun t ht hW => ⟨⟨(), rfl, trivial, fp, fc, by rw [ht]; exact hP9, hD9⟩, hS.F ht⟩) hS.2.2 dX2_join_42
  · skip
    refine lv_if_eq (tgt := 42) hx hb dX2_join_5 (by decide) (fun _ => ?_) (fun c_5 => absurd (by decide +kernel) c_5)
    have hP9 := hP.sub (ws' := [(dr, .inr (2, [.ref dp, .ref dc, .int (nI n)])), (dp, .inl (cI, 8, .inl fp)), (dc, .inl (cI, 8, .inl fc))]) [0, 1, 2] rfl
    have hD9 := hD.sub (ws' := [(dr, .inr (2, [.ref dp, .ref dc, .int (nI n)])), (dp, .inl (cI, 8, .inl fp)), (dc, .inl (cI, 8, .inl fc))]) [0, 1, 2] (by decide) rfl
    refine W.widen (k := 0) (n := 0) (Nat.le_of_ble_eq_true rfl) (Nat.le_of_ble_eq_true rfl) ?_
    exact W.vret hx hb hr (fun t ht hW => ⟨⟨(), rfl, trivial, fp, fc, by rw [ht]; exact hP9, hD9⟩, hS.F ht⟩) hS.2.2 dX2_join_42
set_option maxHeartbeats 1000000 in
set_option maxRecDepth 100000 in
theorem mz_d_part (l : Launch) (dC : Nat → ClassId) (dI : Nat → Nat → Nat) (cI cJ cZ : ClassId) (dr : Nat) (dp : Nat) (dc : Nat) (n : Nat) (fp : Nat → Int32) (fc : Nat → Int32) (p0 : Int32) (p1 : Int32) (sz : Nat) (hn : n ≤ 8) : Met l yX2_part wsX2_part ({ frames := 1, cells := 0, slots := 0, locals := 21 }) (va_Pc [.ref dr, .int p0, .int p1] (fun U => U.heap.size = sz ∧ va_P (dC, dI) vwCl [(dr, .inr (2, [.ref dp, .ref dc, .int (nI n)])), (dp, .inl (cI, 8, .inl fp)), (dc, .inl (cI, 8, .inl fc))] U.heap ∧ va_K (dC, dI) vwCl [(cI, FieldType.int), (cJ, FieldType.long), (cZ, FieldType.boolean)] U ∧ va_D (fun _ => True) [(dr, .inr (2, [.ref dp, .ref dc, .int (nI n)])), (dp, .inl (cI, 8, .inl fp)), (dc, .inl (cI, 8, .inl fc))] ∧ mz_N U)) (va_Qv (fun (_ : Unit) => True) (fun _ t => ∃ (gp : Nat → Int32), ∃ (gc : Nat → Int32), va_P (dC, dI) vwCl [(dr, .inr (2, [.ref dp, .ref dc, .int (nI n)])), (dp, .inl (cI, 8, .inl gp)), (dc, .inl (cI, 8, .inl gc))] t.heap ∧ va_D (va_A [(dr, .inr (2, [.ref dp, .ref dc, .int (nI n)])), (dp, .inl (cI, 8, .inl fp)), (dc, .inl (cI, 8, .inl fc))] sz) [(dr, .inr (2, [.ref dp, .ref dc, .int (nI n)])), (dp, .inl (cI, 8, .inl gp)), (dc, .inl (cI, 8, .inl gc))]) (va_A [(dr, .inr (2, [.ref dp, .ref dc, .int (nI n)])), (dp, .inl (cI, 8, .inl fp)), (dc, .inl (cI, 8, .inl fc))] sz)) 0 0 (va_A [(dr, .inr (2, [.ref dp, .ref dc, .int (nI n)])), (dp, .inl (cI, 8, .inl fp)), (dc, .inl (cI, 8, .inl fc))] sz) := by
  refine Met.ofW (cc := cX2_part) (maxL := 3) (ret := none) (by decide) rfl ?_
  intro p e s m args below meth c s₁ B hml hv
  obtain ⟨rfl, hsz, hP, hK, hD0, hN⟩ := hv
  subst hsz
  have hx := B.exec
  have hb := B.bytes
  have hr := B.returns
  have hts := atoms_spec (ws := wsX2_part) B.pre
  have hown : s.vm.findClass RX2 = some m.cls := findClass_of_methodNamed B.named
  have hlocks := B.notSynchronized
  have hD := hD0.self (sz := s.heap.size)
  generalize hAe : va_A [(dr, .inr (2, [.ref dp, .ref dc, .int (nI n)])), (dp, .inl (cI, 8, .inl fp)), (dc, .inl (cI, 8, .inl fc))] s.heap.size = A at hD ⊢
  have hA : ∀ q : Nat, s.heap.size ≤ q → A q := fun q h => by rw [← hAe]; exact Or.inr h
  have hS : va_S A s.heap s.heap [] := va_S.rf
  have hiX2 : ∀ w ∈ u_ws RX2 TX2 3, w ∈ wsX2_part := by decide +kernel
  have hl := lv_entry ([.ref dr, .int p0, .int p1]) (n := 3) (Nat.le_of_ble_eq_true rfl)
  rw [lg_entry_eq]
  generalize (lg_sl ([.ref dr, .int p0, .int p1]) ++ List.replicate (3 - (lg_sl ([.ref dr, .int p0, .int p1])).length) Slot.unset).toArray = ls at hl ⊢
  have hl : lv_has ls 3 [(0, .ref dr), (1, .int p0), (2, .int p1)] := hl
  refine lv_aload_n hx hb dX2_part_0 rfl (lv_at hl 0 rfl) ?_
  refine lv_iload_n hx hb dX2_part_1 rfl (lv_at hl 1 rfl) ?_
  have hPc := hP.sub (ws' := [(dr, .inr (2, [.ref dp, .ref dc, .int (nI n)]))]) [0] rfl
  refine va_calli (va_runV (As := [.int p0]) (rest := []) ⟨hx, hb, hml, hown, hts⟩ (mz_d_has l dC dI cI cJ cZ dr dp dc n p0 s.heap (by first | assumption | omega)) (cwV 1 hts gX2_part_X2_has rfl rfl rfl (by decide +kernel) ⟨Nat.le_of_ble_eq_true rfl, Nat.le_of_ble_eq_true rfl⟩) ⟨fun a U g mk q => mz_blP q, va_recv hK hPc (ci := 2) (q0 := 0) rfl rfl, fun U hU hW => ⟨rfl, hU, hPc, va_K.moved hW.alike hK, mz_nw hW hN⟩⟩ rfl rfl hl.1 rfl (lv_room (Nat.le_of_ble_eq_true rfl)) dX2_part_2 ⟨Nat.le_of_ble_eq_true rfl, Nat.le_of_ble_eq_true rfl⟩) hS (fun q _ h => h.elim) (fun q h => h.elim) (fun r_2 u t H1 locs ht hvm hw_2 hB hz1 hk1 hS => ?_)
  have hE : s.heap = H1 := hB.symm.trans ht
  subst hE
  rcases (show (r_2 = 1 ∧ ∃ j : Nat, j < n ∧ p0 = nI j) ∨ r_2 = 0 from hw_2) with ⟨rfl, j_2, hj_2, he_2⟩ | rfl
  · skip
    subst he_2
    refine lv_if_eq (tgt := 46) hx hb dX2_part_5 (by decide) (fun c_5 => absurd c_5 (by decide +kernel)) (fun _ => ?_)
    refine lv_aload_n hx hb dX2_part_8 rfl (lv_at hl 0 rfl) ?_
    refine lv_iload_n hx hb dX2_part_9 rfl (lv_at hl 2 rfl) ?_
    have hPc := hP.sub (ws' := [(dr, .inr (2, [.ref dp, .ref dc, .int (nI n)]))]) [0] rfl
    refine va_calli (va_runV (As := [.int p1]) (rest := []) ⟨hx, hb, hml, hown, hts⟩ (mz_d_has l dC dI cI cJ cZ dr dp dc n p1 s.heap (by first | assumption | omega)) (cwV 1 hts gX2_part_X2_has rfl rfl rfl (by decide +kernel) ⟨Nat.le_of_ble_eq_true rfl, Nat.le_of_ble_eq_true rfl⟩) ⟨fun a U g mk q => mz_blP q, va_recv hK hPc (ci := 2) (q0 := 0) rfl rfl, fun U hU hW => ⟨rfl, hU, hPc, va_K.moved hW.alike hK, mz_nw hW hN⟩⟩ rfl rfl hl.1 rfl (lv_room (Nat.le_of_ble_eq_true rfl)) dX2_part_10 ⟨Nat.le_of_ble_eq_true rfl, Nat.le_of_ble_eq_true rfl⟩) hS (fun q _ h => h.elim) (fun q h => h.elim) (fun r_10 u t H1 locs ht hvm hw_10 hB hz1 hk1 hS => ?_)
    have hE : s.heap = H1 := hB.symm.trans ht
    subst hE
    rcases (show (r_10 = 1 ∧ ∃ j : Nat, j < n ∧ p1 = nI j) ∨ r_10 = 0 from hw_10) with ⟨rfl, j_10, hj_10, he_10⟩ | rfl
    · skip
      subst he_10
      refine lv_if_eq (tgt := 46) hx hb dX2_part_13 (by decide) (fun c_13 => absurd c_13 (by decide +kernel)) (fun _ => ?_)
      refine lv_aload_n hx hb dX2_part_16 rfl (lv_at hl 0 rfl) ?_
      refine va_get (D := (dC, dI)) (ci := 2) (v := .ref dc) (C := RX2) (T := TX2) (N := 3) hx hb hts hiX2 hown hK hP 0 rfl rfl 1 (by decide) (hts (.fieldLink RX2 15 "MadeItSo$Drawing" "children" "[I") (by decide +kernel)) (fun _ h9 => h9) rfl dX2_part_17 ?_
      refine lv_iload_n hx hb dX2_part_20 rfl (lv_at hl 1 rfl) ?_
      refine lv_dup2_11 hx hb dX2_part_21 rfl rfl ?_
      refine va_iald hx hb hK hP 2 0 rfl rfl (vp_in_nI (by omega) (by omega)) dX2_part_22 ?_
      refine lv_topi (fun v_22 ev_22 => ?_)
      refine lv_iload_n hx hb dX2_part_23 rfl (lv_at hl 2 rfl) ?_
      have hPc := hP.sub (ws' := []) [] rfl
      refine va_calli (va_runSN (As := [.int (nI j_10)]) (rest := [.int v_22, .int (nI j_2), .ref dc]) ⟨hx, hb, hml, hown, hts⟩ (mz_g_bit l dC dI cI cJ cZ (nI j_10) s.heap ) ⟨va_cnB (host := "MadeItSo") 1 hts gX2_part_X7_bit_n37 rfl rfl rfl (hN (RX2, 37, yX7_bit, "MadeItSo") (by decide +kernel)) (hts (.initialized RX7) (by decide +kernel)) (by decide +kernel) ⟨Nat.le_of_ble_eq_true rfl, Nat.le_of_ble_eq_true rfl⟩, hts (.static yX7_bit) (by decide +kernel), trivial⟩ ⟨fun a U g mk q => mz_blP q, fun U hU hW => ⟨rfl, hU, hPc, va_K.moved hW.alike hK, mz_nw hW hN⟩⟩ rfl rfl hl.1 rfl (lv_room (Nat.le_of_ble_eq_true rfl)) dX2_part_24 ⟨Nat.le_of_ble_eq_true rfl, Nat.le_of_ble_eq_true rfl⟩) hS (fun q _ h => h.elim) (fun q h => h.elim) (fun r_24 u t H1 locs ht hvm hw_24 hB hz1 hk1 hS => ?_)
      have hE : s.heap = H1 := hB.symm.trans ht
      subst hE
      obtain rfl : r_24 = (1 <<< ((nI j_10) &&& 31)) := hw_24
      refine lv_iconst (v := (-1)) hx hb dX2_part_27 (by decide +kernel) ?_
      refine lv_ixor hx hb dX2_part_28 ?_
      refine lv_topi (fun v_28 ev_28 => ?_)
      refine lv_iand hx hb dX2_part_29 ?_
      refine lv_topi (fun v_29 ev_29 => ?_)
      refine va_iast hx hb hK hP hD hS 2 0 rfl rfl (vp_in_nI (by omega) (by omega)) dX2_part_30 (fun H locs hP hD hS => ?_)
      have hP : va_P (dC, dI) vwCl [(dr, .inr (2, [.ref dp, .ref dc, .int (nI n)])), (dp, .inl (cI, 8, .inl fp)), (dc, .inl (cI, 8, .inl (upd fc ((nI j_2) : Int32).toNatClampNeg v_29)))] H := hP
      have hD : va_D A [(dr, .inr (2, [.ref dp, .ref dc, .int (nI n)])), (dp, .inl (cI, 8, .inl fp)), (dc, .inl (cI, 8, .inl (upd fc ((nI j_2) : Int32).toNatClampNeg v_29)))] := hD
      generalize (upd fc ((nI j_2) : Int32).toNatClampNeg v_29) = f_30 at hP hD
      refine lv_aload_n hx hb dX2_part_31 rfl (lv_at hl 0 rfl) ?_
      refine va_get (D := (dC, dI)) (ci := 2) (v := .ref dp) (C := RX2) (T := TX2) (N := 3) hx hb hts hiX2 hown hK hP 0 rfl rfl 0 (by decide) (hts (.fieldLink RX2 9 "MadeItSo$Drawing" "parents" "[I") (by decide +kernel)) (fun _ h9 => h9) rfl dX2_part_32 ?_
      refine lv_iload_n hx hb dX2_part_35 rfl (lv_at hl 2 rfl) ?_
      refine lv_dup2_11 hx hb dX2_part_36 rfl rfl ?_
      refine va_iald hx hb hK hP 1 0 rfl rfl (vp_in_nI (by omega) (by omega)) dX2_part_37 ?_
      refine lv_topi (fun v_37 ev_37 => ?_)
      refine lv_iload_n hx hb dX2_part_38 rfl (lv_at hl 1 rfl) ?_
      have hPc := hP.sub (ws' := []) [] rfl
      refine va_calli (va_runSN (As := [.int (nI j_2)]) (rest := [.int v_37, .int (nI j_10), .ref dp]) ⟨hx, hb, hml, hown, hts⟩ (mz_g_bit l dC dI cI cJ cZ (nI j_2) H ) ⟨va_cnB (host := "MadeItSo") 1 hts gX2_part_X7_bit_n37 rfl rfl rfl (hN (RX2, 37, yX7_bit, "MadeItSo") (by decide +kernel)) (hts (.initialized RX7) (by decide +kernel)) (by decide +kernel) ⟨Nat.le_of_ble_eq_true rfl, Nat.le_of_ble_eq_true rfl⟩, hts (.static yX7_bit) (by decide +kernel), trivial⟩ ⟨fun a U g mk q => mz_blP q, fun U hU hW => ⟨rfl, hU, hPc, va_K.moved hW.alike hK, mz_nw hW hN⟩⟩ rfl rfl hl.1 rfl (lv_room (Nat.le_of_ble_eq_true rfl)) dX2_part_39 ⟨Nat.le_of_ble_eq_true rfl, Nat.le_of_ble_eq_true rfl⟩) hS (fun q _ h => h.elim) (fun q h => h.elim) (fun r_39 u t H1 locs ht hvm hw_39 hB hz1 hk1 hS => ?_)
      have hE : H = H1 := hB.symm.trans ht
      subst hE
      obtain rfl : r_39 = (1 <<< ((nI j_2) &&& 31)) := hw_39
      refine lv_iconst (v := (-1)) hx hb dX2_part_42 (by decide +kernel) ?_
      refine lv_ixor hx hb dX2_part_43 ?_
      refine lv_topi (fun v_43 ev_43 => ?_)
      refine lv_iand hx hb dX2_part_44 ?_
      refine lv_topi (fun v_44 ev_44 => ?_)
      refine va_iast hx hb hK hP hD hS 1 0 rfl rfl (vp_in_nI (by omega) (by omega)) dX2_part_45 (fun H locs hP hD hS => ?_)
      have hP : va_P (dC, dI) vwCl [(dr, .inr (2, [.ref dp, .ref dc, .int (nI n)])), (dp, .inl (cI, 8, .inl (upd fp ((nI j_10) : Int32).toNatClampNeg v_44))), (dc, .inl (cI, 8, .inl f_30))] H := hP
      have hD : va_D A [(dr, .inr (2, [.ref dp, .ref dc, .int (nI n)])), (dp, .inl (cI, 8, .inl (upd fp ((nI j_10) : Int32).toNatClampNeg v_44))), (dc, .inl (cI, 8, .inl f_30))] := hD
      generalize (upd fp ((nI j_10) : Int32).toNatClampNeg v_44) = f_45 at hP hD
      have hP9 := hP.sub (ws' := [(dr, .inr (2, [.ref dp, .ref dc, .int (nI n)])), (dp, .inl (cI, 8, .inl f_45)), (dc, .inl (cI, 8, .inl f_30))]) [0, 1, 2] rfl
      have hD9 := hD.sub (ws' := [(dr, .inr (2, [.ref dp, .ref dc, .int (nI n)])), (dp, .inl (cI, 8, .inl f_45)), (dc, .inl (cI, 8, .inl f_30))]) [0, 1, 2] (by decide) rfl
      refine W.widen (k := 0) (n := 0) (Nat.le_of_ble_eq_true rfl) (Nat.le_of_ble_eq_true rfl) ?_
      exact W.vret hx hb hr (fun t ht hW => ⟨⟨(), rfl, trivial, f_45, f_30, by rw [ht]; exact hP9, hD9⟩, hS.F ht⟩) hS.2.2 dX2_part_46
    · skip
      refine lv_if_eq (tgt := 46) hx hb dX2_part_13 (by decide) (fun _ => ?_) (fun c_13 => absurd (by decide +kernel) c_13)
      have hP9 := hP.sub (ws' := [(dr, .inr (2, [.ref dp, .ref dc, .int (nI n)])), (dp, .inl (cI, 8, .inl fp)), (dc, .inl (cI, 8, .inl fc))]) [0, 1, 2] rfl
      have hD9 := hD.sub (ws' := [(dr, .inr (2, [.ref dp, .ref dc, .int (nI n)])), (dp, .inl (cI, 8, .inl fp)), (dc, .inl (cI, 8, .inl fc))]) [0, 1, 2] (by decide) rfl
      refine W.widen (k := 0) (n := 0) (Nat.le_of_ble_eq_true rfl) (Nat.le_of_ble_eq_true rfl) ?_
      exact W.vret hx hb hr (fun t ht hW => ⟨⟨(), rfl, trivial, fp, fc, by rw [ht]; exact hP9, hD9⟩, hS.F ht⟩) hS.2.2 dX2_part_46
  · skip
    refine lv_if_eq (tgt := 46) hx hb dX2_part_5 (by decide) (fun _ => ?_) (fun c_5 => absurd (by decide +kernel) c_5)
    have hP9 := hP.sub (ws' := [(dr, .inr (2, [.ref dp, .ref dc, .int (nI n)])), (dp, .inl (cI, 8, .inl fp)), (dc, .inl (cI, 8, .inl fc))]) [0, 1, 2] rfl
    have hD9 := hD.sub (ws' := [(dr, .inr (2, [.ref dp, .ref dc, .int (nI n)])), (dp, .inl (cI, 8, .inl fp)), (dc, .inl (cI, 8, .inl fc))]) [0, 1, 2] (by decide) rfl
    refine W.widen (k := 0) (n := 0) (Nat.le_of_ble_eq_true rfl) (Nat.le_of_ble_eq_true rfl) ?_
    exact W.vret hx hb hr (fun t ht hW => ⟨⟨(), rfl, trivial, fp, fc, by rw [ht]; exact hP9, hD9⟩, hS.F ht⟩) hS.2.2 dX2_part_46
set_option maxHeartbeats 1000000 in
set_option maxRecDepth 100000 in
theorem mz_b_isPlace (l : Launch) (dC : Nat → ClassId) (dI : Nat → Nat → Nat) (cI cJ cZ : ClassId) (p0 : Int32) (p1 : Int32) (Hq : Heap)  : Met l yX1_isPlace wsX1_isPlace ({ frames := 0, cells := 0, slots := 0, locals := 0 }) (va_Pc [.int p0, .int p1] (fun U => U.heap = Hq ∧ va_P (dC, dI) vwCl [] Hq ∧ va_K (dC, dI) vwCl [(cI, FieldType.int), (cJ, FieldType.long), (cZ, FieldType.boolean)] U ∧ mz_N U)) (va_Qi (fun (r : Int32) (_ : Unit) => (r = 1 ∧ ∃ i j : Nat, i < 8 ∧ j < 128 ∧ p0 = nI i ∧ p1 = nI j) ∨ r = 0) (fun _ t => t.heap = Hq) (fun _ : Nat => False)) 0 0 (fun _ : Nat => False) := by
  refine Met.ofW (cc := cX1_isPlace) (maxL := 2) (ret := (some .boolean)) (by decide) rfl ?_
  intro p e s m args below meth c s₁ B hml hv
  obtain ⟨rfl, hH, hP, hK, hN⟩ := hv
  subst hH
  have hx := B.exec
  have hb := B.bytes
  have hr := B.returns
  have hts := atoms_spec (ws := wsX1_isPlace) B.pre
  have hown : s.vm.findClass RX1 = some m.cls := findClass_of_methodNamed B.named
  have hlocks := B.notSynchronized
  have hS : va_S (fun _ : Nat => False) s.heap s.heap [] := va_S.rf
  have hl := lv_entry ([.int p0, .int p1]) (n := 2) (Nat.le_of_ble_eq_true rfl)
  rw [lg_entry_eq]
  generalize (lg_sl ([.int p0, .int p1]) ++ List.replicate (2 - (lg_sl ([.int p0, .int p1])).length) Slot.unset).toArray = ls at hl ⊢
  have hl : lv_has ls 2 [(0, .int p0), (1, .int p1)] := hl
  refine lv_iload_n hx hb dX1_isPlace_0 rfl (lv_at hl 0 rfl) ?_
  refine lv_if_lt (tgt := 25) hx hb dX1_isPlace_1 (by decide) (fun c_1 => ?_) (fun c_1 => ?_)
  · skip
    refine lv_iconst (v := 0) hx hb dX1_isPlace_25 (by decide +kernel) ?_
    refine W.widen (k := 0) (n := 0) (Nat.le_of_ble_eq_true rfl) (Nat.le_of_ble_eq_true rfl) ?_
    exact W.zret (v := 0) hx hb hr (mz_nz (by decide +kernel)) (fun t ht hW => ⟨⟨0, (), rfl, Or.inr rfl, ht⟩, hS.F ht⟩) hS.2.2 dX1_isPlace_26
  · skip
    refine lv_iload_n hx hb dX1_isPlace_4 rfl (lv_at hl 0 rfl) ?_
    refine lv_bipush (v := 8) hx hb dX1_isPlace_5 (by decide +kernel) ?_
    refine lv_icmp_ge (tgt := 25) hx hb dX1_isPlace_7 (by decide) (fun c_7 => ?_) (fun c_7 => ?_)
    · skip
      refine lv_iconst (v := 0) hx hb dX1_isPlace_25 (by decide +kernel) ?_
      refine W.widen (k := 0) (n := 0) (Nat.le_of_ble_eq_true rfl) (Nat.le_of_ble_eq_true rfl) ?_
      exact W.zret (v := 0) hx hb hr (mz_nz (by decide +kernel)) (fun t ht hW => ⟨⟨0, (), rfl, Or.inr rfl, ht⟩, hS.F ht⟩) hS.2.2 dX1_isPlace_26
    · skip
      refine lv_iload_n hx hb dX1_isPlace_10 rfl (lv_at hl 1 rfl) ?_
      refine lv_if_lt (tgt := 25) hx hb dX1_isPlace_11 (by decide) (fun c_11 => ?_) (fun c_11 => ?_)
      · skip
        refine lv_iconst (v := 0) hx hb dX1_isPlace_25 (by decide +kernel) ?_
        refine W.widen (k := 0) (n := 0) (Nat.le_of_ble_eq_true rfl) (Nat.le_of_ble_eq_true rfl) ?_
        exact W.zret (v := 0) hx hb hr (mz_nz (by decide +kernel)) (fun t ht hW => ⟨⟨0, (), rfl, Or.inr rfl, ht⟩, hS.F ht⟩) hS.2.2 dX1_isPlace_26
      · skip
        refine lv_iload_n hx hb dX1_isPlace_14 rfl (lv_at hl 1 rfl) ?_
        refine lv_sipush (v := 128) hx hb dX1_isPlace_15 (by decide +kernel) ?_
        refine lv_icmp_ge (tgt := 25) hx hb dX1_isPlace_18 (by decide) (fun c_18 => ?_) (fun c_18 => ?_)
        · skip
          refine lv_iconst (v := 0) hx hb dX1_isPlace_25 (by decide +kernel) ?_
          refine W.widen (k := 0) (n := 0) (Nat.le_of_ble_eq_true rfl) (Nat.le_of_ble_eq_true rfl) ?_
          exact W.zret (v := 0) hx hb hr (mz_nz (by decide +kernel)) (fun t ht hW => ⟨⟨0, (), rfl, Or.inr rfl, ht⟩, hS.F ht⟩) hS.2.2 dX1_isPlace_26
        · skip
          refine lv_iconst (v := 1) hx hb dX1_isPlace_21 (by decide +kernel) ?_
          refine lv_goto (tgt := 26) hx hb dX1_isPlace_22 (by decide) ?_
          refine W.widen (k := 0) (n := 0) (Nat.le_of_ble_eq_true rfl) (Nat.le_of_ble_eq_true rfl) ?_
          exact W.zret (v := 1) hx hb hr (mz_nz (by decide +kernel)) (fun t ht hW => ⟨⟨1, (), rfl, Or.inl ⟨rfl, mz_pl2 c_1 c_7 c_11 c_18⟩, ht⟩, hS.F ht⟩) hS.2.2 dX1_isPlace_26
set_option maxHeartbeats 1000000 in
set_option maxRecDepth 100000 in
theorem mz_b_read (l : Launch) (dC : Nat → ClassId) (dI : Nat → Nat → Nat) (cI cJ cZ : ClassId) (bk : Nat) (bp : Nat) (fb : Nat → Int32) (p0 : Int32) (p1 : Int32) (Hq : Heap)  : Met l yX1_read wsX1_read ({ frames := 1, cells := 0, slots := 0, locals := 21 }) (va_Pc [.ref bk, .int p0, .int p1] (fun U => U.heap = Hq ∧ va_P (dC, dI) vwCl [(bk, .inr (1, [.ref bp])), (bp, .inl (cI, 1024, .inl fb))] Hq ∧ va_K (dC, dI) vwCl [(cI, FieldType.int), (cJ, FieldType.long), (cZ, FieldType.boolean)] U ∧ mz_N U)) (va_Qi (fun (r : Int32) (_ : Unit) => True) (fun _ t => t.heap = Hq) (fun _ : Nat => False)) 0 0 (fun _ : Nat => False) := by
  refine Met.ofW (cc := cX1_read) (maxL := 3) (ret := (some .int)) (by decide) rfl ?_
  intro p e s m args below meth c s₁ B hml hv
  obtain ⟨rfl, hH, hP, hK, hN⟩ := hv
  subst hH
  have hx := B.exec
  have hb := B.bytes
  have hr := B.returns
  have hts := atoms_spec (ws := wsX1_read) B.pre
  have hown : s.vm.findClass RX1 = some m.cls := findClass_of_methodNamed B.named
  have hlocks := B.notSynchronized
  have hS : va_S (fun _ : Nat => False) s.heap s.heap [] := va_S.rf
  have hiX1 : ∀ w ∈ u_ws RX1 TX1 1, w ∈ wsX1_read := by decide +kernel
  have hl := lv_entry ([.ref bk, .int p0, .int p1]) (n := 3) (Nat.le_of_ble_eq_true rfl)
  rw [lg_entry_eq]
  generalize (lg_sl ([.ref bk, .int p0, .int p1]) ++ List.replicate (3 - (lg_sl ([.ref bk, .int p0, .int p1])).length) Slot.unset).toArray = ls at hl ⊢
  have hl : lv_has ls 3 [(0, .ref bk), (1, .int p0), (2, .int p1)] := hl
  refine lv_iload_n hx hb dX1_read_0 rfl (lv_at hl 1 rfl) ?_
  refine lv_iload_n hx hb dX1_read_1 rfl (lv_at hl 2 rfl) ?_
  have hPc := hP.sub (ws' := []) [] rfl
  refine va_calli (va_runS (As := [.int p0, .int p1]) (rest := []) ⟨hx, hb, hml, hown, hts⟩ (mz_b_isPlace l dC dI cI cJ cZ p0 p1 s.heap ) (va_cwS 2 hts gX1_read_X1_isPlace rfl rfl rfl (by decide +kernel) ⟨Nat.le_of_ble_eq_true rfl, Nat.le_of_ble_eq_true rfl⟩) ⟨fun a U g mk q => mz_blP q, fun U hU hW => ⟨rfl, hU, hPc, va_K.moved hW.alike hK, mz_nw hW hN⟩⟩ rfl rfl hl.1 rfl (lv_room (Nat.le_of_ble_eq_true rfl)) dX1_read_2 ⟨Nat.le_of_ble_eq_true rfl, Nat.le_of_ble_eq_true rfl⟩) hS (fun q _ h => h.elim) (fun q h => h.elim) (fun r_2 u t H1 locs ht hvm hw_2 hB hz1 hk1 hS => ?_)
  have hE : s.heap = H1 := hB.symm.trans ht
  subst hE
  rcases (show (r_2 = 1 ∧ ∃ i j : Nat, i < 8 ∧ j < 128 ∧ p0 = nI i ∧ p1 = nI j) ∨ r_2 = 0 from hw_2) with ⟨rfl, i_2, j_2, hi_2, hj_2, he_2, hf_2⟩ | rfl
  · skip
    subst he_2
    subst hf_2
    refine lv_if_eq (tgt := 23) hx hb dX1_read_5 (by decide) (fun c_5 => absurd c_5 (by decide +kernel)) (fun _ => ?_)
    refine lv_aload_n hx hb dX1_read_8 rfl (lv_at hl 0 rfl) ?_
    refine va_get (D := (dC, dI)) (ci := 1) (v := .ref bp) (C := RX1) (T := TX1) (N := 1) hx hb hts hiX1 hown hK hP 0 rfl rfl 0 (by decide) (hts (.fieldLink RX1 9 "MadeItSo$Books" "parts" "[I") (by decide +kernel)) (fun _ h9 => h9) rfl dX1_read_9 ?_
    refine lv_iload_n hx hb dX1_read_12 rfl (lv_at hl 1 rfl) ?_
    refine lv_sipush (v := 128) hx hb dX1_read_13 (by decide +kernel) ?_
    refine lv_imul hx hb dX1_read_16 ?_
    refine mz_ti (y := (nI (i_2 * 128))) (pk_mul _ _) ?_
    refine lv_iload_n hx hb dX1_read_17 rfl (lv_at hl 2 rfl) ?_
    refine lv_iadd hx hb dX1_read_18 ?_
    refine mz_ti (y := (nI ((i_2 * 128) + j_2))) (nI_add _ _) ?_
    refine va_iald hx hb hK hP 1 0 rfl rfl (vp_in_nI (by omega) (by omega)) dX1_read_19 ?_
    refine lv_topi (fun v_19 ev_19 => ?_)
    refine lv_goto (tgt := 24) hx hb dX1_read_20 (by decide) ?_
    refine W.widen (k := 0) (n := 0) (Nat.le_of_ble_eq_true rfl) (Nat.le_of_ble_eq_true rfl) ?_
    exact W.iret (v := v_19) hx hb hr (fun t ht hW => ⟨⟨v_19, (), rfl, trivial, ht⟩, hS.F ht⟩) hS.2.2 dX1_read_24
  · skip
    refine lv_if_eq (tgt := 23) hx hb dX1_read_5 (by decide) (fun _ => ?_) (fun c_5 => absurd (by decide +kernel) c_5)
    refine lv_iconst (v := (-1)) hx hb dX1_read_23 (by decide +kernel) ?_
    refine W.widen (k := 0) (n := 0) (Nat.le_of_ble_eq_true rfl) (Nat.le_of_ble_eq_true rfl) ?_
    exact W.iret (v := (-1)) hx hb hr (fun t ht hW => ⟨⟨(-1), (), rfl, trivial, ht⟩, hS.F ht⟩) hS.2.2 dX1_read_24
set_option maxHeartbeats 1000000 in
set_option maxRecDepth 100000 in
theorem mz_b_write (l : Launch) (dC : Nat → ClassId) (dI : Nat → Nat → Nat) (cI cJ cZ : ClassId) (bk : Nat) (bp : Nat) (fb : Nat → Int32) (p0 : Int32) (p1 : Int32) (p2 : Int32) (sz : Nat)  : Met l yX1_write wsX1_write ({ frames := 1, cells := 0, slots := 0, locals := 21 }) (va_Pc [.ref bk, .int p0, .int p1, .int p2] (fun U => U.heap.size = sz ∧ va_P (dC, dI) vwCl [(bk, .inr (1, [.ref bp])), (bp, .inl (cI, 1024, .inl fb))] U.heap ∧ va_K (dC, dI) vwCl [(cI, FieldType.int), (cJ, FieldType.long), (cZ, FieldType.boolean)] U ∧ va_D (fun _ => True) [(bk, .inr (1, [.ref bp])), (bp, .inl (cI, 1024, .inl fb))] ∧ mz_N U)) (va_Qv (fun (_ : Unit) => True) (fun _ t => ∃ (gb : Nat → Int32), va_P (dC, dI) vwCl [(bk, .inr (1, [.ref bp])), (bp, .inl (cI, 1024, .inl gb))] t.heap ∧ va_D (va_A [(bk, .inr (1, [.ref bp])), (bp, .inl (cI, 1024, .inl fb))] sz) [(bk, .inr (1, [.ref bp])), (bp, .inl (cI, 1024, .inl gb))]) (va_A [(bk, .inr (1, [.ref bp])), (bp, .inl (cI, 1024, .inl fb))] sz)) 0 0 (va_A [(bk, .inr (1, [.ref bp])), (bp, .inl (cI, 1024, .inl fb))] sz) := by
  refine Met.ofW (cc := cX1_write) (maxL := 4) (ret := none) (by decide) rfl ?_
  intro p e s m args below meth c s₁ B hml hv
  obtain ⟨rfl, hsz, hP, hK, hD0, hN⟩ := hv
  subst hsz
  have hx := B.exec
  have hb := B.bytes
  have hr := B.returns
  have hts := atoms_spec (ws := wsX1_write) B.pre
  have hown : s.vm.findClass RX1 = some m.cls := findClass_of_methodNamed B.named
  have hlocks := B.notSynchronized
  have hD := hD0.self (sz := s.heap.size)
  generalize hAe : va_A [(bk, .inr (1, [.ref bp])), (bp, .inl (cI, 1024, .inl fb))] s.heap.size = A at hD ⊢
  have hA : ∀ q : Nat, s.heap.size ≤ q → A q := fun q h => by rw [← hAe]; exact Or.inr h
  have hS : va_S A s.heap s.heap [] := va_S.rf
  have hiX1 : ∀ w ∈ u_ws RX1 TX1 1, w ∈ wsX1_write := by decide +kernel
  have hl := lv_entry ([.ref bk, .int p0, .int p1, .int p2]) (n := 4) (Nat.le_of_ble_eq_true rfl)
  rw [lg_entry_eq]
  generalize (lg_sl ([.ref bk, .int p0, .int p1, .int p2]) ++ List.replicate (4 - (lg_sl ([.ref bk, .int p0, .int p1, .int p2])).length) Slot.unset).toArray = ls at hl ⊢
  have hl : lv_has ls 4 [(0, .ref bk), (1, .int p0), (2, .int p1), (3, .int p2)] := hl
  refine lv_iload_n hx hb dX1_write_0 rfl (lv_at hl 1 rfl) ?_
  refine lv_iload_n hx hb dX1_write_1 rfl (lv_at hl 2 rfl) ?_
  have hPc := hP.sub (ws' := []) [] rfl
  refine va_calli (va_runS (As := [.int p0, .int p1]) (rest := []) ⟨hx, hb, hml, hown, hts⟩ (mz_b_isPlace l dC dI cI cJ cZ p0 p1 s.heap ) (va_cwS 2 hts gX1_write_X1_isPlace rfl rfl rfl (by decide +kernel) ⟨Nat.le_of_ble_eq_true rfl, Nat.le_of_ble_eq_true rfl⟩) ⟨fun a U g mk q => mz_blP q, fun U hU hW => ⟨rfl, hU, hPc, va_K.moved hW.alike hK, mz_nw hW hN⟩⟩ rfl rfl hl.1 rfl (lv_room (Nat.le_of_ble_eq_true rfl)) dX1_write_2 ⟨Nat.le_of_ble_eq_true rfl, Nat.le_of_ble_eq_true rfl⟩) hS (fun q _ h => h.elim) (fun q h => h.elim) (fun r_2 u t H1 locs ht hvm hw_2 hB hz1 hk1 hS => ?_)
  have hE : s.heap = H1 := hB.symm.trans ht
  subst hE
  rcases (show (r_2 = 1 ∧ ∃ i j : Nat, i < 8 ∧ j < 128 ∧ p0 = nI i ∧ p1 = nI j) ∨ r_2 = 0 from hw_2) with ⟨rfl, i_2, j_2, hi_2, hj_2, he_2, hf_2⟩ | rfl
  · skip
    subst he_2
    subst hf_2
    refine lv_if_eq (tgt := 21) hx hb dX1_write_5 (by decide) (fun c_5 => absurd c_5 (by decide +kernel)) (fun _ => ?_)
    refine lv_aload_n hx hb dX1_write_8 rfl (lv_at hl 0 rfl) ?_
    refine va_get (D := (dC, dI)) (ci := 1) (v := .ref bp) (C := RX1) (T := TX1) (N := 1) hx hb hts hiX1 hown hK hP 0 rfl rfl 0 (by decide) (hts (.fieldLink RX1 9 "MadeItSo$Books" "parts" "[I") (by decide +kernel)) (fun _ h9 => h9) rfl dX1_write_9 ?_
    refine lv_iload_n hx hb dX1_write_12 rfl (lv_at hl 1 rfl) ?_
    refine lv_sipush (v := 128) hx hb dX1_write_13 (by decide +kernel) ?_
    refine lv_imul hx hb dX1_write_16 ?_
    refine mz_ti (y := (nI (i_2 * 128))) (pk_mul _ _) ?_
    refine lv_iload_n hx hb dX1_write_17 rfl (lv_at hl 2 rfl) ?_
    refine lv_iadd hx hb dX1_write_18 ?_
    refine mz_ti (y := (nI ((i_2 * 128) + j_2))) (nI_add _ _) ?_
    refine lv_iload_n hx hb dX1_write_19 rfl (lv_at hl 3 rfl) ?_
    refine va_iast hx hb hK hP hD hS 1 0 rfl rfl (vp_in_nI (by omega) (by omega)) dX1_write_20 (fun H locs hP hD hS => ?_)
    have hP : va_P (dC, dI) vwCl [(bk, .inr (1, [.ref bp])), (bp, .inl (cI, 1024, .inl (upd fb ((nI ((i_2 * 128) + j_2)) : Int32).toNatClampNeg p2)))] H := hP
    have hD : va_D A [(bk, .inr (1, [.ref bp])), (bp, .inl (cI, 1024, .inl (upd fb ((nI ((i_2 * 128) + j_2)) : Int32).toNatClampNeg p2)))] := hD
    generalize (upd fb ((nI ((i_2 * 128) + j_2)) : Int32).toNatClampNeg p2) = f_20 at hP hD
    have hP9 := hP.sub (ws' := [(bk, .inr (1, [.ref bp])), (bp, .inl (cI, 1024, .inl f_20))]) [0, 1] rfl
    have hD9 := hD.sub (ws' := [(bk, .inr (1, [.ref bp])), (bp, .inl (cI, 1024, .inl f_20))]) [0, 1] (by decide) rfl
    refine W.widen (k := 0) (n := 0) (Nat.le_of_ble_eq_true rfl) (Nat.le_of_ble_eq_true rfl) ?_
    exact W.vret hx hb hr (fun t ht hW => ⟨⟨(), rfl, trivial, f_20, by rw [ht]; exact hP9, hD9⟩, hS.F ht⟩) hS.2.2 dX1_write_21
  · skip
    refine lv_if_eq (tgt := 21) hx hb dX1_write_5 (by decide) (fun _ => ?_) (fun c_5 => absurd (by decide +kernel) c_5)
    have hP9 := hP.sub (ws' := [(bk, .inr (1, [.ref bp])), (bp, .inl (cI, 1024, .inl fb))]) [0, 1] rfl
    have hD9 := hD.sub (ws' := [(bk, .inr (1, [.ref bp])), (bp, .inl (cI, 1024, .inl fb))]) [0, 1] (by decide) rfl
    refine W.widen (k := 0) (n := 0) (Nat.le_of_ble_eq_true rfl) (Nat.le_of_ble_eq_true rfl) ?_
    exact W.vret hx hb hr (fun t ht hW => ⟨⟨(), rfl, trivial, fb, by rw [ht]; exact hP9, hD9⟩, hS.F ht⟩) hS.2.2 dX1_write_21
set_option maxHeartbeats 1000000 in
set_option maxRecDepth 100000 in
theorem mz_b_blank (l : Launch) (dC : Nat → ClassId) (dI : Nat → Nat → Nat) (cI cJ cZ : ClassId) (bk : Nat) (bp : Nat) (fb : Nat → Int32) (p0 : Int32) (sz : Nat)  : Met l yX1_blank wsX1_blank ({ frames := 0, cells := 0, slots := 0, locals := 0 }) (va_Pc [.ref bk, .int p0] (fun U => U.heap.size = sz ∧ va_P (dC, dI) vwCl [(bk, .inr (1, [.ref bp])), (bp, .inl (cI, 1024, .inl fb))] U.heap ∧ va_K (dC, dI) vwCl [(cI, FieldType.int), (cJ, FieldType.long), (cZ, FieldType.boolean)] U ∧ va_D (fun _ => True) [(bk, .inr (1, [.ref bp])), (bp, .inl (cI, 1024, .inl fb))] ∧ mz_N U)) (va_Qv (fun (_ : Unit) => True) (fun _ t => ∃ (gb : Nat → Int32), va_P (dC, dI) vwCl [(bk, .inr (1, [.ref bp])), (bp, .inl (cI, 1024, .inl gb))] t.heap ∧ va_D (va_A [(bk, .inr (1, [.ref bp])), (bp, .inl (cI, 1024, .inl fb))] sz) [(bk, .inr (1, [.ref bp])), (bp, .inl (cI, 1024, .inl gb))]) (va_A [(bk, .inr (1, [.ref bp])), (bp, .inl (cI, 1024, .inl fb))] sz)) 0 0 (va_A [(bk, .inr (1, [.ref bp])), (bp, .inl (cI, 1024, .inl fb))] sz) := by
  refine Met.ofW (cc := cX1_blank) (maxL := 3) (ret := none) (by decide) rfl ?_
  intro p e s m args below meth c s₁ B hml hv
  obtain ⟨rfl, hsz, hP, hK, hD0, hN⟩ := hv
  subst hsz
  have hx := B.exec
  have hb := B.bytes
  have hr := B.returns
  have hts := atoms_spec (ws := wsX1_blank) B.pre
  have hown : s.vm.findClass RX1 = some m.cls := findClass_of_methodNamed B.named
  have hlocks := B.notSynchronized
  have hD := hD0.self (sz := s.heap.size)
  generalize hAe : va_A [(bk, .inr (1, [.ref bp])), (bp, .inl (cI, 1024, .inl fb))] s.heap.size = A at hD ⊢
  have hA : ∀ q : Nat, s.heap.size ≤ q → A q := fun q h => by rw [← hAe]; exact Or.inr h
  have hS : va_S A s.heap s.heap [] := va_S.rf
  have hiX1 : ∀ w ∈ u_ws RX1 TX1 1, w ∈ wsX1_blank := by decide +kernel
  have hl := lv_entry ([.ref bk, .int p0]) (n := 3) (Nat.le_of_ble_eq_true rfl)
  rw [lg_entry_eq]
  generalize (lg_sl ([.ref bk, .int p0]) ++ List.replicate (3 - (lg_sl ([.ref bk, .int p0])).length) Slot.unset).toArray = ls at hl ⊢
  have hl : lv_has ls 3 [(0, .ref bk), (1, .int p0)] := hl
  refine lv_iload_n hx hb dX1_blank_0 rfl (lv_at hl 1 rfl) ?_
  refine lv_if_lt (tgt := 39) hx hb dX1_blank_1 (by decide) (fun c_1 => ?_) (fun c_1 => ?_)
  · skip
    have hP9 := hP.sub (ws' := [(bk, .inr (1, [.ref bp])), (bp, .inl (cI, 1024, .inl fb))]) [0, 1] rfl
    have hD9 := hD.sub (ws' := [(bk, .inr (1, [.ref bp])), (bp, .inl (cI, 1024, .inl fb))]) [0, 1] (by decide) rfl
    refine W.widen (k := 0) (n := 0) (Nat.le_of_ble_eq_true rfl) (Nat.le_of_ble_eq_true rfl) ?_
    exact W.vret hx hb hr (fun t ht hW => ⟨⟨(), rfl, trivial, fb, by rw [ht]; exact hP9, hD9⟩, hS.F ht⟩) hS.2.2 dX1_blank_39
  · skip
    refine lv_iload_n hx hb dX1_blank_4 rfl (lv_at hl 1 rfl) ?_
    refine lv_bipush (v := 8) hx hb dX1_blank_5 (by decide +kernel) ?_
    refine lv_icmp_ge (tgt := 39) hx hb dX1_blank_7 (by decide) (fun c_7 => ?_) (fun c_7 => ?_)
    · skip
      have hP9 := hP.sub (ws' := [(bk, .inr (1, [.ref bp])), (bp, .inl (cI, 1024, .inl fb))]) [0, 1] rfl
      have hD9 := hD.sub (ws' := [(bk, .inr (1, [.ref bp])), (bp, .inl (cI, 1024, .inl fb))]) [0, 1] (by decide) rfl
      refine W.widen (k := 0) (n := 0) (Nat.le_of_ble_eq_true rfl) (Nat.le_of_ble_eq_true rfl) ?_
      exact W.vret hx hb hr (fun t ht hW => ⟨⟨(), rfl, trivial, fb, by rw [ht]; exact hP9, hD9⟩, hS.F ht⟩) hS.2.2 dX1_blank_39
    · skip
      obtain ⟨j_10, hj_10, he_10⟩ := mz_ix (n := 8) c_1 c_7 (by omega)
      subst he_10
      refine lv_iconst (v := 0) hx hb dX1_blank_10 (by decide +kernel) ?_
      refine lv_istore_n (lv' := [(2, .int 0), (0, .ref bk), (1, .int (nI j_10))]) hx hb dX1_blank_11 rfl hl (by decide) rfl (fun ls hl => ?_)
      refine mz_loopU (fun k H locs ls => ∃ (i_12 : Nat), ∃ (fbp_12 : Nat → Int32), i_12 ≤ 128 ∧ va_P (dC, dI) vwCl [(bk, .inr (1, [.ref bp])), (bp, .inl (cI, 1024, .inl fbp_12))] H ∧ va_D A [(bk, .inr (1, [.ref bp])), (bp, .inl (cI, 1024, .inl fbp_12))] ∧ va_S A s.heap H locs ∧ lv_has ls 3 [(2, .int (nI i_12)), (0, .ref bk), (1, .int (nI j_10))] ∧ k = 128 - i_12) ?_ _ _ _ _ ⟨0, fb, by omega, hP, hD, hS, lv_sub hl [0, 1, 2] rfl, rfl⟩
      intro k_12 H locs ls hI_12 ih_12
      obtain ⟨i_12, fbp_12, hi_12, hP, hD, hS, hl, hk_12⟩ := hI_12
      refine lv_iload_n hx hb dX1_blank_12 rfl (lv_at hl 0 rfl) ?_
      refine lv_sipush (v := 128) hx hb dX1_blank_13 (by decide +kernel) ?_
      refine lv_icmp_ge (tgt := 39) hx hb dX1_blank_16 (by decide) (fun c_16 => ?_) (fun c_16 => ?_)
      · skip
        have d_16 : 128 ≤ i_12 := (nI_leI (a := 128) (b := i_12) (by omega) (by omega)).mp c_16
        have hP9 := hP.sub (ws' := [(bk, .inr (1, [.ref bp])), (bp, .inl (cI, 1024, .inl fbp_12))]) [0, 1] rfl
        have hD9 := hD.sub (ws' := [(bk, .inr (1, [.ref bp])), (bp, .inl (cI, 1024, .inl fbp_12))]) [0, 1] (by decide) rfl
        refine W.widen (k := 0) (n := 0) (Nat.le_of_ble_eq_true rfl) (Nat.le_of_ble_eq_true rfl) ?_
        exact W.vret hx hb hr (fun t ht hW => ⟨⟨(), rfl, trivial, fbp_12, by rw [ht]; exact hP9, hD9⟩, hS.F ht⟩) hS.2.2 dX1_blank_39
      · skip
        have d_16 : ¬ 128 ≤ i_12 := fun h => c_16 ((nI_leI (a := 128) (b := i_12) (by omega) (by omega)).mpr h)
        refine lv_aload_n hx hb dX1_blank_19 rfl (lv_at hl 1 rfl) ?_
        refine va_get (D := (dC, dI)) (ci := 1) (v := .ref bp) (C := RX1) (T := TX1) (N := 1) hx hb hts hiX1 hown hK hP 0 rfl rfl 0 (by decide) (hts (.fieldLink RX1 9 "MadeItSo$Books" "parts" "[I") (by decide +kernel)) (fun _ h9 => h9) rfl dX1_blank_20 ?_
        refine lv_iload_n hx hb dX1_blank_23 rfl (lv_at hl 2 rfl) ?_
        refine lv_sipush (v := 128) hx hb dX1_blank_24 (by decide +kernel) ?_
        refine lv_imul hx hb dX1_blank_27 ?_
        refine mz_ti (y := (nI (j_10 * 128))) (pk_mul _ _) ?_
        refine lv_iload_n hx hb dX1_blank_28 rfl (lv_at hl 0 rfl) ?_
        refine lv_iadd hx hb dX1_blank_29 ?_
        refine mz_ti (y := (nI ((j_10 * 128) + i_12))) (nI_add _ _) ?_
        refine lv_bipush (v := 50) hx hb dX1_blank_30 (by decide +kernel) ?_
        refine va_iast hx hb hK hP hD hS 1 0 rfl rfl (vp_in_nI (by omega) (by omega)) dX1_blank_32 (fun H locs hP hD hS => ?_)
        have hP : va_P (dC, dI) vwCl [(bk, .inr (1, [.ref bp])), (bp, .inl (cI, 1024, .inl (upd fbp_12 ((nI ((j_10 * 128) + i_12)) : Int32).toNatClampNeg 50)))] H := hP
        have hD : va_D A [(bk, .inr (1, [.ref bp])), (bp, .inl (cI, 1024, .inl (upd fbp_12 ((nI ((j_10 * 128) + i_12)) : Int32).toNatClampNeg 50)))] := hD
        generalize (upd fbp_12 ((nI ((j_10 * 128) + i_12)) : Int32).toNatClampNeg 50) = f_32 at hP hD
        refine lv_iinc (v := (nI (i_12 + 1))) (lv' := [(2, .int (nI (i_12 + 1))), (0, .ref bk), (1, .int (nI j_10))]) hx hb dX1_blank_33 hl (k := 0) rfl (nI_1 _) (by decide) rfl (fun ls hl => ?_)
        refine lv_goto (tgt := 12) hx hb dX1_blank_36 (by decide) ?_
        exact ih_12 _ (by omega) _ _ _ ⟨(i_12 + 1), f_32, by omega, hP, hD, hS, lv_sub hl [0, 1, 2] rfl, rfl⟩
set_option maxHeartbeats 1000000 in
set_option maxRecDepth 100000 in
theorem mz_b_rowOf (l : Launch) (dC : Nat → ClassId) (dI : Nat → Nat → Nat) (cI cJ cZ : ClassId) (p0 : Int32) (p1 : Int32) (Hq : Heap)  : Met l yX1_rowOf wsX1_rowOf ({ frames := 1, cells := 0, slots := 0, locals := 21 }) (va_Pc [.int p0, .int p1] (fun U => U.heap = Hq ∧ va_P (dC, dI) vwCl [] Hq ∧ va_K (dC, dI) vwCl [(cI, FieldType.int), (cJ, FieldType.long), (cZ, FieldType.boolean)] U ∧ mz_N U)) (va_Qi (fun (r : Int32) (_ : Unit) => True) (fun _ t => t.heap = Hq) (fun _ : Nat => False)) 0 0 (fun _ : Nat => False) := by
  refine Met.ofW (cc := cX1_rowOf) (maxL := 5) (ret := (some .int)) (by decide) rfl ?_
  intro p e s m args below meth c s₁ B hml hv
  obtain ⟨rfl, hH, hP, hK, hN⟩ := hv
  subst hH
  have hx := B.exec
  have hb := B.bytes
  have hr := B.returns
  have hts := atoms_spec (ws := wsX1_rowOf) B.pre
  have hown : s.vm.findClass RX1 = some m.cls := findClass_of_methodNamed B.named
  have hlocks := B.notSynchronized
  have hS : va_S (fun _ : Nat => False) s.heap s.heap [] := va_S.rf
  have hl := lv_entry ([.int p0, .int p1]) (n := 5) (Nat.le_of_ble_eq_true rfl)
  rw [lg_entry_eq]
  generalize (lg_sl ([.int p0, .int p1]) ++ List.replicate (5 - (lg_sl ([.int p0, .int p1])).length) Slot.unset).toArray = ls at hl ⊢
  have hl : lv_has ls 5 [(0, .int p0), (1, .int p1)] := hl
  refine lv_iconst (v := 0) hx hb dX1_rowOf_0 (by decide +kernel) ?_
  refine lv_istore_n (lv' := [(2, .int 0), (0, .int p0), (1, .int p1)]) hx hb dX1_rowOf_1 rfl hl (by decide) rfl (fun ls hl => ?_)
  refine lv_iconst (v := 0) hx hb dX1_rowOf_2 (by decide +kernel) ?_
  refine lv_istore_n (lv' := [(3, .int 0), (2, .int 0), (0, .int p0), (1, .int p1)]) hx hb dX1_rowOf_3 rfl hl (by decide) rfl (fun ls hl => ?_)
  refine lv_iconst (v := 0) hx hb dX1_rowOf_4 (by decide +kernel) ?_
  refine lv_istore (lv' := [(4, .int 0), (3, .int 0), (2, .int 0), (0, .int p0), (1, .int p1)]) hx hb dX1_rowOf_5 hl (by decide) rfl (fun ls hl => ?_)
  refine mz_loopU (fun k H locs ls => ∃ (i_7 : Nat), ∃ (x3_7 : Int32), ∃ (x2_7 : Int32), i_7 ≤ 8 ∧ H = s.heap ∧ va_S (fun _ : Nat => False) s.heap H locs ∧ lv_has ls 5 [(4, .int (nI i_7)), (3, .int x3_7), (2, .int x2_7), (0, .int p0), (1, .int p1)] ∧ k = 8 - i_7) ?_ _ _ _ _ ⟨0, 0, 0, by omega, rfl, hS, lv_sub hl [0, 1, 2, 3, 4] rfl, rfl⟩
  intro k_7 H locs ls hI_7 ih_7
  obtain ⟨i_7, x3_7, x2_7, hi_7, hH_7, hS, hl, hk_7⟩ := hI_7
  subst hH_7
  refine lv_iload hx hb dX1_rowOf_7 (lv_at hl 0 rfl) ?_
  refine lv_bipush (v := 8) hx hb dX1_rowOf_9 (by decide +kernel) ?_
  refine lv_icmp_ge (tgt := 43) hx hb dX1_rowOf_11 (by decide) (fun c_11 => ?_) (fun c_11 => ?_)
  · skip
    have d_11 : 8 ≤ i_7 := (nI_leI (a := 8) (b := i_7) (by omega) (by omega)).mp c_11
    refine lv_iload_n hx hb dX1_rowOf_43 rfl (lv_at hl 2 rfl) ?_
    refine W.widen (k := 0) (n := 0) (Nat.le_of_ble_eq_true rfl) (Nat.le_of_ble_eq_true rfl) ?_
    exact W.iret (v := x2_7) hx hb hr (fun t ht hW => ⟨⟨x2_7, (), rfl, trivial, ht⟩, hS.F ht⟩) hS.2.2 dX1_rowOf_44
  · skip
    have d_11 : ¬ 8 ≤ i_7 := fun h => c_11 ((nI_leI (a := 8) (b := i_7) (by omega) (by omega)).mpr h)
    refine lv_iload_n hx hb dX1_rowOf_14 rfl (lv_at hl 3 rfl) ?_
    refine lv_iload hx hb dX1_rowOf_15 (lv_at hl 0 rfl) ?_
    have hPc := hP.sub (ws' := []) [] rfl
    refine va_calli (va_runSN (As := [.int p0, .int (nI i_7)]) (rest := []) ⟨hx, hb, hml, hown, hts⟩ (mz_g_inHeap l dC dI cI cJ cZ p0 (nI i_7) s.heap ) ⟨va_cnB (host := "MadeItSo") 2 hts gX1_rowOf_X7_inHeap_n23 rfl rfl rfl (hN (RX1, 23, yX7_inHeap, "MadeItSo") (by decide +kernel)) (hts (.initialized RX7) (by decide +kernel)) (by decide +kernel) ⟨Nat.le_of_ble_eq_true rfl, Nat.le_of_ble_eq_true rfl⟩, hts (.static yX7_inHeap) (by decide +kernel), trivial⟩ ⟨fun a U g mk q => mz_blP q, fun U hU hW => ⟨rfl, hU, hPc, va_K.moved hW.alike hK, mz_nw hW hN⟩⟩ rfl rfl hl.1 rfl (lv_room (Nat.le_of_ble_eq_true rfl)) dX1_rowOf_17 ⟨Nat.le_of_ble_eq_true rfl, Nat.le_of_ble_eq_true rfl⟩) hS (fun q _ h => h.elim) (fun q h => h.elim) (fun r_17 u t H1 locs ht hvm hw_17 hB hz1 hk1 hS => ?_)
    have hE : s.heap = H1 := hB.symm.trans ht
    subst hE
    refine lv_if_eq (tgt := 37) hx hb dX1_rowOf_20 (by decide) (fun c_20 => ?_) (fun c_20 => ?_)
    · skip
      refine lv_iinc (v := (nI (i_7 + 1))) (lv' := [(4, .int (nI (i_7 + 1))), (3, .int x3_7), (2, .int x2_7), (0, .int p0), (1, .int p1)]) hx hb dX1_rowOf_37 hl (k := 0) rfl (nI_1 _) (by decide) rfl (fun ls hl => ?_)
      refine lv_goto (tgt := 7) hx hb dX1_rowOf_40 (by decide) ?_
      exact ih_7 _ (by omega) _ _ _ ⟨(i_7 + 1), x3_7, x2_7, by omega, rfl, hS, lv_sub hl [0, 1, 2, 3, 4] rfl, rfl⟩
    · skip
      refine lv_iload_n hx hb dX1_rowOf_23 rfl (lv_at hl 2 rfl) ?_
      refine lv_iload_n hx hb dX1_rowOf_24 rfl (lv_at hl 4 rfl) ?_
      refine lv_iload hx hb dX1_rowOf_25 (lv_at hl 0 rfl) ?_
      refine lv_ishr hx hb dX1_rowOf_27 ?_
      refine lv_topi (fun v_27 ev_27 => ?_)
      refine lv_iconst (v := 1) hx hb dX1_rowOf_28 (by decide +kernel) ?_
      refine lv_iand hx hb dX1_rowOf_29 ?_
      refine lv_topi (fun v_29 ev_29 => ?_)
      refine lv_iload_n hx hb dX1_rowOf_30 rfl (lv_at hl 1 rfl) ?_
      refine lv_ishl hx hb dX1_rowOf_31 ?_
      refine lv_topi (fun v_31 ev_31 => ?_)
      refine lv_ior hx hb dX1_rowOf_32 ?_
      refine lv_topi (fun v_32 ev_32 => ?_)
      refine lv_istore_n (lv' := [(2, .int v_32), (4, .int (nI i_7)), (3, .int x3_7), (0, .int p0), (1, .int p1)]) hx hb dX1_rowOf_33 rfl hl (by decide) rfl (fun ls hl => ?_)
      obtain ⟨v_34, ev_34⟩ : ∃ y : Int32, y = x3_7 + Int32.ofInt 1 := ⟨_, rfl⟩
      refine lv_iinc (v := v_34) (lv' := [(3, .int v_34), (2, .int v_32), (4, .int (nI i_7)), (0, .int p0), (1, .int p1)]) hx hb dX1_rowOf_34 hl (k := 2) rfl ev_34.symm (by decide) rfl (fun ls hl => ?_)
      refine lv_iinc (v := (nI (i_7 + 1))) (lv' := [(4, .int (nI (i_7 + 1))), (3, .int v_34), (2, .int v_32), (0, .int p0), (1, .int p1)]) hx hb dX1_rowOf_37 hl (k := 2) rfl (nI_1 _) (by decide) rfl (fun ls hl => ?_)
      refine lv_goto (tgt := 7) hx hb dX1_rowOf_40 (by decide) ?_
      exact ih_7 _ (by omega) _ _ _ ⟨(i_7 + 1), v_34, v_32, by omega, rfl, hS, lv_sub hl [0, 1, 2, 3, 4] rfl, rfl⟩
set_option maxHeartbeats 1000000 in
set_option maxRecDepth 100000 in
theorem mz_b_partsUnder (l : Launch) (dC : Nat → ClassId) (dI : Nat → Nat → Nat) (cI cJ cZ : ClassId) (bk : Nat) (bp : Nat) (fb : Nat → Int32) (dr : Nat) (dp : Nat) (dc : Nat) (n : Nat) (fp : Nat → Int32) (p1 : Int32) (p2 : Int32) (p3 : Int32) (Hq : Heap) (hn : n ≤ 8) : Met l yX1_partsUnder wsX1_partsUnder ({ frames := 2, cells := 0, slots := 0, locals := 45 }) (va_Pc [.ref bk, .ref dr, .int p1, .int p2, .int p3] (fun U => U.heap = Hq ∧ va_P (dC, dI) vwCl [(bk, .inr (1, [.ref bp])), (bp, .inl (cI, 1024, .inl fb)), (dr, .inr (2, [.ref dp, .ref dc, .int (nI n)])), (dp, .inl (cI, 8, .inl fp))] Hq ∧ va_K (dC, dI) vwCl [(cI, FieldType.int), (cJ, FieldType.long), (cZ, FieldType.boolean)] U ∧ mz_N U)) (va_Qi (fun (r : Int32) (_ : Unit) => True) (fun _ t => t.heap = Hq) (fun _ : Nat => False)) 0 0 (fun _ : Nat => False) := by
  refine Met.ofW (cc := cX1_partsUnder) (maxL := 5) (ret := (some .int)) (by decide) rfl ?_
  intro p e s m args below meth c s₁ B hml hv
  obtain ⟨rfl, hH, hP, hK, hN⟩ := hv
  subst hH
  have hx := B.exec
  have hb := B.bytes
  have hr := B.returns
  have hts := atoms_spec (ws := wsX1_partsUnder) B.pre
  have hown : s.vm.findClass RX1 = some m.cls := findClass_of_methodNamed B.named
  have hlocks := B.notSynchronized
  have hS : va_S (fun _ : Nat => False) s.heap s.heap [] := va_S.rf
  have hl := lv_entry ([.ref bk, .ref dr, .int p1, .int p2, .int p3]) (n := 5) (Nat.le_of_ble_eq_true rfl)
  rw [lg_entry_eq]
  generalize (lg_sl ([.ref bk, .ref dr, .int p1, .int p2, .int p3]) ++ List.replicate (5 - (lg_sl ([.ref bk, .ref dr, .int p1, .int p2, .int p3])).length) Slot.unset).toArray = ls at hl ⊢
  have hl : lv_has ls 5 [(0, .ref bk), (1, .ref dr), (2, .int p1), (3, .int p2), (4, .int p3)] := hl
  refine lv_iload hx hb dX1_partsUnder_0 (lv_at hl 4 rfl) ?_
  have hPc := hP.sub (ws' := []) [] rfl
  refine va_calli (va_runSN (As := [.int p3]) (rest := []) ⟨hx, hb, hml, hown, hts⟩ (mz_g_heapOf l dC dI cI cJ cZ p3 s.heap ) ⟨va_cnB (host := "MadeItSo") 1 hts gX1_partsUnder_X7_heapOf_n19 rfl rfl rfl (hN (RX1, 19, yX7_heapOf, "MadeItSo") (by decide +kernel)) (hts (.initialized RX7) (by decide +kernel)) (by decide +kernel) ⟨Nat.le_of_ble_eq_true rfl, Nat.le_of_ble_eq_true rfl⟩, hts (.static yX7_heapOf) (by decide +kernel), trivial⟩ ⟨fun a U g mk q => mz_blP q, fun U hU hW => ⟨rfl, hU, hPc, va_K.moved hW.alike hK, mz_nw hW hN⟩⟩ rfl rfl hl.1 rfl (lv_room (Nat.le_of_ble_eq_true rfl)) dX1_partsUnder_2 ⟨Nat.le_of_ble_eq_true rfl, Nat.le_of_ble_eq_true rfl⟩) hS (fun q _ h => h.elim) (fun q h => h.elim) (fun r_2 u t H1 locs ht hvm hw_2 hB hz1 hk1 hS => ?_)
  have hE : s.heap = H1 := hB.symm.trans ht
  subst hE
  refine lv_iload_n hx hb dX1_partsUnder_5 rfl (lv_at hl 2 rfl) ?_
  have hPc := hP.sub (ws' := []) [] rfl
  refine va_calli (va_runSN (As := [.int r_2, .int p1]) (rest := []) ⟨hx, hb, hml, hown, hts⟩ (mz_g_inHeap l dC dI cI cJ cZ r_2 p1 s.heap ) ⟨va_cnB (host := "MadeItSo") 2 hts gX1_partsUnder_X7_inHeap_n23 rfl rfl rfl (hN (RX1, 23, yX7_inHeap, "MadeItSo") (by decide +kernel)) (hts (.initialized RX7) (by decide +kernel)) (by decide +kernel) ⟨Nat.le_of_ble_eq_true rfl, Nat.le_of_ble_eq_true rfl⟩, hts (.static yX7_inHeap) (by decide +kernel), trivial⟩ ⟨fun a U g mk q => mz_blP q, fun U hU hW => ⟨rfl, hU, hPc, va_K.moved hW.alike hK, mz_nw hW hN⟩⟩ rfl rfl hl.1 rfl (lv_room (Nat.le_of_ble_eq_true rfl)) dX1_partsUnder_6 ⟨Nat.le_of_ble_eq_true rfl, Nat.le_of_ble_eq_true rfl⟩) hS (fun q _ h => h.elim) (fun q h => h.elim) (fun r_6 u t H1 locs ht hvm hw_6 hB hz1 hk1 hS => ?_)
  have hE : s.heap = H1 := hB.symm.trans ht
  subst hE
  refine lv_if_eq (tgt := 31) hx hb dX1_partsUnder_9 (by decide) (fun c_9 => ?_) (fun c_9 => ?_)
  · skip
    refine lv_aload_n hx hb dX1_partsUnder_31 rfl (lv_at hl 0 rfl) ?_
    refine lv_iload_n hx hb dX1_partsUnder_32 rfl (lv_at hl 2 rfl) ?_
    refine lv_aload_n hx hb dX1_partsUnder_33 rfl (lv_at hl 1 rfl) ?_
    refine lv_iload_n hx hb dX1_partsUnder_34 rfl (lv_at hl 2 rfl) ?_
    have hPc := hP.sub (ws' := [(dr, .inr (2, [.ref dp, .ref dc, .int (nI n)])), (dp, .inl (cI, 8, .inl fp))]) [2, 3] rfl
    refine va_calli (va_runV (As := [.int p1]) (rest := [.int p1, .ref bk]) ⟨hx, hb, hml, hown, hts⟩ (mz_d_parentsOf l dC dI cI cJ cZ dr dp dc n fp p1 s.heap (by first | assumption | omega)) (cwV 1 hts gX1_partsUnder_X2_parentsOf rfl rfl rfl (by decide +kernel) ⟨Nat.le_of_ble_eq_true rfl, Nat.le_of_ble_eq_true rfl⟩) ⟨fun a U g mk q => mz_blP q, va_recv hK hPc (ci := 2) (q0 := 0) rfl rfl, fun U hU hW => ⟨rfl, hU, hPc, va_K.moved hW.alike hK, mz_nw hW hN⟩⟩ rfl rfl hl.1 rfl (lv_room (Nat.le_of_ble_eq_true rfl)) dX1_partsUnder_35 ⟨Nat.le_of_ble_eq_true rfl, Nat.le_of_ble_eq_true rfl⟩) hS (fun q _ h => h.elim) (fun q h => h.elim) (fun r_35 u t H1 locs ht hvm hw_35 hB hz1 hk1 hS => ?_)
    have hE : s.heap = H1 := hB.symm.trans ht
    subst hE
    refine lv_iload_n hx hb dX1_partsUnder_38 rfl (lv_at hl 3 rfl) ?_
    have hPc := hP.sub (ws' := []) [] rfl
    refine va_calli (va_runS (As := [.int r_35, .int p2]) (rest := [.int p1, .ref bk]) ⟨hx, hb, hml, hown, hts⟩ (mz_b_rowOf l dC dI cI cJ cZ r_35 p2 s.heap ) (va_cwS 2 hts gX1_partsUnder_X1_rowOf rfl rfl rfl (by decide +kernel) ⟨Nat.le_of_ble_eq_true rfl, Nat.le_of_ble_eq_true rfl⟩) ⟨fun a U g mk q => mz_blP q, fun U hU hW => ⟨rfl, hU, hPc, va_K.moved hW.alike hK, mz_nw hW hN⟩⟩ rfl rfl hl.1 rfl (lv_room (Nat.le_of_ble_eq_true rfl)) dX1_partsUnder_39 ⟨Nat.le_of_ble_eq_true rfl, Nat.le_of_ble_eq_true rfl⟩) hS (fun q _ h => h.elim) (fun q h => h.elim) (fun r_39 u t H1 locs ht hvm hw_39 hB hz1 hk1 hS => ?_)
    have hE : s.heap = H1 := hB.symm.trans ht
    subst hE
    have hPc := hP.sub (ws' := [(bk, .inr (1, [.ref bp])), (bp, .inl (cI, 1024, .inl fb))]) [0, 1] rfl
    refine va_calli (va_runV (As := [.int p1, .int r_39]) (rest := []) ⟨hx, hb, hml, hown, hts⟩ (mz_b_read l dC dI cI cJ cZ bk bp fb p1 r_39 s.heap ) (cwV 2 hts gX1_partsUnder_X1_read rfl rfl rfl (by decide +kernel) ⟨Nat.le_of_ble_eq_true rfl, Nat.le_of_ble_eq_true rfl⟩) ⟨fun a U g mk q => mz_blP q, va_recv hK hPc (ci := 1) (q0 := 0) rfl rfl, fun U hU hW => ⟨rfl, hU, hPc, va_K.moved hW.alike hK, mz_nw hW hN⟩⟩ rfl rfl hl.1 rfl (lv_room (Nat.le_of_ble_eq_true rfl)) dX1_partsUnder_42 ⟨Nat.le_of_ble_eq_true rfl, Nat.le_of_ble_eq_true rfl⟩) hS (fun q _ h => h.elim) (fun q h => h.elim) (fun r_42 u t H1 locs ht hvm hw_42 hB hz1 hk1 hS => ?_)
    have hE : s.heap = H1 := hB.symm.trans ht
    subst hE
    refine W.widen (k := 0) (n := 0) (Nat.le_of_ble_eq_true rfl) (Nat.le_of_ble_eq_true rfl) ?_
    exact W.iret (v := r_42) hx hb hr (fun t ht hW => ⟨⟨r_42, (), rfl, trivial, ht⟩, hS.F ht⟩) hS.2.2 dX1_partsUnder_45
  · skip
    refine lv_iload hx hb dX1_partsUnder_12 (lv_at hl 4 rfl) ?_
    have hPc := hP.sub (ws' := []) [] rfl
    refine va_calli (va_runSN (As := [.int p3]) (rest := []) ⟨hx, hb, hml, hown, hts⟩ (mz_g_onesOf l dC dI cI cJ cZ p3 s.heap ) ⟨va_cnB (host := "MadeItSo") 1 hts gX1_partsUnder_X7_onesOf_n26 rfl rfl rfl (hN (RX1, 26, yX7_onesOf, "MadeItSo") (by decide +kernel)) (hts (.initialized RX7) (by decide +kernel)) (by decide +kernel) ⟨Nat.le_of_ble_eq_true rfl, Nat.le_of_ble_eq_true rfl⟩, hts (.static yX7_onesOf) (by decide +kernel), trivial⟩ ⟨fun a U g mk q => mz_blP q, fun U hU hW => ⟨rfl, hU, hPc, va_K.moved hW.alike hK, mz_nw hW hN⟩⟩ rfl rfl hl.1 rfl (lv_room (Nat.le_of_ble_eq_true rfl)) dX1_partsUnder_14 ⟨Nat.le_of_ble_eq_true rfl, Nat.le_of_ble_eq_true rfl⟩) hS (fun q _ h => h.elim) (fun q h => h.elim) (fun r_14 u t H1 locs ht hvm hw_14 hB hz1 hk1 hS => ?_)
    have hE : s.heap = H1 := hB.symm.trans ht
    subst hE
    refine lv_iload_n hx hb dX1_partsUnder_17 rfl (lv_at hl 2 rfl) ?_
    have hPc := hP.sub (ws' := []) [] rfl
    refine va_calli (va_runSN (As := [.int r_14, .int p1]) (rest := []) ⟨hx, hb, hml, hown, hts⟩ (mz_g_inHeap l dC dI cI cJ cZ r_14 p1 s.heap ) ⟨va_cnB (host := "MadeItSo") 2 hts gX1_partsUnder_X7_inHeap_n23 rfl rfl rfl (hN (RX1, 23, yX7_inHeap, "MadeItSo") (by decide +kernel)) (hts (.initialized RX7) (by decide +kernel)) (by decide +kernel) ⟨Nat.le_of_ble_eq_true rfl, Nat.le_of_ble_eq_true rfl⟩, hts (.static yX7_inHeap) (by decide +kernel), trivial⟩ ⟨fun a U g mk q => mz_blP q, fun U hU hW => ⟨rfl, hU, hPc, va_K.moved hW.alike hK, mz_nw hW hN⟩⟩ rfl rfl hl.1 rfl (lv_room (Nat.le_of_ble_eq_true rfl)) dX1_partsUnder_18 ⟨Nat.le_of_ble_eq_true rfl, Nat.le_of_ble_eq_true rfl⟩) hS (fun q _ h => h.elim) (fun q h => h.elim) (fun r_18 u t H1 locs ht hvm hw_18 hB hz1 hk1 hS => ?_)
    have hE : s.heap = H1 := hB.symm.trans ht
    subst hE
    refine lv_if_eq (tgt := 29) hx hb dX1_partsUnder_21 (by decide) (fun c_21 => ?_) (fun c_21 => ?_)
    · skip
      refine lv_iconst (v := 0) hx hb dX1_partsUnder_29 (by decide +kernel) ?_
      refine W.widen (k := 0) (n := 0) (Nat.le_of_ble_eq_true rfl) (Nat.le_of_ble_eq_true rfl) ?_
      exact W.iret (v := 0) hx hb hr (fun t ht hW => ⟨⟨0, (), rfl, trivial, ht⟩, hS.F ht⟩) hS.2.2 dX1_partsUnder_30
    · skip
      refine lv_bipush (v := 100) hx hb dX1_partsUnder_24 (by decide +kernel) ?_
      refine lv_goto (tgt := 30) hx hb dX1_partsUnder_26 (by decide) ?_
      refine W.widen (k := 0) (n := 0) (Nat.le_of_ble_eq_true rfl) (Nat.le_of_ble_eq_true rfl) ?_
      exact W.iret (v := 100) hx hb hr (fun t ht hW => ⟨⟨100, (), rfl, trivial, ht⟩, hS.F ht⟩) hS.2.2 dX1_partsUnder_30
set_option maxHeartbeats 1000000 in
set_option maxRecDepth 100000 in
theorem mz_w_split (l : Launch) (dC : Nat → ClassId) (dI : Nat → Nat → Nat) (cI cJ cZ : ClassId) (wt : Nat) (wo : Nat) (ev : Int32) (fw : Nat → Int64) (p0 : Int32) (p1 : Int32) (p2 : Int32) (sz : Nat)  : Met l yX6_split wsX6_split ({ frames := 0, cells := 0, slots := 0, locals := 0 }) (va_Pc [.ref wt, .int p0, .int p1, .int p2] (fun U => U.heap.size = sz ∧ va_P (dC, dI) vwCl [(wt, .inr (6, [.ref wo, .int ev])), (wo, .inl (cJ, 256, .inr (.inl fw)))] U.heap ∧ va_K (dC, dI) vwCl [(cI, FieldType.int), (cJ, FieldType.long), (cZ, FieldType.boolean)] U ∧ va_D (fun _ => True) [(wt, .inr (6, [.ref wo, .int ev])), (wo, .inl (cJ, 256, .inr (.inl fw)))] ∧ mz_N U)) (va_Qv (fun (_ : Unit) => True) (fun _ t => ∃ (gw : Nat → Int64), va_P (dC, dI) vwCl [(wt, .inr (6, [.ref wo, .int ev])), (wo, .inl (cJ, 256, .inr (.inl gw)))] t.heap ∧ va_D (va_A [(wt, .inr (6, [.ref wo, .int ev])), (wo, .inl (cJ, 256, .inr (.inl fw)))] sz) [(wt, .inr (6, [.ref wo, .int ev])), (wo, .inl (cJ, 256, .inr (.inl gw)))]) (va_A [(wt, .inr (6, [.ref wo, .int ev])), (wo, .inl (cJ, 256, .inr (.inl fw)))] sz)) 0 0 (va_A [(wt, .inr (6, [.ref wo, .int ev])), (wo, .inl (cJ, 256, .inr (.inl fw)))] sz) := by
  refine Met.ofW (cc := cX6_split) (maxL := 6) (ret := none) (by decide) rfl ?_
  intro p e s m args below meth c s₁ B hml hv
  obtain ⟨rfl, hsz, hP, hK, hD0, hN⟩ := hv
  subst hsz
  have hx := B.exec
  have hb := B.bytes
  have hr := B.returns
  have hts := atoms_spec (ws := wsX6_split) B.pre
  have hown : s.vm.findClass RX6 = some m.cls := findClass_of_methodNamed B.named
  have hlocks := B.notSynchronized
  have hD := hD0.self (sz := s.heap.size)
  generalize hAe : va_A [(wt, .inr (6, [.ref wo, .int ev])), (wo, .inl (cJ, 256, .inr (.inl fw)))] s.heap.size = A at hD ⊢
  have hA : ∀ q : Nat, s.heap.size ≤ q → A q := fun q h => by rw [← hAe]; exact Or.inr h
  have hS : va_S A s.heap s.heap [] := va_S.rf
  have hiX6 : ∀ w ∈ u_ws RX6 TX6 2, w ∈ wsX6_split := by decide +kernel
  have hl := lv_entry ([.ref wt, .int p0, .int p1, .int p2]) (n := 6) (Nat.le_of_ble_eq_true rfl)
  rw [lg_entry_eq]
  generalize (lg_sl ([.ref wt, .int p0, .int p1, .int p2]) ++ List.replicate (6 - (lg_sl ([.ref wt, .int p0, .int p1, .int p2])).length) Slot.unset).toArray = ls at hl ⊢
  have hl : lv_has ls 6 [(0, .ref wt), (1, .int p0), (2, .int p1), (3, .int p2)] := hl
  refine lv_iload_n hx hb dX6_split_0 rfl (lv_at hl 1 rfl) ?_
  refine lv_sipush (v := 255) hx hb dX6_split_1 (by decide +kernel) ?_
  refine lv_iand hx hb dX6_split_4 ?_
  obtain ⟨a_4, ha_4, ea_4⟩ := pk_andE (p0) (m := 255) 8 (by decide)
  have ha_4 : a_4 < 256 := ha_4
  refine mz_ti (y := (nI a_4)) ea_4 ?_
  refine lv_istore (lv' := [(4, .int (nI a_4)), (0, .ref wt), (1, .int p0), (2, .int p1), (3, .int p2)]) hx hb dX6_split_5 hl (by decide) rfl (fun ls hl => ?_)
  refine lv_iload_n hx hb dX6_split_7 rfl (lv_at hl 2 rfl) ?_
  refine lv_iload_n hx hb dX6_split_8 rfl (lv_at hl 3 rfl) ?_
  refine lv_ior hx hb dX6_split_9 ?_
  refine lv_topi (fun v_9 ev_9 => ?_)
  refine lv_sipush (v := 255) hx hb dX6_split_10 (by decide +kernel) ?_
  refine lv_iand hx hb dX6_split_13 ?_
  obtain ⟨a_13, ha_13, ea_13⟩ := pk_andE (v_9) (m := 255) 8 (by decide)
  have ha_13 : a_13 < 256 := ha_13
  refine mz_ti (y := (nI a_13)) ea_13 ?_
  refine lv_istore (lv' := [(5, .int (nI a_13)), (4, .int (nI a_4)), (0, .ref wt), (1, .int p0), (2, .int p1), (3, .int p2)]) hx hb dX6_split_14 hl (by decide) rfl (fun ls hl => ?_)
  refine lv_aload_n hx hb dX6_split_16 rfl (lv_at hl 2 rfl) ?_
  refine va_get (D := (dC, dI)) (ci := 6) (v := .ref wo) (C := RX6) (T := TX6) (N := 2) hx hb hts hiX6 hown hK hP 0 rfl rfl 0 (by decide) (hts (.fieldLink RX6 9 "MadeItSo$Weights" "ofCase" "[J") (by decide +kernel)) (fun _ h9 => h9) rfl dX6_split_17 ?_
  refine lv_iload hx hb dX6_split_20 (lv_at hl 0 rfl) ?_
  refine lv_aload_n hx hb dX6_split_22 rfl (lv_at hl 2 rfl) ?_
  refine va_get (D := (dC, dI)) (ci := 6) (v := .ref wo) (C := RX6) (T := TX6) (N := 2) hx hb hts hiX6 hown hK hP 0 rfl rfl 0 (by decide) (hts (.fieldLink RX6 9 "MadeItSo$Weights" "ofCase" "[J") (by decide +kernel)) (fun _ h9 => h9) rfl dX6_split_23 ?_
  refine lv_iload hx hb dX6_split_26 (lv_at hl 1 rfl) ?_
  refine va_lald hx hb hK hP 1 1 rfl rfl (vp_in_nI (by omega) (by omega)) dX6_split_28 ?_
  refine lv_topl (fun v_28 ev_28 => ?_)
  refine lv_iload_n hx hb dX6_split_29 rfl (lv_at hl 5 rfl) ?_
  refine lv_i2l hx hb dX6_split_30 rfl ?_
  refine lv_topl (fun v_30 ev_30 => ?_)
  refine lv_lmul hx hb dX6_split_31 ?_
  refine lv_topl (fun v_31 ev_31 => ?_)
  refine va_last hx hb hK hP hD hS 1 1 rfl rfl (vp_in_nI (by omega) (by omega)) dX6_split_32 (fun H locs hP hD hS => ?_)
  have hP : va_P (dC, dI) vwCl [(wt, .inr (6, [.ref wo, .int ev])), (wo, .inl (cJ, 256, .inr (.inl (vp_updL fw ((nI a_13) : Int32).toNatClampNeg v_31))))] H := hP
  have hD : va_D A [(wt, .inr (6, [.ref wo, .int ev])), (wo, .inl (cJ, 256, .inr (.inl (vp_updL fw ((nI a_13) : Int32).toNatClampNeg v_31))))] := hD
  generalize (vp_updL fw ((nI a_13) : Int32).toNatClampNeg v_31) = f_32 at hP hD
  refine lv_aload_n hx hb dX6_split_33 rfl (lv_at hl 2 rfl) ?_
  refine va_get (D := (dC, dI)) (ci := 6) (v := .ref wo) (C := RX6) (T := TX6) (N := 2) hx hb hts hiX6 hown hK hP 0 rfl rfl 0 (by decide) (hts (.fieldLink RX6 9 "MadeItSo$Weights" "ofCase" "[J") (by decide +kernel)) (fun _ h9 => h9) rfl dX6_split_34 ?_
  refine lv_iload hx hb dX6_split_37 (lv_at hl 1 rfl) ?_
  refine lv_dup2_11 hx hb dX6_split_39 rfl rfl ?_
  refine va_lald hx hb hK hP 1 1 rfl rfl (vp_in_nI (by omega) (by omega)) dX6_split_40 ?_
  refine lv_topl (fun v_40 ev_40 => ?_)
  refine lv_bipush (v := 100) hx hb dX6_split_41 (by decide +kernel) ?_
  refine lv_iload_n hx hb dX6_split_43 rfl (lv_at hl 5 rfl) ?_
  refine lv_isub hx hb dX6_split_44 ?_
  refine lv_topi (fun v_44 ev_44 => ?_)
  refine lv_i2l hx hb dX6_split_45 rfl ?_
  refine lv_topl (fun v_45 ev_45 => ?_)
  refine lv_lmul hx hb dX6_split_46 ?_
  refine lv_topl (fun v_46 ev_46 => ?_)
  refine va_last hx hb hK hP hD hS 1 1 rfl rfl (vp_in_nI (by omega) (by omega)) dX6_split_47 (fun H locs hP hD hS => ?_)
  have hP : va_P (dC, dI) vwCl [(wt, .inr (6, [.ref wo, .int ev])), (wo, .inl (cJ, 256, .inr (.inl (vp_updL f_32 ((nI a_4) : Int32).toNatClampNeg v_46))))] H := hP
  have hD : va_D A [(wt, .inr (6, [.ref wo, .int ev])), (wo, .inl (cJ, 256, .inr (.inl (vp_updL f_32 ((nI a_4) : Int32).toNatClampNeg v_46))))] := hD
  generalize (vp_updL f_32 ((nI a_4) : Int32).toNatClampNeg v_46) = f_47 at hP hD
  have hP9 := hP.sub (ws' := [(wt, .inr (6, [.ref wo, .int ev])), (wo, .inl (cJ, 256, .inr (.inl f_47)))]) [0, 1] rfl
  have hD9 := hD.sub (ws' := [(wt, .inr (6, [.ref wo, .int ev])), (wo, .inl (cJ, 256, .inr (.inl f_47)))]) [0, 1] (by decide) rfl
  refine W.widen (k := 0) (n := 0) (Nat.le_of_ble_eq_true rfl) (Nat.le_of_ble_eq_true rfl) ?_
  exact W.vret hx hb hr (fun t ht hW => ⟨⟨(), rfl, trivial, f_47, by rw [ht]; exact hP9, hD9⟩, hS.F ht⟩) hS.2.2 dX6_split_48
set_option maxHeartbeats 1000000 in
set_option maxRecDepth 100000 in
theorem mz_w_having (l : Launch) (dC : Nat → ClassId) (dI : Nat → Nat → Nat) (cI cJ cZ : ClassId) (wt : Nat) (wo : Nat) (ev : Int32) (fw : Nat → Int64) (p0 : Int32) (p1 : Int32) (Hq : Heap)  : Met l yX6_having wsX6_having ({ frames := 2, cells := 0, slots := 0, locals := 40 }) (va_Pc [.ref wt, .int p0, .int p1] (fun U => U.heap = Hq ∧ va_P (dC, dI) vwCl [(wt, .inr (6, [.ref wo, .int ev])), (wo, .inl (cJ, 256, .inr (.inl fw)))] Hq ∧ va_K (dC, dI) vwCl [(cI, FieldType.int), (cJ, FieldType.long), (cZ, FieldType.boolean)] U ∧ mz_N U)) (va_Ql (fun (r : Int64) (_ : Unit) => True) (fun _ t => t.heap = Hq) (fun _ : Nat => False)) 0 0 (fun _ : Nat => False) := by
  refine Met.ofW (cc := cX6_having) (maxL := 9) (ret := (some .long)) (by decide) rfl ?_
  intro p e s m args below meth c s₁ B hml hv
  obtain ⟨rfl, hH, hP, hK, hN⟩ := hv
  subst hH
  have hx := B.exec
  have hb := B.bytes
  have hr := B.returns
  have hts := atoms_spec (ws := wsX6_having) B.pre
  have hown : s.vm.findClass RX6 = some m.cls := findClass_of_methodNamed B.named
  have hlocks := B.notSynchronized
  have hS : va_S (fun _ : Nat => False) s.heap s.heap [] := va_S.rf
  have hiX6 : ∀ w ∈ u_ws RX6 TX6 2, w ∈ wsX6_having := by decide +kernel
  have hl := lv_entry ([.ref wt, .int p0, .int p1]) (n := 9) (Nat.le_of_ble_eq_true rfl)
  rw [lg_entry_eq]
  generalize (lg_sl ([.ref wt, .int p0, .int p1]) ++ List.replicate (9 - (lg_sl ([.ref wt, .int p0, .int p1])).length) Slot.unset).toArray = ls at hl ⊢
  have hl : lv_has ls 9 [(0, .ref wt), (1, .int p0), (2, .int p1)] := hl
  refine lv_aload_n hx hb dX6_having_0 rfl (lv_at hl 0 rfl) ?_
  refine va_get (D := (dC, dI)) (ci := 6) (v := .int ev) (C := RX6) (T := TX6) (N := 2) hx hb hts hiX6 hown hK hP 0 rfl rfl 1 (by decide) (hts (.fieldLink RX6 15 "MadeItSo$Weights" "everything" "I") (by decide +kernel)) (fun _ h9 => h9) rfl dX6_having_1 ?_
  refine lv_iload_n hx hb dX6_having_4 rfl (lv_at hl 1 rfl) ?_
  refine lv_iconst (v := (-1)) hx hb dX6_having_5 (by decide +kernel) ?_
  refine lv_ixor hx hb dX6_having_6 ?_
  refine lv_topi (fun v_6 ev_6 => ?_)
  refine lv_iand hx hb dX6_having_7 ?_
  refine lv_topi (fun v_7 ev_7 => ?_)
  refine lv_istore_n (lv' := [(3, .int v_7), (0, .ref wt), (1, .int p0), (2, .int p1)]) hx hb dX6_having_8 rfl hl (by decide) rfl (fun ls hl => ?_)
  refine lv_iload_n hx hb dX6_having_9 rfl (lv_at hl 0 rfl) ?_
  have hPc := hP.sub (ws' := []) [] rfl
  refine va_calli (va_runSN (As := [.int v_7]) (rest := []) ⟨hx, hb, hml, hown, hts⟩ (mz_g_partsOf l dC dI cI cJ cZ v_7 s.heap ) ⟨va_cnB (host := "MadeItSo") 1 hts gX6_having_X7_partsOf_n31 rfl rfl rfl (hN (RX6, 31, yX7_partsOf, "MadeItSo") (by decide +kernel)) (hts (.initialized RX7) (by decide +kernel)) (by decide +kernel) ⟨Nat.le_of_ble_eq_true rfl, Nat.le_of_ble_eq_true rfl⟩, hts (.static yX7_partsOf) (by decide +kernel), trivial⟩ ⟨fun a U g mk q => mz_blP q, fun U hU hW => ⟨rfl, hU, hPc, va_K.moved hW.alike hK, mz_nw hW hN⟩⟩ rfl rfl hl.1 rfl (lv_room (Nat.le_of_ble_eq_true rfl)) dX6_having_10 ⟨Nat.le_of_ble_eq_true rfl, Nat.le_of_ble_eq_true rfl⟩) hS (fun q _ h => h.elim) (fun q h => h.elim) (fun r_10 u t H1 locs ht hvm hw_10 hB hz1 hk1 hS => ?_)
  have hE : s.heap = H1 := hB.symm.trans ht
  subst hE
  refine lv_istore (lv' := [(4, .int r_10), (3, .int v_7), (0, .ref wt), (1, .int p0), (2, .int p1)]) hx hb dX6_having_13 hl (by decide) rfl (fun ls hl => ?_)
  refine lv_lconst (v := 0) hx hb dX6_having_15 (by decide +kernel) ?_
  refine lv_lstore (lv' := [(5, .long 0), (4, .int r_10), (3, .int v_7), (0, .ref wt), (1, .int p0), (2, .int p1)]) hx hb dX6_having_16 hl (by decide) rfl (fun ls hl => ?_)
  refine lv_iconst (v := 0) hx hb dX6_having_18 (by decide +kernel) ?_
  refine lv_istore (lv' := [(7, .int 0), (5, .long 0), (4, .int r_10), (3, .int v_7), (0, .ref wt), (1, .int p0), (2, .int p1)]) hx hb dX6_having_19 hl (by decide) rfl (fun ls hl => ?_)
  refine lv_iconst (v := 0) hx hb dX6_having_21 (by decide +kernel) ?_
  refine lv_istore (lv' := [(8, .int 0), (7, .int 0), (5, .long 0), (4, .int r_10), (3, .int v_7), (0, .ref wt), (1, .int p0), (2, .int p1)]) hx hb dX6_having_22 hl (by decide) rfl (fun ls hl => ?_)
  refine mz_loopU (fun k H locs ls => ∃ (x8_24 : Int32), ∃ (x7_24 : Int32), ∃ (x5_24 : Int64), H = s.heap ∧ va_S (fun _ : Nat => False) s.heap H locs ∧ lv_has ls 9 [(8, .int x8_24), (7, .int x7_24), (5, .long x5_24), (4, .int r_10), (3, .int v_7), (0, .ref wt), (1, .int p0), (2, .int p1)] ∧ k = ((r_10 : Int32).toInt - x7_24.toInt).toNat) ?_ _ _ _ _ ⟨0, 0, 0, rfl, hS, lv_sub hl [0, 1, 2, 3, 4, 5, 6, 7] rfl, rfl⟩
  intro k_24 H locs ls hI_24 ih_24
  obtain ⟨x8_24, x7_24, x5_24, hH_24, hS, hl, hk_24⟩ := hI_24
  subst hH_24
  refine lv_iload hx hb dX6_having_24 (lv_at hl 1 rfl) ?_
  refine lv_iload hx hb dX6_having_26 (lv_at hl 3 rfl) ?_
  refine lv_icmp_ge (tgt := 63) hx hb dX6_having_28 (by decide) (fun c_28 => ?_) (fun c_28 => ?_)
  · skip
    refine lv_lload hx hb dX6_having_63 (lv_at hl 2 rfl) ?_
    refine W.widen (k := 0) (n := 0) (Nat.le_of_ble_eq_true rfl) (Nat.le_of_ble_eq_true rfl) ?_
    exact W.lret (v := x5_24) hx hb hr (fun t ht hW => ⟨⟨x5_24, (), rfl, trivial, ht⟩, hS.F ht⟩) hS.2.2 dX6_having_65
  · skip
    refine lv_lload hx hb dX6_having_31 (lv_at hl 2 rfl) ?_
    refine lv_aload_n hx hb dX6_having_33 rfl (lv_at hl 5 rfl) ?_
    refine va_get (D := (dC, dI)) (ci := 6) (v := .ref wo) (C := RX6) (T := TX6) (N := 2) hx hb hts hiX6 hown hK hP 0 rfl rfl 0 (by decide) (hts (.fieldLink RX6 9 "MadeItSo$Weights" "ofCase" "[J") (by decide +kernel)) (fun _ h9 => h9) rfl dX6_having_34 ?_
    refine lv_iload_n hx hb dX6_having_37 rfl (lv_at hl 7 rfl) ?_
    refine lv_iload hx hb dX6_having_38 (lv_at hl 0 rfl) ?_
    refine lv_ior hx hb dX6_having_40 ?_
    refine lv_topi (fun v_40 ev_40 => ?_)
    refine lv_sipush (v := 255) hx hb dX6_having_41 (by decide +kernel) ?_
    refine lv_iand hx hb dX6_having_44 ?_
    obtain ⟨a_44, ha_44, ea_44⟩ := pk_andE (v_40) (m := 255) 8 (by decide)
    have ha_44 : a_44 < 256 := ha_44
    refine mz_ti (y := (nI a_44)) ea_44 ?_
    refine va_lald hx hb hK hP 1 1 rfl rfl (vp_in_nI (by omega) (by omega)) dX6_having_45 ?_
    refine lv_topl (fun v_45 ev_45 => ?_)
    refine lv_ladd hx hb dX6_having_46 ?_
    refine lv_topl (fun v_46 ev_46 => ?_)
    refine lv_lstore (lv' := [(5, .long v_46), (8, .int x8_24), (7, .int x7_24), (4, .int r_10), (3, .int v_7), (0, .ref wt), (1, .int p0), (2, .int p1)]) hx hb dX6_having_47 hl (by decide) rfl (fun ls hl => ?_)
    obtain ⟨v_49, ev_49⟩ : ∃ y : Int32, y = x7_24 + Int32.ofInt 1 := ⟨_, rfl⟩
    refine lv_iinc (v := v_49) (lv' := [(7, .int v_49), (5, .long v_46), (8, .int x8_24), (4, .int r_10), (3, .int v_7), (0, .ref wt), (1, .int p0), (2, .int p1)]) hx hb dX6_having_49 hl (k := 2) rfl ev_49.symm (by decide) rfl (fun ls hl => ?_)
    refine lv_iload hx hb dX6_having_52 (lv_at hl 2 rfl) ?_
    refine lv_iload_n hx hb dX6_having_54 rfl (lv_at hl 4 rfl) ?_
    have hPc := hP.sub (ws' := []) [] rfl
    refine va_calli (va_runSN (As := [.int x8_24, .int v_7]) (rest := []) ⟨hx, hb, hml, hown, hts⟩ (mz_g_nextPart l dC dI cI cJ cZ x8_24 v_7 s.heap ) ⟨va_cnB (host := "MadeItSo") 2 hts gX6_having_X7_nextPart_n47 rfl rfl rfl (hN (RX6, 47, yX7_nextPart, "MadeItSo") (by decide +kernel)) (hts (.initialized RX7) (by decide +kernel)) (by decide +kernel) ⟨Nat.le_of_ble_eq_true rfl, Nat.le_of_ble_eq_true rfl⟩, hts (.static yX7_nextPart) (by decide +kernel), trivial⟩ ⟨fun a U g mk q => mz_blP q, fun U hU hW => ⟨rfl, hU, hPc, va_K.moved hW.alike hK, mz_nw hW hN⟩⟩ rfl rfl hl.1 rfl (lv_room (Nat.le_of_ble_eq_true rfl)) dX6_having_55 ⟨Nat.le_of_ble_eq_true rfl, Nat.le_of_ble_eq_true rfl⟩) hS (fun q _ h => h.elim) (fun q h => h.elim) (fun r_55 u t H1 locs ht hvm hw_55 hB hz1 hk1 hS => ?_)
    have hE : s.heap = H1 := hB.symm.trans ht
    subst hE
    refine lv_istore (lv' := [(8, .int r_55), (7, .int v_49), (5, .long v_46), (4, .int r_10), (3, .int v_7), (0, .ref wt), (1, .int p0), (2, .int p1)]) hx hb dX6_having_58 hl (by decide) rfl (fun ls hl => ?_)
    refine lv_goto (tgt := 24) hx hb dX6_having_60 (by decide) ?_
    exact ih_24 _ (by rw [hk_24, ev_49]; exact mz_dec c_28) _ _ _ ⟨r_55, v_49, v_46, rfl, hS, lv_sub hl [0, 1, 2, 3, 4, 5, 6, 7] rfl, rfl⟩
set_option maxHeartbeats 1000000 in
set_option maxRecDepth 100000 in
theorem mz_w_weigh (l : Launch) (dC : Nat → ClassId) (dI : Nat → Nat → Nat) (cI cJ cZ : ClassId) (wt : Nat) (wo : Nat) (ev : Int32) (fw : Nat → Int64) (dr : Nat) (dp : Nat) (dc : Nat) (n : Nat) (fp : Nat → Int32) (bk : Nat) (bp : Nat) (fb : Nat → Int32) (p3 : Int32) (sz : Nat) (hn : n ≤ 8) : Met l yX6_weigh wsX6_weigh ({ frames := 3, cells := 0, slots := 0, locals := 69 }) (va_Pc [.ref wt, .ref dr, .ref bk, .int p3] (fun U => U.heap.size = sz ∧ va_P (dC, dI) vwCl [(wt, .inr (6, [.ref wo, .int ev])), (wo, .inl (cJ, 256, .inr (.inl fw))), (dr, .inr (2, [.ref dp, .ref dc, .int (nI n)])), (dp, .inl (cI, 8, .inl fp)), (bk, .inr (1, [.ref bp])), (bp, .inl (cI, 1024, .inl fb))] U.heap ∧ va_K (dC, dI) vwCl [(cI, FieldType.int), (cJ, FieldType.long), (cZ, FieldType.boolean)] U ∧ va_D (fun _ => True) [(wt, .inr (6, [.ref wo, .int ev])), (wo, .inl (cJ, 256, .inr (.inl fw))), (dr, .inr (2, [.ref dp, .ref dc, .int (nI n)])), (dp, .inl (cI, 8, .inl fp)), (bk, .inr (1, [.ref bp])), (bp, .inl (cI, 1024, .inl fb))] ∧ mz_N U)) (va_Qv (fun (_ : Unit) => True) (fun _ t => ∃ (gev : Int32), ∃ (gw : Nat → Int64), va_P (dC, dI) vwCl [(wt, .inr (6, [.ref wo, .int gev])), (wo, .inl (cJ, 256, .inr (.inl gw))), (dr, .inr (2, [.ref dp, .ref dc, .int (nI n)])), (dp, .inl (cI, 8, .inl fp)), (bk, .inr (1, [.ref bp])), (bp, .inl (cI, 1024, .inl fb))] t.heap ∧ va_D (va_A [(wt, .inr (6, [.ref wo, .int ev])), (wo, .inl (cJ, 256, .inr (.inl fw))), (dr, .inr (2, [.ref dp, .ref dc, .int (nI n)])), (dp, .inl (cI, 8, .inl fp)), (bk, .inr (1, [.ref bp])), (bp, .inl (cI, 1024, .inl fb))] sz) [(wt, .inr (6, [.ref wo, .int gev])), (wo, .inl (cJ, 256, .inr (.inl gw))), (dr, .inr (2, [.ref dp, .ref dc, .int (nI n)])), (dp, .inl (cI, 8, .inl fp)), (bk, .inr (1, [.ref bp])), (bp, .inl (cI, 1024, .inl fb))]) (va_A [(wt, .inr (6, [.ref wo, .int ev])), (wo, .inl (cJ, 256, .inr (.inl fw))), (dr, .inr (2, [.ref dp, .ref dc, .int (nI n)])), (dp, .inl (cI, 8, .inl fp)), (bk, .inr (1, [.ref bp])), (bp, .inl (cI, 1024, .inl fb))] sz)) 0 0 (va_A [(wt, .inr (6, [.ref wo, .int ev])), (wo, .inl (cJ, 256, .inr (.inl fw))), (dr, .inr (2, [.ref dp, .ref dc, .int (nI n)])), (dp, .inl (cI, 8, .inl fp)), (bk, .inr (1, [.ref bp])), (bp, .inl (cI, 1024, .inl fb))] sz) := by
  refine Met.ofW (cc := cX6_weigh) (maxL := 10) (ret := none) (by decide) rfl ?_
  intro p e s m args below meth c s₁ B hml hv
  obtain ⟨rfl, hsz, hP, hK, hD0, hN⟩ := hv
  subst hsz
  have hx := B.exec
  have hb := B.bytes
  have hr := B.returns
  have hts := atoms_spec (ws := wsX6_weigh) B.pre
  have hown : s.vm.findClass RX6 = some m.cls := findClass_of_methodNamed B.named
  have hlocks := B.notSynchronized
  have hD := hD0.self (sz := s.heap.size)
  generalize hAe : va_A [(wt, .inr (6, [.ref wo, .int ev])), (wo, .inl (cJ, 256, .inr (.inl fw))), (dr, .inr (2, [.ref dp, .ref dc, .int (nI n)])), (dp, .inl (cI, 8, .inl fp)), (bk, .inr (1, [.ref bp])), (bp, .inl (cI, 1024, .inl fb))] s.heap.size = A at hD ⊢
  have hA : ∀ q : Nat, s.heap.size ≤ q → A q := fun q h => by rw [← hAe]; exact Or.inr h
  have hS : va_S A s.heap s.heap [] := va_S.rf
  have hiX6 : ∀ w ∈ u_ws RX6 TX6 2, w ∈ wsX6_weigh := by decide +kernel
  have hl := lv_entry ([.ref wt, .ref dr, .ref bk, .int p3]) (n := 10) (Nat.le_of_ble_eq_true rfl)
  rw [lg_entry_eq]
  generalize (lg_sl ([.ref wt, .ref dr, .ref bk, .int p3]) ++ List.replicate (10 - (lg_sl ([.ref wt, .ref dr, .ref bk, .int p3])).length) Slot.unset).toArray = ls at hl ⊢
  have hl : lv_has ls 10 [(0, .ref wt), (1, .ref dr), (2, .ref bk), (3, .int p3)] := hl
  refine lv_aload_n hx hb dX6_weigh_0 rfl (lv_at hl 0 rfl) ?_
  refine lv_aload_n hx hb dX6_weigh_1 rfl (lv_at hl 1 rfl) ?_
  have hPc := hP.sub (ws' := [(dr, .inr (2, [.ref dp, .ref dc, .int (nI n)]))]) [2] rfl
  refine va_calli (va_runV (As := []) (rest := [.ref wt]) ⟨hx, hb, hml, hown, hts⟩ (mz_d_everything l dC dI cI cJ cZ dr dp dc n s.heap ) (cwV 0 hts gX6_weigh_X2_everything rfl rfl rfl (by decide +kernel) ⟨Nat.le_of_ble_eq_true rfl, Nat.le_of_ble_eq_true rfl⟩) ⟨fun a U g mk q => mz_blP q, va_recv hK hPc (ci := 2) (q0 := 0) rfl rfl, fun U hU hW => ⟨rfl, hU, hPc, va_K.moved hW.alike hK, mz_nw hW hN⟩⟩ rfl rfl hl.1 rfl (lv_room (Nat.le_of_ble_eq_true rfl)) dX6_weigh_2 ⟨Nat.le_of_ble_eq_true rfl, Nat.le_of_ble_eq_true rfl⟩) hS (fun q _ h => h.elim) (fun q h => h.elim) (fun r_2 u t H1 locs ht hvm hw_2 hB hz1 hk1 hS => ?_)
  have hE : s.heap = H1 := hB.symm.trans ht
  subst hE
  refine va_put (D := (dC, dI)) (ci := 6) (v := .int r_2) (ty := .int) (C := RX6) (T := TX6) (N := 2) hx hb hts hiX6 tyX6 tyX6_ok nmX6 hown hK hP hD hS 0 rfl rfl 1 (by decide) (hts (.fieldLink RX6 15 "MadeItSo$Weights" "everything" "I") (by decide +kernel)) (fun _ h9 => h9) rfl (by decide +kernel) rfl rfl (Nat.le_of_ble_eq_true rfl) dX6_weigh_5 (fun H locs hP hD hS => ?_)
  have hP : va_P (dC, dI) vwCl [(wt, .inr (6, [.ref wo, .int r_2])), (wo, .inl (cJ, 256, .inr (.inl fw))), (dr, .inr (2, [.ref dp, .ref dc, .int (nI n)])), (dp, .inl (cI, 8, .inl fp)), (bk, .inr (1, [.ref bp])), (bp, .inl (cI, 1024, .inl fb))] H := hP
  have hD : va_D A [(wt, .inr (6, [.ref wo, .int r_2])), (wo, .inl (cJ, 256, .inr (.inl fw))), (dr, .inr (2, [.ref dp, .ref dc, .int (nI n)])), (dp, .inl (cI, 8, .inl fp)), (bk, .inr (1, [.ref bp])), (bp, .inl (cI, 1024, .inl fb))] := hD
  refine lv_aload_n hx hb dX6_weigh_8 rfl (lv_at hl 0 rfl) ?_
  refine va_get (D := (dC, dI)) (ci := 6) (v := .ref wo) (C := RX6) (T := TX6) (N := 2) hx hb hts hiX6 hown hK hP 0 rfl rfl 0 (by decide) (hts (.fieldLink RX6 9 "MadeItSo$Weights" "ofCase" "[J") (by decide +kernel)) (fun _ h9 => h9) rfl dX6_weigh_9 ?_
  refine lv_iconst (v := 0) hx hb dX6_weigh_12 (by decide +kernel) ?_
  refine lv_lconst (v := 1) hx hb dX6_weigh_13 (by decide +kernel) ?_
  refine va_last hx hb hK hP hD hS 1 1 rfl rfl (mz_in (by decide +kernel)) dX6_weigh_14 (fun H locs hP hD hS => ?_)
  have hP : va_P (dC, dI) vwCl [(wt, .inr (6, [.ref wo, .int r_2])), (wo, .inl (cJ, 256, .inr (.inl (vp_updL fw (0 : Int32).toNatClampNeg 1)))), (dr, .inr (2, [.ref dp, .ref dc, .int (nI n)])), (dp, .inl (cI, 8, .inl fp)), (bk, .inr (1, [.ref bp])), (bp, .inl (cI, 1024, .inl fb))] H := hP
  have hD : va_D A [(wt, .inr (6, [.ref wo, .int r_2])), (wo, .inl (cJ, 256, .inr (.inl (vp_updL fw (0 : Int32).toNatClampNeg 1)))), (dr, .inr (2, [.ref dp, .ref dc, .int (nI n)])), (dp, .inl (cI, 8, .inl fp)), (bk, .inr (1, [.ref bp])), (bp, .inl (cI, 1024, .inl fb))] := hD
  generalize (vp_updL fw (0 : Int32).toNatClampNeg 1) = f_14 at hP hD
  refine lv_iconst (v := 0) hx hb dX6_weigh_15 (by decide +kernel) ?_
  refine lv_istore (lv' := [(4, .int 0), (0, .ref wt), (1, .ref dr), (2, .ref bk), (3, .int p3)]) hx hb dX6_weigh_16 hl (by decide) rfl (fun ls hl => ?_)
  refine lv_iconst (v := 0) hx hb dX6_weigh_18 (by decide +kernel) ?_
  refine lv_istore (lv' := [(5, .int 0), (4, .int 0), (0, .ref wt), (1, .ref dr), (2, .ref bk), (3, .int p3)]) hx hb dX6_weigh_19 hl (by decide) rfl (fun ls hl => ?_)
  refine mz_loopU (fun k H locs ls => ∃ (i_21 : Nat), ∃ (x4_21 : Int32), ∃ (fwo_21 : Nat → Int64), i_21 ≤ n ∧ va_P (dC, dI) vwCl [(wt, .inr (6, [.ref wo, .int r_2])), (wo, .inl (cJ, 256, .inr (.inl fwo_21))), (dr, .inr (2, [.ref dp, .ref dc, .int (nI n)])), (dp, .inl (cI, 8, .inl fp)), (bk, .inr (1, [.ref bp])), (bp, .inl (cI, 1024, .inl fb))] H ∧ va_D A [(wt, .inr (6, [.ref wo, .int r_2])), (wo, .inl (cJ, 256, .inr (.inl fwo_21))), (dr, .inr (2, [.ref dp, .ref dc, .int (nI n)])), (dp, .inl (cI, 8, .inl fp)), (bk, .inr (1, [.ref bp])), (bp, .inl (cI, 1024, .inl fb))] ∧ va_S A s.heap H locs ∧ lv_has ls 10 [(5, .int (nI i_21)), (4, .int x4_21), (0, .ref wt), (1, .ref dr), (2, .ref bk), (3, .int p3)] ∧ k = n - i_21) ?_ _ _ _ _ ⟨0, 0, f_14, by omega, hP, hD, hS, lv_sub hl [0, 1, 2, 3, 4, 5] rfl, rfl⟩
  intro k_21 H locs ls hI_21 ih_21
  obtain ⟨i_21, x4_21, fwo_21, hi_21, hP, hD, hS, hl, hk_21⟩ := hI_21
  refine lv_iload hx hb dX6_weigh_21 (lv_at hl 0 rfl) ?_
  refine lv_aload_n hx hb dX6_weigh_23 rfl (lv_at hl 3 rfl) ?_
  have hPc := hP.sub (ws' := [(dr, .inr (2, [.ref dp, .ref dc, .int (nI n)]))]) [2] rfl
  refine va_calli (va_runV (As := []) (rest := [.int (nI i_21)]) ⟨hx, hb, hml, hown, hts⟩ (mz_d_size l dC dI cI cJ cZ dr dp dc n H ) (cwV 0 hts gX6_weigh_X2_size rfl rfl rfl (by decide +kernel) ⟨Nat.le_of_ble_eq_true rfl, Nat.le_of_ble_eq_true rfl⟩) ⟨fun a U g mk q => mz_blP q, va_recv hK hPc (ci := 2) (q0 := 0) rfl rfl, fun U hU hW => ⟨rfl, hU, hPc, va_K.moved hW.alike hK, mz_nw hW hN⟩⟩ rfl rfl hl.1 rfl (lv_room (Nat.le_of_ble_eq_true rfl)) dX6_weigh_24 ⟨Nat.le_of_ble_eq_true rfl, Nat.le_of_ble_eq_true rfl⟩) hS (fun q _ h => h.elim) (fun q h => h.elim) (fun r_24 u t H1 locs ht hvm hw_24 hB hz1 hk1 hS => ?_)
  have hE : H = H1 := hB.symm.trans ht
  subst hE
  obtain rfl : r_24 = (nI n) := hw_24
  refine lv_icmp_ge (tgt := 119) hx hb dX6_weigh_27 (by decide) (fun c_27 => ?_) (fun c_27 => ?_)
  · skip
    have d_27 : n ≤ i_21 := (nI_leI (a := n) (b := i_21) (by omega) (by omega)).mp c_27
    have hP9 := hP.sub (ws' := [(wt, .inr (6, [.ref wo, .int r_2])), (wo, .inl (cJ, 256, .inr (.inl fwo_21))), (dr, .inr (2, [.ref dp, .ref dc, .int (nI n)])), (dp, .inl (cI, 8, .inl fp)), (bk, .inr (1, [.ref bp])), (bp, .inl (cI, 1024, .inl fb))]) [0, 1, 2, 3, 4, 5] rfl
    have hD9 := hD.sub (ws' := [(wt, .inr (6, [.ref wo, .int r_2])), (wo, .inl (cJ, 256, .inr (.inl fwo_21))), (dr, .inr (2, [.ref dp, .ref dc, .int (nI n)])), (dp, .inl (cI, 8, .inl fp)), (bk, .inr (1, [.ref bp])), (bp, .inl (cI, 1024, .inl fb))]) [0, 1, 2, 3, 4, 5] (by decide) rfl
    refine W.widen (k := 0) (n := 0) (Nat.le_of_ble_eq_true rfl) (Nat.le_of_ble_eq_true rfl) ?_
    exact W.vret hx hb hr (fun t ht hW => ⟨⟨(), rfl, trivial, r_2, fwo_21, by rw [ht]; exact hP9, hD9⟩, hS.F ht⟩) hS.2.2 dX6_weigh_119
  · skip
    have d_27 : ¬ n ≤ i_21 := fun h => c_27 ((nI_leI (a := n) (b := i_21) (by omega) (by omega)).mpr h)
    refine lv_aload_n hx hb dX6_weigh_30 rfl (lv_at hl 3 rfl) ?_
    refine lv_iload hx hb dX6_weigh_31 (lv_at hl 1 rfl) ?_
    have hPc := hP.sub (ws' := [(dr, .inr (2, [.ref dp, .ref dc, .int (nI n)])), (dp, .inl (cI, 8, .inl fp))]) [2, 3] rfl
    refine va_calli (va_runV (As := [.int x4_21]) (rest := []) ⟨hx, hb, hml, hown, hts⟩ (mz_d_nextAfter l dC dI cI cJ cZ dr dp dc n fp x4_21 H (by first | assumption | omega)) (cwV 1 hts gX6_weigh_X2_nextAfter rfl rfl rfl (by decide +kernel) ⟨Nat.le_of_ble_eq_true rfl, Nat.le_of_ble_eq_true rfl⟩) ⟨fun a U g mk q => mz_blP q, va_recv hK hPc (ci := 2) (q0 := 0) rfl rfl, fun U hU hW => ⟨rfl, hU, hPc, va_K.moved hW.alike hK, mz_nw hW hN⟩⟩ rfl rfl hl.1 rfl (lv_room (Nat.le_of_ble_eq_true rfl)) dX6_weigh_33 ⟨Nat.le_of_ble_eq_true rfl, Nat.le_of_ble_eq_true rfl⟩) hS (fun q _ h => h.elim) (fun q h => h.elim) (fun r_33 u t H1 locs ht hvm hw_33 hB hz1 hk1 hS => ?_)
    have hE : H = H1 := hB.symm.trans ht
    subst hE
    refine lv_istore (lv' := [(6, .int r_33), (5, .int (nI i_21)), (4, .int x4_21), (0, .ref wt), (1, .ref dr), (2, .ref bk), (3, .int p3)]) hx hb dX6_weigh_36 hl (by decide) rfl (fun ls hl => ?_)
    refine lv_iload hx hb dX6_weigh_38 (lv_at hl 0 rfl) ?_
    refine lv_iconst (v := (-1)) hx hb dX6_weigh_40 (by decide +kernel) ?_
    refine lv_icmp_ne (tgt := 47) hx hb dX6_weigh_41 (by decide) (fun c_41 => ?_) (fun c_41 => ?_)
    · skip
      refine lv_iload hx hb dX6_weigh_47 (lv_at hl 2 rfl) ?_
      have hPc := hP.sub (ws' := []) [] rfl
      refine va_calli (va_runSN (As := [.int x4_21]) (rest := []) ⟨hx, hb, hml, hown, hts⟩ (mz_g_partsOf l dC dI cI cJ cZ x4_21 H ) ⟨va_cnB (host := "MadeItSo") 1 hts gX6_weigh_X7_partsOf_n31 rfl rfl rfl (hN (RX6, 31, yX7_partsOf, "MadeItSo") (by decide +kernel)) (hts (.initialized RX7) (by decide +kernel)) (by decide +kernel) ⟨Nat.le_of_ble_eq_true rfl, Nat.le_of_ble_eq_true rfl⟩, hts (.static yX7_partsOf) (by decide +kernel), trivial⟩ ⟨fun a U g mk q => mz_blP q, fun U hU hW => ⟨rfl, hU, hPc, va_K.moved hW.alike hK, mz_nw hW hN⟩⟩ rfl rfl hl.1 rfl (lv_room (Nat.le_of_ble_eq_true rfl)) dX6_weigh_49 ⟨Nat.le_of_ble_eq_true rfl, Nat.le_of_ble_eq_true rfl⟩) hS (fun q _ h => h.elim) (fun q h => h.elim) (fun r_49 u t H1 locs ht hvm hw_49 hB hz1 hk1 hS => ?_)
      have hE : H = H1 := hB.symm.trans ht
      subst hE
      refine lv_istore (lv' := [(7, .int r_49), (6, .int r_33), (5, .int (nI i_21)), (4, .int x4_21), (0, .ref wt), (1, .ref dr), (2, .ref bk), (3, .int p3)]) hx hb dX6_weigh_52 hl (by decide) rfl (fun ls hl => ?_)
      refine lv_iconst (v := 0) hx hb dX6_weigh_54 (by decide +kernel) ?_
      refine lv_istore (lv' := [(8, .int 0), (7, .int r_49), (6, .int r_33), (5, .int (nI i_21)), (4, .int x4_21), (0, .ref wt), (1, .ref dr), (2, .ref bk), (3, .int p3)]) hx hb dX6_weigh_55 hl (by decide) rfl (fun ls hl => ?_)
      refine lv_iconst (v := 0) hx hb dX6_weigh_57 (by decide +kernel) ?_
      refine lv_istore (lv' := [(9, .int 0), (8, .int 0), (7, .int r_49), (6, .int r_33), (5, .int (nI i_21)), (4, .int x4_21), (0, .ref wt), (1, .ref dr), (2, .ref bk), (3, .int p3)]) hx hb dX6_weigh_58 hl (by decide) rfl (fun ls hl => ?_)
      refine mz_loopU (fun k H locs ls => ∃ (x9_60 : Int32), ∃ (x8_60 : Int32), ∃ (fwo_60 : Nat → Int64), va_P (dC, dI) vwCl [(wt, .inr (6, [.ref wo, .int r_2])), (wo, .inl (cJ, 256, .inr (.inl fwo_60))), (dr, .inr (2, [.ref dp, .ref dc, .int (nI n)])), (dp, .inl (cI, 8, .inl fp)), (bk, .inr (1, [.ref bp])), (bp, .inl (cI, 1024, .inl fb))] H ∧ va_D A [(wt, .inr (6, [.ref wo, .int r_2])), (wo, .inl (cJ, 256, .inr (.inl fwo_60))), (dr, .inr (2, [.ref dp, .ref dc, .int (nI n)])), (dp, .inl (cI, 8, .inl fp)), (bk, .inr (1, [.ref bp])), (bp, .inl (cI, 1024, .inl fb))] ∧ va_S A s.heap H locs ∧ lv_has ls 10 [(9, .int x9_60), (8, .int x8_60), (7, .int r_49), (6, .int r_33), (5, .int (nI i_21)), (4, .int x4_21), (0, .ref wt), (1, .ref dr), (2, .ref bk), (3, .int p3)] ∧ k = ((r_49 : Int32).toInt - x8_60.toInt).toNat) ?_ _ _ _ _ ⟨0, 0, fwo_21, hP, hD, hS, lv_sub hl [0, 1, 2, 3, 4, 5, 6, 7, 8, 9] rfl, rfl⟩
      intro k_60 H locs ls hI_60 ih_60
      obtain ⟨x9_60, x8_60, fwo_60, hP, hD, hS, hl, hk_60⟩ := hI_60
      refine lv_iload hx hb dX6_weigh_60 (lv_at hl 1 rfl) ?_
      refine lv_iload hx hb dX6_weigh_62 (lv_at hl 2 rfl) ?_
      refine lv_icmp_ge (tgt := 103) hx hb dX6_weigh_64 (by decide) (fun c_64 => ?_) (fun c_64 => ?_)
      · skip
        refine lv_iload hx hb dX6_weigh_103 (lv_at hl 5 rfl) ?_
        refine lv_iload hx hb dX6_weigh_105 (lv_at hl 3 rfl) ?_
        have hPc := hP.sub (ws' := []) [] rfl
        refine va_calli (va_runSN (As := [.int r_33]) (rest := [.int x4_21]) ⟨hx, hb, hml, hown, hts⟩ (mz_g_bit l dC dI cI cJ cZ r_33 H ) ⟨va_cnB (host := "MadeItSo") 1 hts gX6_weigh_X7_bit_n34 rfl rfl rfl (hN (RX6, 34, yX7_bit, "MadeItSo") (by decide +kernel)) (hts (.initialized RX7) (by decide +kernel)) (by decide +kernel) ⟨Nat.le_of_ble_eq_true rfl, Nat.le_of_ble_eq_true rfl⟩, hts (.static yX7_bit) (by decide +kernel), trivial⟩ ⟨fun a U g mk q => mz_blP q, fun U hU hW => ⟨rfl, hU, hPc, va_K.moved hW.alike hK, mz_nw hW hN⟩⟩ rfl rfl hl.1 rfl (lv_room (Nat.le_of_ble_eq_true rfl)) dX6_weigh_107 ⟨Nat.le_of_ble_eq_true rfl, Nat.le_of_ble_eq_true rfl⟩) hS (fun q _ h => h.elim) (fun q h => h.elim) (fun r_107 u t H1 locs ht hvm hw_107 hB hz1 hk1 hS => ?_)
        have hE : H = H1 := hB.symm.trans ht
        subst hE
        obtain rfl : r_107 = (1 <<< (r_33 &&& 31)) := hw_107
        refine lv_ior hx hb dX6_weigh_110 ?_
        refine lv_topi (fun v_110 ev_110 => ?_)
        refine lv_istore (lv' := [(4, .int v_110), (9, .int x9_60), (8, .int x8_60), (7, .int r_49), (6, .int r_33), (5, .int (nI i_21)), (0, .ref wt), (1, .ref dr), (2, .ref bk), (3, .int p3)]) hx hb dX6_weigh_111 hl (by decide) rfl (fun ls hl => ?_)
        refine lv_iinc (v := (nI (i_21 + 1))) (lv' := [(5, .int (nI (i_21 + 1))), (4, .int v_110), (9, .int x9_60), (8, .int x8_60), (7, .int r_49), (6, .int r_33), (0, .ref wt), (1, .ref dr), (2, .ref bk), (3, .int p3)]) hx hb dX6_weigh_113 hl (k := 5) rfl (nI_1 _) (by decide) rfl (fun ls hl => ?_)
        refine lv_goto (tgt := 21) hx hb dX6_weigh_116 (by decide) ?_
        exact ih_21 _ (by omega) _ _ _ ⟨(i_21 + 1), v_110, fwo_60, by omega, hP, hD, hS, lv_sub hl [0, 1, 6, 7, 8, 9] rfl, rfl⟩
      · skip
        refine lv_aload_n hx hb dX6_weigh_67 rfl (lv_at hl 6 rfl) ?_
        refine lv_iload hx hb dX6_weigh_68 (lv_at hl 0 rfl) ?_
        refine lv_iload hx hb dX6_weigh_70 (lv_at hl 3 rfl) ?_
        have hPc := hP.sub (ws' := []) [] rfl
        refine va_calli (va_runSN (As := [.int r_33]) (rest := [.int x9_60, .ref wt]) ⟨hx, hb, hml, hown, hts⟩ (mz_g_bit l dC dI cI cJ cZ r_33 H ) ⟨va_cnB (host := "MadeItSo") 1 hts gX6_weigh_X7_bit_n34 rfl rfl rfl (hN (RX6, 34, yX7_bit, "MadeItSo") (by decide +kernel)) (hts (.initialized RX7) (by decide +kernel)) (by decide +kernel) ⟨Nat.le_of_ble_eq_true rfl, Nat.le_of_ble_eq_true rfl⟩, hts (.static yX7_bit) (by decide +kernel), trivial⟩ ⟨fun a U g mk q => mz_blP q, fun U hU hW => ⟨rfl, hU, hPc, va_K.moved hW.alike hK, mz_nw hW hN⟩⟩ rfl rfl hl.1 rfl (lv_room (Nat.le_of_ble_eq_true rfl)) dX6_weigh_72 ⟨Nat.le_of_ble_eq_true rfl, Nat.le_of_ble_eq_true rfl⟩) hS (fun q _ h => h.elim) (fun q h => h.elim) (fun r_72 u t H1 locs ht hvm hw_72 hB hz1 hk1 hS => ?_)
        have hE : H = H1 := hB.symm.trans ht
        subst hE
        obtain rfl : r_72 = (1 <<< (r_33 &&& 31)) := hw_72
        refine lv_aload_n hx hb dX6_weigh_75 rfl (lv_at hl 8 rfl) ?_
        refine lv_aload_n hx hb dX6_weigh_76 rfl (lv_at hl 7 rfl) ?_
        refine lv_iload hx hb dX6_weigh_77 (lv_at hl 3 rfl) ?_
        refine lv_iload hx hb dX6_weigh_79 (lv_at hl 0 rfl) ?_
        refine lv_iload_n hx hb dX6_weigh_81 rfl (lv_at hl 9 rfl) ?_
        have hPc := hP.sub (ws' := [(bk, .inr (1, [.ref bp])), (bp, .inl (cI, 1024, .inl fb)), (dr, .inr (2, [.ref dp, .ref dc, .int (nI n)])), (dp, .inl (cI, 8, .inl fp))]) [4, 5, 2, 3] rfl
        refine va_calli (va_runV (As := [.ref dr, .int r_33, .int x9_60, .int p3]) (rest := [.int (1 <<< (r_33 &&& 31)), .int x9_60, .ref wt]) ⟨hx, hb, hml, hown, hts⟩ (mz_b_partsUnder l dC dI cI cJ cZ bk bp fb dr dp dc n fp r_33 x9_60 p3 H (by first | assumption | omega)) (cwV 4 hts gX6_weigh_X1_partsUnder rfl rfl rfl (by decide +kernel) ⟨Nat.le_of_ble_eq_true rfl, Nat.le_of_ble_eq_true rfl⟩) ⟨fun a U g mk q => mz_blP q, va_recv hK hPc (ci := 1) (q0 := 0) rfl rfl, fun U hU hW => ⟨rfl, hU, hPc, va_K.moved hW.alike hK, mz_nw hW hN⟩⟩ rfl rfl hl.1 rfl (lv_room (Nat.le_of_ble_eq_true rfl)) dX6_weigh_82 ⟨Nat.le_of_ble_eq_true rfl, Nat.le_of_ble_eq_true rfl⟩) hS (fun q _ h => h.elim) (fun q h => h.elim) (fun r_82 u t H1 locs ht hvm hw_82 hB hz1 hk1 hS => ?_)
        have hE : H = H1 := hB.symm.trans ht
        subst hE
        have hPc := hP.sub (ws' := [(wt, .inr (6, [.ref wo, .int r_2])), (wo, .inl (cJ, 256, .inr (.inl fwo_60)))]) [0, 1] rfl
        have hDc := hD.sub (ws' := [(wt, .inr (6, [.ref wo, .int r_2])), (wo, .inl (cJ, 256, .inr (.inl fwo_60)))]) [0, 1] (by decide) rfl
        have hFc := va_free (wc := [(wt, .inr (6, [.ref wo, .int r_2])), (wo, .inl (cJ, 256, .inr (.inl fwo_60)))]) hD hS hA [0, 1] rfl
        refine va_callv (va_runV (As := [.int x9_60, .int (1 <<< (r_33 &&& 31)), .int r_82]) (rest := []) ⟨hx, hb, hml, hown, hts⟩ (mz_w_split l dC dI cI cJ cZ wt wo r_2 fwo_60 x9_60 (1 <<< (r_33 &&& 31)) r_82 H.size ) (cwV 3 hts gX6_weigh_X6_split rfl rfl rfl (by decide +kernel) ⟨Nat.le_of_ble_eq_true rfl, Nat.le_of_ble_eq_true rfl⟩) ⟨fun a U g mk q => mz_blI q, va_recv hK hPc (ci := 6) (q0 := 0) rfl rfl, fun U hU hW => ⟨rfl, by rw [hU], by rw [hU]; exact hPc, va_K.moved hW.alike hK, hDc.weaken (fun _ _ _ _ => trivial), mz_nw hW hN⟩⟩ rfl rfl hl.1 rfl (lv_room (Nat.le_of_ble_eq_true rfl)) dX6_weigh_85 ⟨Nat.le_of_ble_eq_true rfl, Nat.le_of_ble_eq_true rfl⟩) hS (fun q _ h => hFc q h) hFc (fun u t H1 locs ht hvm hw_85 hB hz1 hk1 hS => ?_)
        obtain ⟨gw_85, hP1, hD1⟩ := hB
        rw [ht] at hP1
        obtain ⟨hP, hD⟩ := va_join (wr := [(dr, .inr (2, [.ref dp, .ref dc, .int (nI n)])), (dp, .inl (cI, 8, .inl fp)), (bk, .inr (1, [.ref bp])), (bp, .inl (cI, 1024, .inl fb))]) (w1 := [(wt, .inr (6, [.ref wo, .int r_2])), (wo, .inl (cJ, 256, .inr (.inl gw_85)))]) hP hD [0, 1] [2, 3, 4, 5] rfl rfl (by decide) (by decide) hk1 hFc hP1 hD1
        generalize H1 = H at hP hS ⊢
        have hP : va_P (dC, dI) vwCl [(dr, .inr (2, [.ref dp, .ref dc, .int (nI n)])), (dp, .inl (cI, 8, .inl fp)), (bk, .inr (1, [.ref bp])), (bp, .inl (cI, 1024, .inl fb)), (wt, .inr (6, [.ref wo, .int r_2])), (wo, .inl (cJ, 256, .inr (.inl gw_85)))] H := hP
        have hD : va_D A [(dr, .inr (2, [.ref dp, .ref dc, .int (nI n)])), (dp, .inl (cI, 8, .inl fp)), (bk, .inr (1, [.ref bp])), (bp, .inl (cI, 1024, .inl fb)), (wt, .inr (6, [.ref wo, .int r_2])), (wo, .inl (cJ, 256, .inr (.inl gw_85)))] := hD
        obtain ⟨v_88, ev_88⟩ : ∃ y : Int32, y = x8_60 + Int32.ofInt 1 := ⟨_, rfl⟩
        refine lv_iinc (v := v_88) (lv' := [(8, .int v_88), (9, .int x9_60), (7, .int r_49), (6, .int r_33), (5, .int (nI i_21)), (4, .int x4_21), (0, .ref wt), (1, .ref dr), (2, .ref bk), (3, .int p3)]) hx hb dX6_weigh_88 hl (k := 1) rfl ev_88.symm (by decide) rfl (fun ls hl => ?_)
        refine lv_iload hx hb dX6_weigh_91 (lv_at hl 1 rfl) ?_
        refine lv_iload hx hb dX6_weigh_93 (lv_at hl 5 rfl) ?_
        have hPc := hP.sub (ws' := []) [] rfl
        refine va_calli (va_runSN (As := [.int x9_60, .int x4_21]) (rest := []) ⟨hx, hb, hml, hown, hts⟩ (mz_g_nextPart l dC dI cI cJ cZ x9_60 x4_21 H ) ⟨va_cnB (host := "MadeItSo") 2 hts gX6_weigh_X7_nextPart_n47 rfl rfl rfl (hN (RX6, 47, yX7_nextPart, "MadeItSo") (by decide +kernel)) (hts (.initialized RX7) (by decide +kernel)) (by decide +kernel) ⟨Nat.le_of_ble_eq_true rfl, Nat.le_of_ble_eq_true rfl⟩, hts (.static yX7_nextPart) (by decide +kernel), trivial⟩ ⟨fun a U g mk q => mz_blP q, fun U hU hW => ⟨rfl, hU, hPc, va_K.moved hW.alike hK, mz_nw hW hN⟩⟩ rfl rfl hl.1 rfl (lv_room (Nat.le_of_ble_eq_true rfl)) dX6_weigh_95 ⟨Nat.le_of_ble_eq_true rfl, Nat.le_of_ble_eq_true rfl⟩) hS (fun q _ h => h.elim) (fun q h => h.elim) (fun r_95 u t H1 locs ht hvm hw_95 hB hz1 hk1 hS => ?_)
        have hE : H = H1 := hB.symm.trans ht
        subst hE
        refine lv_istore (lv' := [(9, .int r_95), (8, .int v_88), (7, .int r_49), (6, .int r_33), (5, .int (nI i_21)), (4, .int x4_21), (0, .ref wt), (1, .ref dr), (2, .ref bk), (3, .int p3)]) hx hb dX6_weigh_98 hl (by decide) rfl (fun ls hl => ?_)
        refine lv_goto (tgt := 60) hx hb dX6_weigh_100 (by decide) ?_
        exact ih_60 _ (by rw [hk_60, ev_88]; exact mz_dec c_64) _ _ _ ⟨r_95, v_88, gw_85, hP.sub [4, 5, 0, 1, 2, 3] rfl, hD.sub [4, 5, 0, 1, 2, 3] (by decide) rfl, hS, lv_sub hl [0, 1, 2, 3, 4, 5, 6, 7, 8, 9] rfl, rfl⟩
    · skip
      refine lv_goto (tgt := 119) hx hb dX6_weigh_44 (by decide) ?_
      have hP9 := hP.sub (ws' := [(wt, .inr (6, [.ref wo, .int r_2])), (wo, .inl (cJ, 256, .inr (.inl fwo_21))), (dr, .inr (2, [.ref dp, .ref dc, .int (nI n)])), (dp, .inl (cI, 8, .inl fp)), (bk, .inr (1, [.ref bp])), (bp, .inl (cI, 1024, .inl fb))]) [0, 1, 2, 3, 4, 5] rfl
      have hD9 := hD.sub (ws' := [(wt, .inr (6, [.ref wo, .int r_2])), (wo, .inl (cJ, 256, .inr (.inl fwo_21))), (dr, .inr (2, [.ref dp, .ref dc, .int (nI n)])), (dp, .inl (cI, 8, .inl fp)), (bk, .inr (1, [.ref bp])), (bp, .inl (cI, 1024, .inl fb))]) [0, 1, 2, 3, 4, 5] (by decide) rfl
      refine W.widen (k := 0) (n := 0) (Nat.le_of_ble_eq_true rfl) (Nat.le_of_ble_eq_true rfl) ?_
      exact W.vret hx hb hr (fun t ht hW => ⟨⟨(), rfl, trivial, r_2, fwo_21, by rw [ht]; exact hP9, hD9⟩, hS.F ht⟩) hS.2.2 dX6_weigh_119
set_option maxHeartbeats 1000000 in
set_option maxRecDepth 100000 in
theorem mz_l_holdsOne (l : Launch) (dC : Nat → ClassId) (dI : Nat → Nat → Nat) (cI cJ cZ : ClassId) (lh : Nat) (hf : Nat) (lk : Nat) (ff : Nat → Int32) (p0 : Int32) (Hq : Heap) (hk : lk ≤ 64) : Met l yX3_holdsOne wsX3_holdsOne ({ frames := 0, cells := 0, slots := 0, locals := 0 }) (va_Pc [.ref lh, .int p0] (fun U => U.heap = Hq ∧ va_P (dC, dI) vwCl [(lh, .inr (3, [.ref hf, .int (nI lk)])), (hf, .inl (cI, 64, .inl ff))] Hq ∧ va_K (dC, dI) vwCl [(cI, FieldType.int), (cJ, FieldType.long), (cZ, FieldType.boolean)] U ∧ mz_N U)) (va_Qi (fun (r : Int32) (_ : Unit) => r = 0 ∨ r = 1) (fun _ t => t.heap = Hq) (fun _ : Nat => False)) 0 0 (fun _ : Nat => False) := by
  refine Met.ofW (cc := cX3_holdsOne) (maxL := 3) (ret := (some .boolean)) (by decide) rfl ?_
  intro p e s m args below meth c s₁ B hml hv
  obtain ⟨rfl, hH, hP, hK, hN⟩ := hv
  subst hH
  have hx := B.exec
  have hb := B.bytes
  have hr := B.returns
  have hts := atoms_spec (ws := wsX3_holdsOne) B.pre
  have hown : s.vm.findClass RX3 = some m.cls := findClass_of_methodNamed B.named
  have hlocks := B.notSynchronized
  have hS : va_S (fun _ : Nat => False) s.heap s.heap [] := va_S.rf
  have hiX3 : ∀ w ∈ u_ws RX3 TX3 2, w ∈ wsX3_holdsOne := by decide +kernel
  have hl := lv_entry ([.ref lh, .int p0]) (n := 3) (Nat.le_of_ble_eq_true rfl)
  rw [lg_entry_eq]
  generalize (lg_sl ([.ref lh, .int p0]) ++ List.replicate (3 - (lg_sl ([.ref lh, .int p0])).length) Slot.unset).toArray = ls at hl ⊢
  have hl : lv_has ls 3 [(0, .ref lh), (1, .int p0)] := hl
  refine lv_iconst (v := 0) hx hb dX3_holdsOne_0 (by decide +kernel) ?_
  refine lv_istore_n (lv' := [(2, .int 0), (0, .ref lh), (1, .int p0)]) hx hb dX3_holdsOne_1 rfl hl (by decide) rfl (fun ls hl => ?_)
  refine mz_loopU (fun k H locs ls => ∃ (i_2 : Nat), i_2 ≤ lk ∧ H = s.heap ∧ va_S (fun _ : Nat => False) s.heap H locs ∧ lv_has ls 3 [(2, .int (nI i_2)), (0, .ref lh), (1, .int p0)] ∧ k = lk - i_2) ?_ _ _ _ _ ⟨0, by omega, rfl, hS, lv_sub hl [0, 1, 2] rfl, rfl⟩
  intro k_2 H locs ls hI_2 ih_2
  obtain ⟨i_2, hi_2, hH_2, hS, hl, hk_2⟩ := hI_2
  subst hH_2
  refine lv_iload_n hx hb dX3_holdsOne_2 rfl (lv_at hl 0 rfl) ?_
  refine lv_aload_n hx hb dX3_holdsOne_3 rfl (lv_at hl 1 rfl) ?_
  refine va_get (D := (dC, dI)) (ci := 3) (v := .int (nI lk)) (C := RX3) (T := TX3) (N := 2) hx hb hts hiX3 hown hK hP 0 rfl rfl 1 (by decide) (hts (.fieldLink RX3 15 "MadeItSo$LeastHeaps" "many" "I") (by decide +kernel)) (fun _ h9 => h9) rfl dX3_holdsOne_4 ?_
  refine lv_icmp_ge (tgt := 40) hx hb dX3_holdsOne_7 (by decide) (fun c_7 => ?_) (fun c_7 => ?_)
  · skip
    have d_7 : lk ≤ i_2 := (nI_leI (a := lk) (b := i_2) (by omega) (by omega)).mp c_7
    refine lv_iconst (v := 0) hx hb dX3_holdsOne_40 (by decide +kernel) ?_
    refine W.widen (k := 0) (n := 0) (Nat.le_of_ble_eq_true rfl) (Nat.le_of_ble_eq_true rfl) ?_
    exact W.zret (v := 0) hx hb hr (mz_nz (by decide +kernel)) (fun t ht hW => ⟨⟨0, (), rfl, Or.inl rfl, ht⟩, hS.F ht⟩) hS.2.2 dX3_holdsOne_41
  · skip
    have d_7 : ¬ lk ≤ i_2 := fun h => c_7 ((nI_leI (a := lk) (b := i_2) (by omega) (by omega)).mpr h)
    refine lv_iload_n hx hb dX3_holdsOne_10 rfl (lv_at hl 0 rfl) ?_
    refine lv_aload_n hx hb dX3_holdsOne_11 rfl (lv_at hl 1 rfl) ?_
    refine va_get (D := (dC, dI)) (ci := 3) (v := .ref hf) (C := RX3) (T := TX3) (N := 2) hx hb hts hiX3 hown hK hP 0 rfl rfl 0 (by decide) (hts (.fieldLink RX3 9 "MadeItSo$LeastHeaps" "found" "[I") (by decide +kernel)) (fun _ h9 => h9) rfl dX3_holdsOne_12 ?_
    refine va_alen (v := 64) hx hb hK hP 1 0 rfl rfl rfl dX3_holdsOne_15 ?_
    refine lv_icmp_ge (tgt := 40) hx hb dX3_holdsOne_16 (by decide) (fun c_16 => ?_) (fun c_16 => ?_)
    · skip
      have d_16 : 64 ≤ i_2 := (nI_leI (a := 64) (b := i_2) (by omega) (by omega)).mp c_16
      refine lv_iconst (v := 0) hx hb dX3_holdsOne_40 (by decide +kernel) ?_
      refine W.widen (k := 0) (n := 0) (Nat.le_of_ble_eq_true rfl) (Nat.le_of_ble_eq_true rfl) ?_
      exact W.zret (v := 0) hx hb hr (mz_nz (by decide +kernel)) (fun t ht hW => ⟨⟨0, (), rfl, Or.inl rfl, ht⟩, hS.F ht⟩) hS.2.2 dX3_holdsOne_41
    · skip
      have d_16 : ¬ 64 ≤ i_2 := fun h => c_16 ((nI_leI (a := 64) (b := i_2) (by omega) (by omega)).mpr h)
      refine lv_aload_n hx hb dX3_holdsOne_19 rfl (lv_at hl 1 rfl) ?_
      refine va_get (D := (dC, dI)) (ci := 3) (v := .ref hf) (C := RX3) (T := TX3) (N := 2) hx hb hts hiX3 hown hK hP 0 rfl rfl 0 (by decide) (hts (.fieldLink RX3 9 "MadeItSo$LeastHeaps" "found" "[I") (by decide +kernel)) (fun _ h9 => h9) rfl dX3_holdsOne_20 ?_
      refine lv_iload_n hx hb dX3_holdsOne_23 rfl (lv_at hl 0 rfl) ?_
      refine va_iald hx hb hK hP 1 0 rfl rfl (vp_in_nI (by omega) (by omega)) dX3_holdsOne_24 ?_
      refine lv_topi (fun v_24 ev_24 => ?_)
      refine lv_iload_n hx hb dX3_holdsOne_25 rfl (lv_at hl 2 rfl) ?_
      refine lv_iconst (v := (-1)) hx hb dX3_holdsOne_26 (by decide +kernel) ?_
      refine lv_ixor hx hb dX3_holdsOne_27 ?_
      refine lv_topi (fun v_27 ev_27 => ?_)
      refine lv_iand hx hb dX3_holdsOne_28 ?_
      refine lv_topi (fun v_28 ev_28 => ?_)
      refine lv_if_ne (tgt := 34) hx hb dX3_holdsOne_29 (by decide) (fun c_29 => ?_) (fun c_29 => ?_)
      · skip
        refine lv_iinc (v := (nI (i_2 + 1))) (lv' := [(2, .int (nI (i_2 + 1))), (0, .ref lh), (1, .int p0)]) hx hb dX3_holdsOne_34 hl (k := 0) rfl (nI_1 _) (by decide) rfl (fun ls hl => ?_)
        refine lv_goto (tgt := 2) hx hb dX3_holdsOne_37 (by decide) ?_
        exact ih_2 _ (by omega) _ _ _ ⟨(i_2 + 1), by omega, rfl, hS, lv_sub hl [0, 1, 2] rfl, rfl⟩
      · skip
        refine lv_iconst (v := 1) hx hb dX3_holdsOne_32 (by decide +kernel) ?_
        refine W.widen (k := 0) (n := 0) (Nat.le_of_ble_eq_true rfl) (Nat.le_of_ble_eq_true rfl) ?_
        exact W.zret (v := 1) hx hb hr (mz_nz (by decide +kernel)) (fun t ht hW => ⟨⟨1, (), rfl, Or.inr rfl, ht⟩, hS.F ht⟩) hS.2.2 dX3_holdsOne_33
set_option maxHeartbeats 1000000 in
set_option maxRecDepth 100000 in
theorem mz_l_seek (l : Launch) (dC : Nat → ClassId) (dI : Nat → Nat → Nat) (cI cJ cZ : ClassId) (lh : Nat) (hf : Nat) (lm : Int32) (ff : Nat → Int32) (dr : Nat) (dp : Nat) (dc : Nat) (n : Nat) (fp : Nat → Int32) (fc : Nat → Int32) (p1 : Int32) (p2 : Int32) (p3 : Int32) (sz : Nat) (hn : n ≤ 8) : Met l yX3_seek wsX3_seek ({ frames := 4, cells := 0, slots := 0, locals := 100 }) (va_Pc [.ref lh, .ref dr, .int p1, .int p2, .int p3] (fun U => U.heap.size = sz ∧ va_P (dC, dI) vwCl [(lh, .inr (3, [.ref hf, .int lm])), (hf, .inl (cI, 64, .inl ff)), (dr, .inr (2, [.ref dp, .ref dc, .int (nI n)])), (dp, .inl (cI, 8, .inl fp)), (dc, .inl (cI, 8, .inl fc))] U.heap ∧ va_K (dC, dI) vwCl [(cI, FieldType.int), (cJ, FieldType.long), (cZ, FieldType.boolean)] U ∧ va_D (fun _ => True) [(lh, .inr (3, [.ref hf, .int lm])), (hf, .inl (cI, 64, .inl ff)), (dr, .inr (2, [.ref dp, .ref dc, .int (nI n)])), (dp, .inl (cI, 8, .inl fp)), (dc, .inl (cI, 8, .inl fc))] ∧ mz_N U)) (va_Qv (fun (_ : Unit) => True) (fun _ t => ∃ (gk : Nat), ∃ (gf : Nat → Int32), (gk ≤ 64) ∧ va_P (dC, dI) vwCl [(lh, .inr (3, [.ref hf, .int (nI gk)])), (hf, .inl (cI, 64, .inl gf)), (dr, .inr (2, [.ref dp, .ref dc, .int (nI n)])), (dp, .inl (cI, 8, .inl fp)), (dc, .inl (cI, 8, .inl fc))] t.heap ∧ va_D (va_A [(lh, .inr (3, [.ref hf, .int lm])), (hf, .inl (cI, 64, .inl ff)), (dr, .inr (2, [.ref dp, .ref dc, .int (nI n)])), (dp, .inl (cI, 8, .inl fp)), (dc, .inl (cI, 8, .inl fc))] sz) [(lh, .inr (3, [.ref hf, .int (nI gk)])), (hf, .inl (cI, 64, .inl gf)), (dr, .inr (2, [.ref dp, .ref dc, .int (nI n)])), (dp, .inl (cI, 8, .inl fp)), (dc, .inl (cI, 8, .inl fc))]) (va_A [(lh, .inr (3, [.ref hf, .int lm])), (hf, .inl (cI, 64, .inl ff)), (dr, .inr (2, [.ref dp, .ref dc, .int (nI n)])), (dp, .inl (cI, 8, .inl fp)), (dc, .inl (cI, 8, .inl fc))] sz)) 0 0 (va_A [(lh, .inr (3, [.ref hf, .int lm])), (hf, .inl (cI, 64, .inl ff)), (dr, .inr (2, [.ref dp, .ref dc, .int (nI n)])), (dp, .inl (cI, 8, .inl fp)), (dc, .inl (cI, 8, .inl fc))] sz) := by
  refine Met.ofW (cc := cX3_seek) (maxL := 9) (ret := none) (by decide) rfl ?_
  intro p e s m args below meth c s₁ B hml hv
  obtain ⟨rfl, hsz, hP, hK, hD0, hN⟩ := hv
  subst hsz
  have hx := B.exec
  have hb := B.bytes
  have hr := B.returns
  have hts := atoms_spec (ws := wsX3_seek) B.pre
  have hown : s.vm.findClass RX3 = some m.cls := findClass_of_methodNamed B.named
  have hlocks := B.notSynchronized
  have hD := hD0.self (sz := s.heap.size)
  generalize hAe : va_A [(lh, .inr (3, [.ref hf, .int lm])), (hf, .inl (cI, 64, .inl ff)), (dr, .inr (2, [.ref dp, .ref dc, .int (nI n)])), (dp, .inl (cI, 8, .inl fp)), (dc, .inl (cI, 8, .inl fc))] s.heap.size = A at hD ⊢
  have hA : ∀ q : Nat, s.heap.size ≤ q → A q := fun q h => by rw [← hAe]; exact Or.inr h
  have hS : va_S A s.heap s.heap [] := va_S.rf
  have hiX3 : ∀ w ∈ u_ws RX3 TX3 2, w ∈ wsX3_seek := by decide +kernel
  have hl := lv_entry ([.ref lh, .ref dr, .int p1, .int p2, .int p3]) (n := 9) (Nat.le_of_ble_eq_true rfl)
  rw [lg_entry_eq]
  generalize (lg_sl ([.ref lh, .ref dr, .int p1, .int p2, .int p3]) ++ List.replicate (9 - (lg_sl ([.ref lh, .ref dr, .int p1, .int p2, .int p3])).length) Slot.unset).toArray = ls at hl ⊢
  have hl : lv_has ls 9 [(0, .ref lh), (1, .ref dr), (2, .int p1), (3, .int p2), (4, .int p3)] := hl
  refine lv_iload hx hb dX3_seek_0 (lv_at hl 4 rfl) ?_
  refine lv_iload_n hx hb dX3_seek_2 rfl (lv_at hl 2 rfl) ?_
  have hPc := hP.sub (ws' := []) [] rfl
  refine va_calli (va_runSN (As := [.int p1]) (rest := [.int p3]) ⟨hx, hb, hml, hown, hts⟩ (mz_g_bit l dC dI cI cJ cZ p1 s.heap ) ⟨va_cnB (host := "MadeItSo") 1 hts gX3_seek_X7_bit_n19 rfl rfl rfl (hN (RX3, 19, yX7_bit, "MadeItSo") (by decide +kernel)) (hts (.initialized RX7) (by decide +kernel)) (by decide +kernel) ⟨Nat.le_of_ble_eq_true rfl, Nat.le_of_ble_eq_true rfl⟩, hts (.static yX7_bit) (by decide +kernel), trivial⟩ ⟨fun a U g mk q => mz_blP q, fun U hU hW => ⟨rfl, hU, hPc, va_K.moved hW.alike hK, mz_nw hW hN⟩⟩ rfl rfl hl.1 rfl (lv_room (Nat.le_of_ble_eq_true rfl)) dX3_seek_3 ⟨Nat.le_of_ble_eq_true rfl, Nat.le_of_ble_eq_true rfl⟩) hS (fun q _ h => h.elim) (fun q h => h.elim) (fun r_3 u t H1 locs ht hvm hw_3 hB hz1 hk1 hS => ?_)
  have hE : s.heap = H1 := hB.symm.trans ht
  subst hE
  obtain rfl : r_3 = (1 <<< (p1 &&& 31)) := hw_3
  refine lv_iconst (v := (-1)) hx hb dX3_seek_6 (by decide +kernel) ?_
  refine lv_ixor hx hb dX3_seek_7 ?_
  refine lv_topi (fun v_7 ev_7 => ?_)
  refine lv_iand hx hb dX3_seek_8 ?_
  refine lv_topi (fun v_8 ev_8 => ?_)
  refine lv_iload_n hx hb dX3_seek_9 rfl (lv_at hl 3 rfl) ?_
  have hPc := hP.sub (ws' := []) [] rfl
  refine va_calli (va_runSN (As := [.int p2]) (rest := [.int v_8]) ⟨hx, hb, hml, hown, hts⟩ (mz_g_bit l dC dI cI cJ cZ p2 s.heap ) ⟨va_cnB (host := "MadeItSo") 1 hts gX3_seek_X7_bit_n19 rfl rfl rfl (hN (RX3, 19, yX7_bit, "MadeItSo") (by decide +kernel)) (hts (.initialized RX7) (by decide +kernel)) (by decide +kernel) ⟨Nat.le_of_ble_eq_true rfl, Nat.le_of_ble_eq_true rfl⟩, hts (.static yX7_bit) (by decide +kernel), trivial⟩ ⟨fun a U g mk q => mz_blP q, fun U hU hW => ⟨rfl, hU, hPc, va_K.moved hW.alike hK, mz_nw hW hN⟩⟩ rfl rfl hl.1 rfl (lv_room (Nat.le_of_ble_eq_true rfl)) dX3_seek_10 ⟨Nat.le_of_ble_eq_true rfl, Nat.le_of_ble_eq_true rfl⟩) hS (fun q _ h => h.elim) (fun q h => h.elim) (fun r_10 u t H1 locs ht hvm hw_10 hB hz1 hk1 hS => ?_)
  have hE : s.heap = H1 := hB.symm.trans ht
  subst hE
  obtain rfl : r_10 = (1 <<< (p2 &&& 31)) := hw_10
  refine lv_iconst (v := (-1)) hx hb dX3_seek_13 (by decide +kernel) ?_
  refine lv_ixor hx hb dX3_seek_14 ?_
  refine lv_topi (fun v_14 ev_14 => ?_)
  refine lv_iand hx hb dX3_seek_15 ?_
  refine lv_topi (fun v_15 ev_15 => ?_)
  refine lv_istore (lv' := [(5, .int v_15), (0, .ref lh), (1, .ref dr), (2, .int p1), (3, .int p2), (4, .int p3)]) hx hb dX3_seek_16 hl (by decide) rfl (fun ls hl => ?_)
  refine lv_iload hx hb dX3_seek_18 (lv_at hl 0 rfl) ?_
  have hPc := hP.sub (ws' := []) [] rfl
  refine va_calli (va_runSN (As := [.int v_15]) (rest := []) ⟨hx, hb, hml, hown, hts⟩ (mz_g_partsOf l dC dI cI cJ cZ v_15 s.heap ) ⟨va_cnB (host := "MadeItSo") 1 hts gX3_seek_X7_partsOf_n23 rfl rfl rfl (hN (RX3, 23, yX7_partsOf, "MadeItSo") (by decide +kernel)) (hts (.initialized RX7) (by decide +kernel)) (by decide +kernel) ⟨Nat.le_of_ble_eq_true rfl, Nat.le_of_ble_eq_true rfl⟩, hts (.static yX7_partsOf) (by decide +kernel), trivial⟩ ⟨fun a U g mk q => mz_blP q, fun U hU hW => ⟨rfl, hU, hPc, va_K.moved hW.alike hK, mz_nw hW hN⟩⟩ rfl rfl hl.1 rfl (lv_room (Nat.le_of_ble_eq_true rfl)) dX3_seek_20 ⟨Nat.le_of_ble_eq_true rfl, Nat.le_of_ble_eq_true rfl⟩) hS (fun q _ h => h.elim) (fun q h => h.elim) (fun r_20 u t H1 locs ht hvm hw_20 hB hz1 hk1 hS => ?_)
  have hE : s.heap = H1 := hB.symm.trans ht
  subst hE
  refine lv_istore (lv' := [(6, .int r_20), (5, .int v_15), (0, .ref lh), (1, .ref dr), (2, .int p1), (3, .int p2), (4, .int p3)]) hx hb dX3_seek_23 hl (by decide) rfl (fun ls hl => ?_)
  refine lv_aload_n hx hb dX3_seek_25 rfl (lv_at hl 2 rfl) ?_
  refine lv_iconst (v := 0) hx hb dX3_seek_26 (by decide +kernel) ?_
  refine va_put (D := (dC, dI)) (ci := 3) (v := .int 0) (ty := .int) (C := RX3) (T := TX3) (N := 2) hx hb hts hiX3 tyX3 tyX3_ok nmX3 hown hK hP hD hS 0 rfl rfl 1 (by decide) (hts (.fieldLink RX3 15 "MadeItSo$LeastHeaps" "many" "I") (by decide +kernel)) (fun _ h9 => h9) rfl (by decide +kernel) rfl rfl (Nat.le_of_ble_eq_true rfl) dX3_seek_27 (fun H locs hP hD hS => ?_)
  have hP : va_P (dC, dI) vwCl [(lh, .inr (3, [.ref hf, .int 0])), (hf, .inl (cI, 64, .inl ff)), (dr, .inr (2, [.ref dp, .ref dc, .int (nI n)])), (dp, .inl (cI, 8, .inl fp)), (dc, .inl (cI, 8, .inl fc))] H := hP
  have hD : va_D A [(lh, .inr (3, [.ref hf, .int 0])), (hf, .inl (cI, 64, .inl ff)), (dr, .inr (2, [.ref dp, .ref dc, .int (nI n)])), (dp, .inl (cI, 8, .inl fp)), (dc, .inl (cI, 8, .inl fc))] := hD
  refine lv_iconst (v := 0) hx hb dX3_seek_30 (by decide +kernel) ?_
  refine lv_istore (lv' := [(7, .int 0), (6, .int r_20), (5, .int v_15), (0, .ref lh), (1, .ref dr), (2, .int p1), (3, .int p2), (4, .int p3)]) hx hb dX3_seek_31 hl (by decide) rfl (fun ls hl => ?_)
  refine lv_iconst (v := 0) hx hb dX3_seek_33 (by decide +kernel) ?_
  refine lv_istore (lv' := [(8, .int 0), (7, .int 0), (6, .int r_20), (5, .int v_15), (0, .ref lh), (1, .ref dr), (2, .int p1), (3, .int p2), (4, .int p3)]) hx hb dX3_seek_34 hl (by decide) rfl (fun ls hl => ?_)
  refine mz_loopU (fun k H locs ls => ∃ (x8_36 : Int32), ∃ (x7_36 : Int32), ∃ (nlh1_36 : Nat), ∃ (fhf_36 : Nat → Int32), (nlh1_36 ≤ 64) ∧ va_P (dC, dI) vwCl [(lh, .inr (3, [.ref hf, .int (nI nlh1_36)])), (hf, .inl (cI, 64, .inl fhf_36)), (dr, .inr (2, [.ref dp, .ref dc, .int (nI n)])), (dp, .inl (cI, 8, .inl fp)), (dc, .inl (cI, 8, .inl fc))] H ∧ va_D A [(lh, .inr (3, [.ref hf, .int (nI nlh1_36)])), (hf, .inl (cI, 64, .inl fhf_36)), (dr, .inr (2, [.ref dp, .ref dc, .int (nI n)])), (dp, .inl (cI, 8, .inl fp)), (dc, .inl (cI, 8, .inl fc))] ∧ va_S A s.heap H locs ∧ lv_has ls 9 [(8, .int x8_36), (7, .int x7_36), (6, .int r_20), (5, .int v_15), (0, .ref lh), (1, .ref dr), (2, .int p1), (3, .int p2), (4, .int p3)] ∧ k = ((r_20 : Int32).toInt - x7_36.toInt).toNat) ?_ _ _ _ _ ⟨0, 0, 0, ff, (by first | assumption | omega), hP, hD, hS, lv_sub hl [0, 1, 2, 3, 4, 5, 6, 7, 8] rfl, rfl⟩
  intro k_36 H locs ls hI_36 ih_36
  obtain ⟨x8_36, x7_36, nlh1_36, fhf_36, hm_36, hP, hD, hS, hl, hk_36⟩ := hI_36
  refine lv_iload hx hb dX3_seek_36 (lv_at hl 1 rfl) ?_
  refine lv_iload hx hb dX3_seek_38 (lv_at hl 2 rfl) ?_
  refine lv_icmp_ge (tgt := 117) hx hb dX3_seek_40 (by decide) (fun c_40 => ?_) (fun c_40 => ?_)
  · skip
    have hP9 := hP.sub (ws' := [(lh, .inr (3, [.ref hf, .int (nI nlh1_36)])), (hf, .inl (cI, 64, .inl fhf_36)), (dr, .inr (2, [.ref dp, .ref dc, .int (nI n)])), (dp, .inl (cI, 8, .inl fp)), (dc, .inl (cI, 8, .inl fc))]) [0, 1, 2, 3, 4] rfl
    have hD9 := hD.sub (ws' := [(lh, .inr (3, [.ref hf, .int (nI nlh1_36)])), (hf, .inl (cI, 64, .inl fhf_36)), (dr, .inr (2, [.ref dp, .ref dc, .int (nI n)])), (dp, .inl (cI, 8, .inl fp)), (dc, .inl (cI, 8, .inl fc))]) [0, 1, 2, 3, 4] (by decide) rfl
    refine W.widen (k := 0) (n := 0) (Nat.le_of_ble_eq_true rfl) (Nat.le_of_ble_eq_true rfl) ?_
    exact W.vret hx hb hr (fun t ht hW => ⟨⟨(), rfl, trivial, nlh1_36, fhf_36, (by first | assumption | omega), by rw [ht]; exact hP9, hD9⟩, hS.F ht⟩) hS.2.2 dX3_seek_117
  · skip
    refine lv_aload_n hx hb dX3_seek_43 rfl (lv_at hl 4 rfl) ?_
    refine lv_iload hx hb dX3_seek_44 (lv_at hl 0 rfl) ?_
    have hPc := hP.sub (ws' := [(lh, .inr (3, [.ref hf, .int (nI nlh1_36)])), (hf, .inl (cI, 64, .inl fhf_36))]) [0, 1] rfl
    refine va_calli (va_runV (As := [.int x8_36]) (rest := []) ⟨hx, hb, hml, hown, hts⟩ (mz_l_holdsOne l dC dI cI cJ cZ lh hf nlh1_36 fhf_36 x8_36 H (by first | assumption | omega)) (cwV 1 hts gX3_seek_X3_holdsOne rfl rfl rfl (by decide +kernel) ⟨Nat.le_of_ble_eq_true rfl, Nat.le_of_ble_eq_true rfl⟩) ⟨fun a U g mk q => mz_blP q, va_recv hK hPc (ci := 3) (q0 := 0) rfl rfl, fun U hU hW => ⟨rfl, hU, hPc, va_K.moved hW.alike hK, mz_nw hW hN⟩⟩ rfl rfl hl.1 rfl (lv_room (Nat.le_of_ble_eq_true rfl)) dX3_seek_46 ⟨Nat.le_of_ble_eq_true rfl, Nat.le_of_ble_eq_true rfl⟩) hS (fun q _ h => h.elim) (fun q h => h.elim) (fun r_46 u t H1 locs ht hvm hw_46 hB hz1 hk1 hS => ?_)
    have hE : H = H1 := hB.symm.trans ht
    subst hE
    refine lv_if_ne (tgt := 102) hx hb dX3_seek_49 (by decide) (fun c_49 => ?_) (fun c_49 => ?_)
    · skip
      obtain ⟨v_102, ev_102⟩ : ∃ y : Int32, y = x7_36 + Int32.ofInt 1 := ⟨_, rfl⟩
      refine lv_iinc (v := v_102) (lv' := [(7, .int v_102), (8, .int x8_36), (6, .int r_20), (5, .int v_15), (0, .ref lh), (1, .ref dr), (2, .int p1), (3, .int p2), (4, .int p3)]) hx hb dX3_seek_102 hl (k := 1) rfl ev_102.symm (by decide) rfl (fun ls hl => ?_)
      refine lv_iload hx hb dX3_seek_105 (lv_at hl 1 rfl) ?_
      refine lv_iload hx hb dX3_seek_107 (lv_at hl 3 rfl) ?_
      have hPc := hP.sub (ws' := []) [] rfl
      refine va_calli (va_runSN (As := [.int x8_36, .int v_15]) (rest := []) ⟨hx, hb, hml, hown, hts⟩ (mz_g_nextPart l dC dI cI cJ cZ x8_36 v_15 H ) ⟨va_cnB (host := "MadeItSo") 2 hts gX3_seek_X7_nextPart_n36 rfl rfl rfl (hN (RX3, 36, yX7_nextPart, "MadeItSo") (by decide +kernel)) (hts (.initialized RX7) (by decide +kernel)) (by decide +kernel) ⟨Nat.le_of_ble_eq_true rfl, Nat.le_of_ble_eq_true rfl⟩, hts (.static yX7_nextPart) (by decide +kernel), trivial⟩ ⟨fun a U g mk q => mz_blP q, fun U hU hW => ⟨rfl, hU, hPc, va_K.moved hW.alike hK, mz_nw hW hN⟩⟩ rfl rfl hl.1 rfl (lv_room (Nat.le_of_ble_eq_true rfl)) dX3_seek_109 ⟨Nat.le_of_ble_eq_true rfl, Nat.le_of_ble_eq_true rfl⟩) hS (fun q _ h => h.elim) (fun q h => h.elim) (fun r_109 u t H1 locs ht hvm hw_109 hB hz1 hk1 hS => ?_)
      have hE : H = H1 := hB.symm.trans ht
      subst hE
      refine lv_istore (lv' := [(8, .int r_109), (7, .int v_102), (6, .int r_20), (5, .int v_15), (0, .ref lh), (1, .ref dr), (2, .int p1), (3, .int p2), (4, .int p3)]) hx hb dX3_seek_112 hl (by decide) rfl (fun ls hl => ?_)
      refine lv_goto (tgt := 36) hx hb dX3_seek_114 (by decide) ?_
      exact ih_36 _ (by rw [hk_36, ev_102]; exact mz_dec c_40) _ _ _ ⟨r_109, v_102, nlh1_36, fhf_36, (by first | assumption | omega), hP, hD, hS, lv_sub hl [0, 1, 2, 3, 4, 5, 6, 7, 8] rfl, rfl⟩
    · skip
      refine lv_aload_n hx hb dX3_seek_52 rfl (lv_at hl 4 rfl) ?_
      refine va_get (D := (dC, dI)) (ci := 3) (v := .int (nI nlh1_36)) (C := RX3) (T := TX3) (N := 2) hx hb hts hiX3 hown hK hP 0 rfl rfl 1 (by decide) (hts (.fieldLink RX3 15 "MadeItSo$LeastHeaps" "many" "I") (by decide +kernel)) (fun _ h9 => h9) rfl dX3_seek_53 ?_
      refine lv_aload_n hx hb dX3_seek_56 rfl (lv_at hl 4 rfl) ?_
      refine va_get (D := (dC, dI)) (ci := 3) (v := .ref hf) (C := RX3) (T := TX3) (N := 2) hx hb hts hiX3 hown hK hP 0 rfl rfl 0 (by decide) (hts (.fieldLink RX3 9 "MadeItSo$LeastHeaps" "found" "[I") (by decide +kernel)) (fun _ h9 => h9) rfl dX3_seek_57 ?_
      refine va_alen (v := 64) hx hb hK hP 1 0 rfl rfl rfl dX3_seek_60 ?_
      refine lv_icmp_ge (tgt := 102) hx hb dX3_seek_61 (by decide) (fun c_61 => ?_) (fun c_61 => ?_)
      · skip
        have d_61 : 64 ≤ nlh1_36 := (nI_leI (a := 64) (b := nlh1_36) (by omega) (by omega)).mp c_61
        obtain ⟨v_102, ev_102⟩ : ∃ y : Int32, y = x7_36 + Int32.ofInt 1 := ⟨_, rfl⟩
        refine lv_iinc (v := v_102) (lv' := [(7, .int v_102), (8, .int x8_36), (6, .int r_20), (5, .int v_15), (0, .ref lh), (1, .ref dr), (2, .int p1), (3, .int p2), (4, .int p3)]) hx hb dX3_seek_102 hl (k := 1) rfl ev_102.symm (by decide) rfl (fun ls hl => ?_)
        refine lv_iload hx hb dX3_seek_105 (lv_at hl 1 rfl) ?_
        refine lv_iload hx hb dX3_seek_107 (lv_at hl 3 rfl) ?_
        have hPc := hP.sub (ws' := []) [] rfl
        refine va_calli (va_runSN (As := [.int x8_36, .int v_15]) (rest := []) ⟨hx, hb, hml, hown, hts⟩ (mz_g_nextPart l dC dI cI cJ cZ x8_36 v_15 H ) ⟨va_cnB (host := "MadeItSo") 2 hts gX3_seek_X7_nextPart_n36 rfl rfl rfl (hN (RX3, 36, yX7_nextPart, "MadeItSo") (by decide +kernel)) (hts (.initialized RX7) (by decide +kernel)) (by decide +kernel) ⟨Nat.le_of_ble_eq_true rfl, Nat.le_of_ble_eq_true rfl⟩, hts (.static yX7_nextPart) (by decide +kernel), trivial⟩ ⟨fun a U g mk q => mz_blP q, fun U hU hW => ⟨rfl, hU, hPc, va_K.moved hW.alike hK, mz_nw hW hN⟩⟩ rfl rfl hl.1 rfl (lv_room (Nat.le_of_ble_eq_true rfl)) dX3_seek_109 ⟨Nat.le_of_ble_eq_true rfl, Nat.le_of_ble_eq_true rfl⟩) hS (fun q _ h => h.elim) (fun q h => h.elim) (fun r_109 u t H1 locs ht hvm hw_109 hB hz1 hk1 hS => ?_)
        have hE : H = H1 := hB.symm.trans ht
        subst hE
        refine lv_istore (lv' := [(8, .int r_109), (7, .int v_102), (6, .int r_20), (5, .int v_15), (0, .ref lh), (1, .ref dr), (2, .int p1), (3, .int p2), (4, .int p3)]) hx hb dX3_seek_112 hl (by decide) rfl (fun ls hl => ?_)
        refine lv_goto (tgt := 36) hx hb dX3_seek_114 (by decide) ?_
        exact ih_36 _ (by rw [hk_36, ev_102]; exact mz_dec c_40) _ _ _ ⟨r_109, v_102, nlh1_36, fhf_36, (by first | assumption | omega), hP, hD, hS, lv_sub hl [0, 1, 2, 3, 4, 5, 6, 7, 8] rfl, rfl⟩
      · skip
        have d_61 : ¬ 64 ≤ nlh1_36 := fun h => c_61 ((nI_leI (a := 64) (b := nlh1_36) (by omega) (by omega)).mpr h)
        refine lv_aload_n hx hb dX3_seek_64 rfl (lv_at hl 5 rfl) ?_
        refine lv_iload_n hx hb dX3_seek_65 rfl (lv_at hl 6 rfl) ?_
        have hPc := hP.sub (ws' := []) [] rfl
        refine va_calli (va_runSN (As := [.int p1]) (rest := [.ref dr]) ⟨hx, hb, hml, hown, hts⟩ (mz_g_bit l dC dI cI cJ cZ p1 H ) ⟨va_cnB (host := "MadeItSo") 1 hts gX3_seek_X7_bit_n19 rfl rfl rfl (hN (RX3, 19, yX7_bit, "MadeItSo") (by decide +kernel)) (hts (.initialized RX7) (by decide +kernel)) (by decide +kernel) ⟨Nat.le_of_ble_eq_true rfl, Nat.le_of_ble_eq_true rfl⟩, hts (.static yX7_bit) (by decide +kernel), trivial⟩ ⟨fun a U g mk q => mz_blP q, fun U hU hW => ⟨rfl, hU, hPc, va_K.moved hW.alike hK, mz_nw hW hN⟩⟩ rfl rfl hl.1 rfl (lv_room (Nat.le_of_ble_eq_true rfl)) dX3_seek_66 ⟨Nat.le_of_ble_eq_true rfl, Nat.le_of_ble_eq_true rfl⟩) hS (fun q _ h => h.elim) (fun q h => h.elim) (fun r_66 u t H1 locs ht hvm hw_66 hB hz1 hk1 hS => ?_)
        have hE : H = H1 := hB.symm.trans ht
        subst hE
        obtain rfl : r_66 = (1 <<< (p1 &&& 31)) := hw_66
        refine lv_iload_n hx hb dX3_seek_69 rfl (lv_at hl 7 rfl) ?_
        have hPc := hP.sub (ws' := []) [] rfl
        refine va_calli (va_runSN (As := [.int p2]) (rest := [.int (1 <<< (p1 &&& 31)), .ref dr]) ⟨hx, hb, hml, hown, hts⟩ (mz_g_bit l dC dI cI cJ cZ p2 H ) ⟨va_cnB (host := "MadeItSo") 1 hts gX3_seek_X7_bit_n19 rfl rfl rfl (hN (RX3, 19, yX7_bit, "MadeItSo") (by decide +kernel)) (hts (.initialized RX7) (by decide +kernel)) (by decide +kernel) ⟨Nat.le_of_ble_eq_true rfl, Nat.le_of_ble_eq_true rfl⟩, hts (.static yX7_bit) (by decide +kernel), trivial⟩ ⟨fun a U g mk q => mz_blP q, fun U hU hW => ⟨rfl, hU, hPc, va_K.moved hW.alike hK, mz_nw hW hN⟩⟩ rfl rfl hl.1 rfl (lv_room (Nat.le_of_ble_eq_true rfl)) dX3_seek_70 ⟨Nat.le_of_ble_eq_true rfl, Nat.le_of_ble_eq_true rfl⟩) hS (fun q _ h => h.elim) (fun q h => h.elim) (fun r_70 u t H1 locs ht hvm hw_70 hB hz1 hk1 hS => ?_)
        have hE : H = H1 := hB.symm.trans ht
        subst hE
        obtain rfl : r_70 = (1 <<< (p2 &&& 31)) := hw_70
        refine lv_iload hx hb dX3_seek_73 (lv_at hl 0 rfl) ?_
        have hPc := hP.sub (ws' := [(dr, .inr (2, [.ref dp, .ref dc, .int (nI n)])), (dp, .inl (cI, 8, .inl fp)), (dc, .inl (cI, 8, .inl fc))]) [2, 3, 4] rfl
        refine va_calli (va_runV (As := [.int (1 <<< (p1 &&& 31)), .int (1 <<< (p2 &&& 31)), .int x8_36]) (rest := []) ⟨hx, hb, hml, hown, hts⟩ (mz_d_barred l dC dI cI cJ cZ dr dp dc n fp fc (1 <<< (p1 &&& 31)) (1 <<< (p2 &&& 31)) x8_36 H ) (cwV 3 hts gX3_seek_X2_barred rfl rfl rfl (by decide +kernel) ⟨Nat.le_of_ble_eq_true rfl, Nat.le_of_ble_eq_true rfl⟩) ⟨fun a U g mk q => mz_blP q, va_recv hK hPc (ci := 2) (q0 := 0) rfl rfl, fun U hU hW => ⟨rfl, hU, hPc, va_K.moved hW.alike hK, mz_nw hW hN⟩⟩ rfl rfl hl.1 rfl (lv_room (Nat.le_of_ble_eq_true rfl)) dX3_seek_75 ⟨Nat.le_of_ble_eq_true rfl, Nat.le_of_ble_eq_true rfl⟩) hS (fun q _ h => h.elim) (fun q h => h.elim) (fun r_75 u t H1 locs ht hvm hw_75 hB hz1 hk1 hS => ?_)
        have hE : H = H1 := hB.symm.trans ht
        subst hE
        refine lv_if_eq (tgt := 102) hx hb dX3_seek_78 (by decide) (fun c_78 => ?_) (fun c_78 => ?_)
        · skip
          obtain ⟨v_102, ev_102⟩ : ∃ y : Int32, y = x7_36 + Int32.ofInt 1 := ⟨_, rfl⟩
          refine lv_iinc (v := v_102) (lv' := [(7, .int v_102), (8, .int x8_36), (6, .int r_20), (5, .int v_15), (0, .ref lh), (1, .ref dr), (2, .int p1), (3, .int p2), (4, .int p3)]) hx hb dX3_seek_102 hl (k := 1) rfl ev_102.symm (by decide) rfl (fun ls hl => ?_)
          refine lv_iload hx hb dX3_seek_105 (lv_at hl 1 rfl) ?_
          refine lv_iload hx hb dX3_seek_107 (lv_at hl 3 rfl) ?_
          have hPc := hP.sub (ws' := []) [] rfl
          refine va_calli (va_runSN (As := [.int x8_36, .int v_15]) (rest := []) ⟨hx, hb, hml, hown, hts⟩ (mz_g_nextPart l dC dI cI cJ cZ x8_36 v_15 H ) ⟨va_cnB (host := "MadeItSo") 2 hts gX3_seek_X7_nextPart_n36 rfl rfl rfl (hN (RX3, 36, yX7_nextPart, "MadeItSo") (by decide +kernel)) (hts (.initialized RX7) (by decide +kernel)) (by decide +kernel) ⟨Nat.le_of_ble_eq_true rfl, Nat.le_of_ble_eq_true rfl⟩, hts (.static yX7_nextPart) (by decide +kernel), trivial⟩ ⟨fun a U g mk q => mz_blP q, fun U hU hW => ⟨rfl, hU, hPc, va_K.moved hW.alike hK, mz_nw hW hN⟩⟩ rfl rfl hl.1 rfl (lv_room (Nat.le_of_ble_eq_true rfl)) dX3_seek_109 ⟨Nat.le_of_ble_eq_true rfl, Nat.le_of_ble_eq_true rfl⟩) hS (fun q _ h => h.elim) (fun q h => h.elim) (fun r_109 u t H1 locs ht hvm hw_109 hB hz1 hk1 hS => ?_)
          have hE : H = H1 := hB.symm.trans ht
          subst hE
          refine lv_istore (lv' := [(8, .int r_109), (7, .int v_102), (6, .int r_20), (5, .int v_15), (0, .ref lh), (1, .ref dr), (2, .int p1), (3, .int p2), (4, .int p3)]) hx hb dX3_seek_112 hl (by decide) rfl (fun ls hl => ?_)
          refine lv_goto (tgt := 36) hx hb dX3_seek_114 (by decide) ?_
          exact ih_36 _ (by rw [hk_36, ev_102]; exact mz_dec c_40) _ _ _ ⟨r_109, v_102, nlh1_36, fhf_36, (by first | assumption | omega), hP, hD, hS, lv_sub hl [0, 1, 2, 3, 4, 5, 6, 7, 8] rfl, rfl⟩
        · skip
          refine lv_aload_n hx hb dX3_seek_81 rfl (lv_at hl 4 rfl) ?_
          refine va_get (D := (dC, dI)) (ci := 3) (v := .ref hf) (C := RX3) (T := TX3) (N := 2) hx hb hts hiX3 hown hK hP 0 rfl rfl 0 (by decide) (hts (.fieldLink RX3 9 "MadeItSo$LeastHeaps" "found" "[I") (by decide +kernel)) (fun _ h9 => h9) rfl dX3_seek_82 ?_
          refine lv_aload_n hx hb dX3_seek_85 rfl (lv_at hl 4 rfl) ?_
          refine va_get (D := (dC, dI)) (ci := 3) (v := .int (nI nlh1_36)) (C := RX3) (T := TX3) (N := 2) hx hb hts hiX3 hown hK hP 0 rfl rfl 1 (by decide) (hts (.fieldLink RX3 15 "MadeItSo$LeastHeaps" "many" "I") (by decide +kernel)) (fun _ h9 => h9) rfl dX3_seek_86 ?_
          refine lv_iload hx hb dX3_seek_89 (lv_at hl 0 rfl) ?_
          refine va_iast hx hb hK hP hD hS 1 0 rfl rfl (vp_in_nI (by omega) (by omega)) dX3_seek_91 (fun H locs hP hD hS => ?_)
          have hP : va_P (dC, dI) vwCl [(lh, .inr (3, [.ref hf, .int (nI nlh1_36)])), (hf, .inl (cI, 64, .inl (upd fhf_36 ((nI nlh1_36) : Int32).toNatClampNeg x8_36))), (dr, .inr (2, [.ref dp, .ref dc, .int (nI n)])), (dp, .inl (cI, 8, .inl fp)), (dc, .inl (cI, 8, .inl fc))] H := hP
          have hD : va_D A [(lh, .inr (3, [.ref hf, .int (nI nlh1_36)])), (hf, .inl (cI, 64, .inl (upd fhf_36 ((nI nlh1_36) : Int32).toNatClampNeg x8_36))), (dr, .inr (2, [.ref dp, .ref dc, .int (nI n)])), (dp, .inl (cI, 8, .inl fp)), (dc, .inl (cI, 8, .inl fc))] := hD
          generalize (upd fhf_36 ((nI nlh1_36) : Int32).toNatClampNeg x8_36) = f_91 at hP hD
          refine lv_aload_n hx hb dX3_seek_92 rfl (lv_at hl 4 rfl) ?_
          refine lv_dup hx hb dX3_seek_93 rfl ?_
          refine va_get (D := (dC, dI)) (ci := 3) (v := .int (nI nlh1_36)) (C := RX3) (T := TX3) (N := 2) hx hb hts hiX3 hown hK hP 0 rfl rfl 1 (by decide) (hts (.fieldLink RX3 15 "MadeItSo$LeastHeaps" "many" "I") (by decide +kernel)) (fun _ h9 => h9) rfl dX3_seek_94 ?_
          refine lv_iconst (v := 1) hx hb dX3_seek_97 (by decide +kernel) ?_
          refine lv_iadd hx hb dX3_seek_98 ?_
          refine mz_ti (y := (nI (nlh1_36 + 1))) (nI_add _ _) ?_
          refine va_put (D := (dC, dI)) (ci := 3) (v := .int (nI (nlh1_36 + 1))) (ty := .int) (C := RX3) (T := TX3) (N := 2) hx hb hts hiX3 tyX3 tyX3_ok nmX3 hown hK hP hD hS 0 rfl rfl 1 (by decide) (hts (.fieldLink RX3 15 "MadeItSo$LeastHeaps" "many" "I") (by decide +kernel)) (fun _ h9 => h9) rfl (by decide +kernel) rfl rfl (Nat.le_of_ble_eq_true rfl) dX3_seek_99 (fun H locs hP hD hS => ?_)
          have hP : va_P (dC, dI) vwCl [(lh, .inr (3, [.ref hf, .int (nI (nlh1_36 + 1))])), (hf, .inl (cI, 64, .inl f_91)), (dr, .inr (2, [.ref dp, .ref dc, .int (nI n)])), (dp, .inl (cI, 8, .inl fp)), (dc, .inl (cI, 8, .inl fc))] H := hP
          have hD : va_D A [(lh, .inr (3, [.ref hf, .int (nI (nlh1_36 + 1))])), (hf, .inl (cI, 64, .inl f_91)), (dr, .inr (2, [.ref dp, .ref dc, .int (nI n)])), (dp, .inl (cI, 8, .inl fp)), (dc, .inl (cI, 8, .inl fc))] := hD
          obtain ⟨v_102, ev_102⟩ : ∃ y : Int32, y = x7_36 + Int32.ofInt 1 := ⟨_, rfl⟩
          refine lv_iinc (v := v_102) (lv' := [(7, .int v_102), (8, .int x8_36), (6, .int r_20), (5, .int v_15), (0, .ref lh), (1, .ref dr), (2, .int p1), (3, .int p2), (4, .int p3)]) hx hb dX3_seek_102 hl (k := 1) rfl ev_102.symm (by decide) rfl (fun ls hl => ?_)
          refine lv_iload hx hb dX3_seek_105 (lv_at hl 1 rfl) ?_
          refine lv_iload hx hb dX3_seek_107 (lv_at hl 3 rfl) ?_
          have hPc := hP.sub (ws' := []) [] rfl
          refine va_calli (va_runSN (As := [.int x8_36, .int v_15]) (rest := []) ⟨hx, hb, hml, hown, hts⟩ (mz_g_nextPart l dC dI cI cJ cZ x8_36 v_15 H ) ⟨va_cnB (host := "MadeItSo") 2 hts gX3_seek_X7_nextPart_n36 rfl rfl rfl (hN (RX3, 36, yX7_nextPart, "MadeItSo") (by decide +kernel)) (hts (.initialized RX7) (by decide +kernel)) (by decide +kernel) ⟨Nat.le_of_ble_eq_true rfl, Nat.le_of_ble_eq_true rfl⟩, hts (.static yX7_nextPart) (by decide +kernel), trivial⟩ ⟨fun a U g mk q => mz_blP q, fun U hU hW => ⟨rfl, hU, hPc, va_K.moved hW.alike hK, mz_nw hW hN⟩⟩ rfl rfl hl.1 rfl (lv_room (Nat.le_of_ble_eq_true rfl)) dX3_seek_109 ⟨Nat.le_of_ble_eq_true rfl, Nat.le_of_ble_eq_true rfl⟩) hS (fun q _ h => h.elim) (fun q h => h.elim) (fun r_109 u t H1 locs ht hvm hw_109 hB hz1 hk1 hS => ?_)
          have hE : H = H1 := hB.symm.trans ht
          subst hE
          refine lv_istore (lv' := [(8, .int r_109), (7, .int v_102), (6, .int r_20), (5, .int v_15), (0, .ref lh), (1, .ref dr), (2, .int p1), (3, .int p2), (4, .int p3)]) hx hb dX3_seek_112 hl (by decide) rfl (fun ls hl => ?_)
          refine lv_goto (tgt := 36) hx hb dX3_seek_114 (by decide) ?_
          exact ih_36 _ (by rw [hk_36, ev_102]; exact mz_dec c_40) _ _ _ ⟨r_109, v_102, (nlh1_36 + 1), f_91, (by first | assumption | omega), hP, hD, hS, lv_sub hl [0, 1, 2, 3, 4, 5, 6, 7, 8] rfl, rfl⟩
set_option maxHeartbeats 1000000 in
set_option maxRecDepth 100000 in
theorem mz_l_size (l : Launch) (dC : Nat → ClassId) (dI : Nat → Nat → Nat) (cI cJ cZ : ClassId) (lh : Nat) (hf : Nat) (lm : Int32) (Hq : Heap)  : Met l yX3_size wsX3_size ({ frames := 0, cells := 0, slots := 0, locals := 0 }) (va_Pc [.ref lh] (fun U => U.heap = Hq ∧ va_P (dC, dI) vwCl [(lh, .inr (3, [.ref hf, .int lm]))] Hq ∧ va_K (dC, dI) vwCl [(cI, FieldType.int), (cJ, FieldType.long), (cZ, FieldType.boolean)] U ∧ mz_N U)) (va_Qi (fun (r : Int32) (_ : Unit) => True) (fun _ t => t.heap = Hq) (fun _ : Nat => False)) 0 0 (fun _ : Nat => False) := by
  refine Met.ofW (cc := cX3_size) (maxL := 1) (ret := (some .int)) (by decide) rfl ?_
  intro p e s m args below meth c s₁ B hml hv
  obtain ⟨rfl, hH, hP, hK, hN⟩ := hv
  subst hH
  have hx := B.exec
  have hb := B.bytes
  have hr := B.returns
  have hts := atoms_spec (ws := wsX3_size) B.pre
  have hown : s.vm.findClass RX3 = some m.cls := findClass_of_methodNamed B.named
  have hlocks := B.notSynchronized
  have hS : va_S (fun _ : Nat => False) s.heap s.heap [] := va_S.rf
  have hiX3 : ∀ w ∈ u_ws RX3 TX3 2, w ∈ wsX3_size := by decide +kernel
  have hl := lv_entry ([.ref lh]) (n := 1) (Nat.le_of_ble_eq_true rfl)
  rw [lg_entry_eq]
  generalize (lg_sl ([.ref lh]) ++ List.replicate (1 - (lg_sl ([.ref lh])).length) Slot.unset).toArray = ls at hl ⊢
  have hl : lv_has ls 1 [(0, .ref lh)] := hl
  refine lv_aload_n hx hb dX3_size_0 rfl (lv_at hl 0 rfl) ?_
  refine va_get (D := (dC, dI)) (ci := 3) (v := .int lm) (C := RX3) (T := TX3) (N := 2) hx hb hts hiX3 hown hK hP 0 rfl rfl 1 (by decide) (hts (.fieldLink RX3 15 "MadeItSo$LeastHeaps" "many" "I") (by decide +kernel)) (fun _ h9 => h9) rfl dX3_size_1 ?_
  refine W.widen (k := 0) (n := 0) (Nat.le_of_ble_eq_true rfl) (Nat.le_of_ble_eq_true rfl) ?_
  exact W.iret (v := lm) hx hb hr (fun t ht hW => ⟨⟨lm, (), rfl, trivial, ht⟩, hS.F ht⟩) hS.2.2 dX3_size_4
set_option maxHeartbeats 1000000 in
set_option maxRecDepth 100000 in
theorem mz_l_at (l : Launch) (dC : Nat → ClassId) (dI : Nat → Nat → Nat) (cI cJ cZ : ClassId) (lh : Nat) (hf : Nat) (lm : Int32) (ff : Nat → Int32) (p0 : Int32) (Hq : Heap)  : Met l yX3_at wsX3_at ({ frames := 0, cells := 0, slots := 0, locals := 0 }) (va_Pc [.ref lh, .int p0] (fun U => U.heap = Hq ∧ va_P (dC, dI) vwCl [(lh, .inr (3, [.ref hf, .int lm])), (hf, .inl (cI, 64, .inl ff))] Hq ∧ va_K (dC, dI) vwCl [(cI, FieldType.int), (cJ, FieldType.long), (cZ, FieldType.boolean)] U ∧ mz_N U)) (va_Qi (fun (r : Int32) (_ : Unit) => True) (fun _ t => t.heap = Hq) (fun _ : Nat => False)) 0 0 (fun _ : Nat => False) := by
  refine Met.ofW (cc := cX3_at) (maxL := 2) (ret := (some .int)) (by decide) rfl ?_
  intro p e s m args below meth c s₁ B hml hv
  obtain ⟨rfl, hH, hP, hK, hN⟩ := hv
  subst hH
  have hx := B.exec
  have hb := B.bytes
  have hr := B.returns
  have hts := atoms_spec (ws := wsX3_at) B.pre
  have hown : s.vm.findClass RX3 = some m.cls := findClass_of_methodNamed B.named
  have hlocks := B.notSynchronized
  have hS : va_S (fun _ : Nat => False) s.heap s.heap [] := va_S.rf
  have hiX3 : ∀ w ∈ u_ws RX3 TX3 2, w ∈ wsX3_at := by decide +kernel
  have hl := lv_entry ([.ref lh, .int p0]) (n := 2) (Nat.le_of_ble_eq_true rfl)
  rw [lg_entry_eq]
  generalize (lg_sl ([.ref lh, .int p0]) ++ List.replicate (2 - (lg_sl ([.ref lh, .int p0])).length) Slot.unset).toArray = ls at hl ⊢
  have hl : lv_has ls 2 [(0, .ref lh), (1, .int p0)] := hl
  refine lv_iload_n hx hb dX3_at_0 rfl (lv_at hl 1 rfl) ?_
  refine lv_if_lt (tgt := 30) hx hb dX3_at_1 (by decide) (fun c_1 => ?_) (fun c_1 => ?_)
  · skip
    refine lv_iconst (v := (-1)) hx hb dX3_at_30 (by decide +kernel) ?_
    refine W.widen (k := 0) (n := 0) (Nat.le_of_ble_eq_true rfl) (Nat.le_of_ble_eq_true rfl) ?_
    exact W.iret (v := (-1)) hx hb hr (fun t ht hW => ⟨⟨(-1), (), rfl, trivial, ht⟩, hS.F ht⟩) hS.2.2 dX3_at_31
  · skip
    refine lv_iload_n hx hb dX3_at_4 rfl (lv_at hl 1 rfl) ?_
    refine lv_aload_n hx hb dX3_at_5 rfl (lv_at hl 0 rfl) ?_
    refine va_get (D := (dC, dI)) (ci := 3) (v := .int lm) (C := RX3) (T := TX3) (N := 2) hx hb hts hiX3 hown hK hP 0 rfl rfl 1 (by decide) (hts (.fieldLink RX3 15 "MadeItSo$LeastHeaps" "many" "I") (by decide +kernel)) (fun _ h9 => h9) rfl dX3_at_6 ?_
    refine lv_icmp_ge (tgt := 30) hx hb dX3_at_9 (by decide) (fun c_9 => ?_) (fun c_9 => ?_)
    · skip
      refine lv_iconst (v := (-1)) hx hb dX3_at_30 (by decide +kernel) ?_
      refine W.widen (k := 0) (n := 0) (Nat.le_of_ble_eq_true rfl) (Nat.le_of_ble_eq_true rfl) ?_
      exact W.iret (v := (-1)) hx hb hr (fun t ht hW => ⟨⟨(-1), (), rfl, trivial, ht⟩, hS.F ht⟩) hS.2.2 dX3_at_31
    · skip
      refine lv_iload_n hx hb dX3_at_12 rfl (lv_at hl 1 rfl) ?_
      refine lv_aload_n hx hb dX3_at_13 rfl (lv_at hl 0 rfl) ?_
      refine va_get (D := (dC, dI)) (ci := 3) (v := .ref hf) (C := RX3) (T := TX3) (N := 2) hx hb hts hiX3 hown hK hP 0 rfl rfl 0 (by decide) (hts (.fieldLink RX3 9 "MadeItSo$LeastHeaps" "found" "[I") (by decide +kernel)) (fun _ h9 => h9) rfl dX3_at_14 ?_
      refine va_alen (v := 64) hx hb hK hP 1 0 rfl rfl rfl dX3_at_17 ?_
      refine lv_icmp_ge (tgt := 30) hx hb dX3_at_18 (by decide) (fun c_18 => ?_) (fun c_18 => ?_)
      · skip
        refine lv_iconst (v := (-1)) hx hb dX3_at_30 (by decide +kernel) ?_
        refine W.widen (k := 0) (n := 0) (Nat.le_of_ble_eq_true rfl) (Nat.le_of_ble_eq_true rfl) ?_
        exact W.iret (v := (-1)) hx hb hr (fun t ht hW => ⟨⟨(-1), (), rfl, trivial, ht⟩, hS.F ht⟩) hS.2.2 dX3_at_31
      · skip
        refine lv_aload_n hx hb dX3_at_21 rfl (lv_at hl 0 rfl) ?_
        refine va_get (D := (dC, dI)) (ci := 3) (v := .ref hf) (C := RX3) (T := TX3) (N := 2) hx hb hts hiX3 hown hK hP 0 rfl rfl 0 (by decide) (hts (.fieldLink RX3 9 "MadeItSo$LeastHeaps" "found" "[I") (by decide +kernel)) (fun _ h9 => h9) rfl dX3_at_22 ?_
        refine lv_iload_n hx hb dX3_at_25 rfl (lv_at hl 1 rfl) ?_
        refine va_iald hx hb hK hP 1 0 rfl rfl (mz_inr (n := 64) c_1 c_18 (by decide)) dX3_at_26 ?_
        refine lv_topi (fun v_26 ev_26 => ?_)
        refine lv_goto (tgt := 31) hx hb dX3_at_27 (by decide) ?_
        refine W.widen (k := 0) (n := 0) (Nat.le_of_ble_eq_true rfl) (Nat.le_of_ble_eq_true rfl) ?_
        exact W.iret (v := v_26) hx hb hr (fun t ht hW => ⟨⟨v_26, (), rfl, trivial, ht⟩, hS.F ht⟩) hS.2.2 dX3_at_31
set_option maxHeartbeats 1000000 in
set_option maxRecDepth 100000 in
theorem mz_k_canBeLast (l : Launch) (dC : Nat → ClassId) (dI : Nat → Nat → Nat) (cI cJ cZ : ClassId) (dr : Nat) (dp : Nat) (dc : Nat) (n : Nat) (fp : Nat → Int32) (fc : Nat → Int32) (p1 : Int32) (Hq : Heap) (hn : n ≤ 8) : Met l yX4_canBeLast wsX4_canBeLast ({ frames := 4, cells := 0, slots := 0, locals := 88 }) (va_Pc [.ref dr, .int p1] (fun U => U.heap = Hq ∧ va_P (dC, dI) vwCl [(dr, .inr (2, [.ref dp, .ref dc, .int (nI n)])), (dp, .inl (cI, 8, .inl fp)), (dc, .inl (cI, 8, .inl fc))] Hq ∧ va_K (dC, dI) vwCl [(cI, FieldType.int), (cJ, FieldType.long), (cZ, FieldType.boolean)] U ∧ mz_N U)) (va_Qi (fun (r : Int32) (_ : Unit) => True) (fun _ t => t.heap = Hq) (fun _ : Nat => False)) 0 0 (fun _ : Nat => False) := by
  refine Met.ofW (cc := cX4_canBeLast) (maxL := 4) (ret := (some .int)) (by decide) rfl ?_
  intro p e s m args below meth c s₁ B hml hv
  obtain ⟨rfl, hH, hP, hK, hN⟩ := hv
  subst hH
  have hx := B.exec
  have hb := B.bytes
  have hr := B.returns
  have hts := atoms_spec (ws := wsX4_canBeLast) B.pre
  have hown : s.vm.findClass RX4 = some m.cls := findClass_of_methodNamed B.named
  have hlocks := B.notSynchronized
  have hS : va_S (fun _ : Nat => False) s.heap s.heap [] := va_S.rf
  have hl := lv_entry ([.ref dr, .int p1]) (n := 4) (Nat.le_of_ble_eq_true rfl)
  rw [lg_entry_eq]
  generalize (lg_sl ([.ref dr, .int p1]) ++ List.replicate (4 - (lg_sl ([.ref dr, .int p1])).length) Slot.unset).toArray = ls at hl ⊢
  have hl : lv_has ls 4 [(0, .ref dr), (1, .int p1)] := hl
  refine lv_iconst (v := 0) hx hb dX4_canBeLast_0 (by decide +kernel) ?_
  refine lv_istore_n (lv' := [(2, .int 0), (0, .ref dr), (1, .int p1)]) hx hb dX4_canBeLast_1 rfl hl (by decide) rfl (fun ls hl => ?_)
  refine lv_iconst (v := 0) hx hb dX4_canBeLast_2 (by decide +kernel) ?_
  refine lv_istore_n (lv' := [(3, .int 0), (2, .int 0), (0, .ref dr), (1, .int p1)]) hx hb dX4_canBeLast_3 rfl hl (by decide) rfl (fun ls hl => ?_)
  refine mz_loopU (fun k H locs ls => ∃ (i_4 : Nat), ∃ (x2_4 : Int32), i_4 ≤ n ∧ H = s.heap ∧ va_S (fun _ : Nat => False) s.heap H locs ∧ lv_has ls 4 [(3, .int (nI i_4)), (2, .int x2_4), (0, .ref dr), (1, .int p1)] ∧ k = n - i_4) ?_ _ _ _ _ ⟨0, 0, by omega, rfl, hS, lv_sub hl [0, 1, 2, 3] rfl, rfl⟩
  intro k_4 H locs ls hI_4 ih_4
  obtain ⟨i_4, x2_4, hi_4, hH_4, hS, hl, hk_4⟩ := hI_4
  subst hH_4
  refine lv_iload_n hx hb dX4_canBeLast_4 rfl (lv_at hl 0 rfl) ?_
  refine lv_aload_n hx hb dX4_canBeLast_5 rfl (lv_at hl 2 rfl) ?_
  have hPc := hP.sub (ws' := [(dr, .inr (2, [.ref dp, .ref dc, .int (nI n)]))]) [0] rfl
  refine va_calli (va_runV (As := []) (rest := [.int (nI i_4)]) ⟨hx, hb, hml, hown, hts⟩ (mz_d_size l dC dI cI cJ cZ dr dp dc n s.heap ) (cwV 0 hts gX4_canBeLast_X2_size rfl rfl rfl (by decide +kernel) ⟨Nat.le_of_ble_eq_true rfl, Nat.le_of_ble_eq_true rfl⟩) ⟨fun a U g mk q => mz_blP q, va_recv hK hPc (ci := 2) (q0 := 0) rfl rfl, fun U hU hW => ⟨rfl, hU, hPc, va_K.moved hW.alike hK, mz_nw hW hN⟩⟩ rfl rfl hl.1 rfl (lv_room (Nat.le_of_ble_eq_true rfl)) dX4_canBeLast_6 ⟨Nat.le_of_ble_eq_true rfl, Nat.le_of_ble_eq_true rfl⟩) hS (fun q _ h => h.elim) (fun q h => h.elim) (fun r_6 u t H1 locs ht hvm hw_6 hB hz1 hk1 hS => ?_)
  have hE : s.heap = H1 := hB.symm.trans ht
  subst hE
  obtain rfl : r_6 = (nI n) := hw_6
  refine lv_icmp_ge (tgt := 48) hx hb dX4_canBeLast_9 (by decide) (fun c_9 => ?_) (fun c_9 => ?_)
  · skip
    have d_9 : n ≤ i_4 := (nI_leI (a := n) (b := i_4) (by omega) (by omega)).mp c_9
    refine lv_iload_n hx hb dX4_canBeLast_48 rfl (lv_at hl 1 rfl) ?_
    refine W.widen (k := 0) (n := 0) (Nat.le_of_ble_eq_true rfl) (Nat.le_of_ble_eq_true rfl) ?_
    exact W.iret (v := x2_4) hx hb hr (fun t ht hW => ⟨⟨x2_4, (), rfl, trivial, ht⟩, hS.F ht⟩) hS.2.2 dX4_canBeLast_49
  · skip
    have d_9 : ¬ n ≤ i_4 := fun h => c_9 ((nI_leI (a := n) (b := i_4) (by omega) (by omega)).mpr h)
    refine lv_iload_n hx hb dX4_canBeLast_12 rfl (lv_at hl 3 rfl) ?_
    refine lv_iload_n hx hb dX4_canBeLast_13 rfl (lv_at hl 0 rfl) ?_
    have hPc := hP.sub (ws' := []) [] rfl
    refine va_calli (va_runSN (As := [.int p1, .int (nI i_4)]) (rest := []) ⟨hx, hb, hml, hown, hts⟩ (mz_g_inHeap l dC dI cI cJ cZ p1 (nI i_4) s.heap ) ⟨va_cnB (host := "MadeItSo") 2 hts gX4_canBeLast_X7_inHeap_n25 rfl rfl rfl (hN (RX4, 25, yX7_inHeap, "MadeItSo") (by decide +kernel)) (hts (.initialized RX7) (by decide +kernel)) (by decide +kernel) ⟨Nat.le_of_ble_eq_true rfl, Nat.le_of_ble_eq_true rfl⟩, hts (.static yX7_inHeap) (by decide +kernel), trivial⟩ ⟨fun a U g mk q => mz_blP q, fun U hU hW => ⟨rfl, hU, hPc, va_K.moved hW.alike hK, mz_nw hW hN⟩⟩ rfl rfl hl.1 rfl (lv_room (Nat.le_of_ble_eq_true rfl)) dX4_canBeLast_14 ⟨Nat.le_of_ble_eq_true rfl, Nat.le_of_ble_eq_true rfl⟩) hS (fun q _ h => h.elim) (fun q h => h.elim) (fun r_14 u t H1 locs ht hvm hw_14 hB hz1 hk1 hS => ?_)
    have hE : s.heap = H1 := hB.symm.trans ht
    subst hE
    refine lv_if_eq (tgt := 42) hx hb dX4_canBeLast_17 (by decide) (fun c_17 => ?_) (fun c_17 => ?_)
    · skip
      refine lv_iinc (v := (nI (i_4 + 1))) (lv' := [(3, .int (nI (i_4 + 1))), (2, .int x2_4), (0, .ref dr), (1, .int p1)]) hx hb dX4_canBeLast_42 hl (k := 0) rfl (nI_1 _) (by decide) rfl (fun ls hl => ?_)
      refine lv_goto (tgt := 4) hx hb dX4_canBeLast_45 (by decide) ?_
      exact ih_4 _ (by omega) _ _ _ ⟨(i_4 + 1), x2_4, by omega, rfl, hS, lv_sub hl [0, 1, 2, 3] rfl, rfl⟩
    · skip
      refine lv_aload_n hx hb dX4_canBeLast_20 rfl (lv_at hl 2 rfl) ?_
      refine lv_iload_n hx hb dX4_canBeLast_21 rfl (lv_at hl 0 rfl) ?_
      refine lv_aload_n hx hb dX4_canBeLast_22 rfl (lv_at hl 2 rfl) ?_
      refine lv_iload_n hx hb dX4_canBeLast_23 rfl (lv_at hl 0 rfl) ?_
      have hPc := hP.sub (ws' := [(dr, .inr (2, [.ref dp, .ref dc, .int (nI n)])), (dp, .inl (cI, 8, .inl fp)), (dc, .inl (cI, 8, .inl fc))]) [0, 1, 2] rfl
      refine va_calli (va_runV (As := [.int (nI i_4)]) (rest := [.int (nI i_4), .ref dr]) ⟨hx, hb, hml, hown, hts⟩ (mz_d_joinedTo l dC dI cI cJ cZ dr dp dc n fp fc (nI i_4) s.heap (by first | assumption | omega)) (cwV 1 hts gX4_canBeLast_X2_joinedTo rfl rfl rfl (by decide +kernel) ⟨Nat.le_of_ble_eq_true rfl, Nat.le_of_ble_eq_true rfl⟩) ⟨fun a U g mk q => mz_blP q, va_recv hK hPc (ci := 2) (q0 := 0) rfl rfl, fun U hU hW => ⟨rfl, hU, hPc, va_K.moved hW.alike hK, mz_nw hW hN⟩⟩ rfl rfl hl.1 rfl (lv_room (Nat.le_of_ble_eq_true rfl)) dX4_canBeLast_24 ⟨Nat.le_of_ble_eq_true rfl, Nat.le_of_ble_eq_true rfl⟩) hS (fun q _ h => h.elim) (fun q h => h.elim) (fun r_24 u t H1 locs ht hvm hw_24 hB hz1 hk1 hS => ?_)
      have hE : s.heap = H1 := hB.symm.trans ht
      subst hE
      refine lv_iload_n hx hb dX4_canBeLast_27 rfl (lv_at hl 3 rfl) ?_
      refine lv_iand hx hb dX4_canBeLast_28 ?_
      refine lv_topi (fun v_28 ev_28 => ?_)
      have hPc := hP.sub (ws' := [(dr, .inr (2, [.ref dp, .ref dc, .int (nI n)])), (dp, .inl (cI, 8, .inl fp)), (dc, .inl (cI, 8, .inl fc))]) [0, 1, 2] rfl
      refine va_calli (va_runV (As := [.int (nI i_4), .int v_28]) (rest := []) ⟨hx, hb, hml, hown, hts⟩ (mz_d_sameThirds l dC dI cI cJ cZ dr dp dc n fp fc (nI i_4) v_28 s.heap (by first | assumption | omega)) (cwV 2 hts gX4_canBeLast_X2_sameThirds rfl rfl rfl (by decide +kernel) ⟨Nat.le_of_ble_eq_true rfl, Nat.le_of_ble_eq_true rfl⟩) ⟨fun a U g mk q => mz_blP q, va_recv hK hPc (ci := 2) (q0 := 0) rfl rfl, fun U hU hW => ⟨rfl, hU, hPc, va_K.moved hW.alike hK, mz_nw hW hN⟩⟩ rfl rfl hl.1 rfl (lv_room (Nat.le_of_ble_eq_true rfl)) dX4_canBeLast_29 ⟨Nat.le_of_ble_eq_true rfl, Nat.le_of_ble_eq_true rfl⟩) hS (fun q _ h => h.elim) (fun q h => h.elim) (fun r_29 u t H1 locs ht hvm hw_29 hB hz1 hk1 hS => ?_)
      have hE : s.heap = H1 := hB.symm.trans ht
      subst hE
      refine lv_if_eq (tgt := 42) hx hb dX4_canBeLast_32 (by decide) (fun c_32 => ?_) (fun c_32 => ?_)
      · skip
        refine lv_iinc (v := (nI (i_4 + 1))) (lv' := [(3, .int (nI (i_4 + 1))), (2, .int x2_4), (0, .ref dr), (1, .int p1)]) hx hb dX4_canBeLast_42 hl (k := 0) rfl (nI_1 _) (by decide) rfl (fun ls hl => ?_)
        refine lv_goto (tgt := 4) hx hb dX4_canBeLast_45 (by decide) ?_
        exact ih_4 _ (by omega) _ _ _ ⟨(i_4 + 1), x2_4, by omega, rfl, hS, lv_sub hl [0, 1, 2, 3] rfl, rfl⟩
      · skip
        refine lv_iload_n hx hb dX4_canBeLast_35 rfl (lv_at hl 1 rfl) ?_
        refine lv_iload_n hx hb dX4_canBeLast_36 rfl (lv_at hl 0 rfl) ?_
        have hPc := hP.sub (ws' := []) [] rfl
        refine va_calli (va_runSN (As := [.int (nI i_4)]) (rest := [.int x2_4]) ⟨hx, hb, hml, hown, hts⟩ (mz_g_bit l dC dI cI cJ cZ (nI i_4) s.heap ) ⟨va_cnB (host := "MadeItSo") 1 hts gX4_canBeLast_X7_bit_n29 rfl rfl rfl (hN (RX4, 29, yX7_bit, "MadeItSo") (by decide +kernel)) (hts (.initialized RX7) (by decide +kernel)) (by decide +kernel) ⟨Nat.le_of_ble_eq_true rfl, Nat.le_of_ble_eq_true rfl⟩, hts (.static yX7_bit) (by decide +kernel), trivial⟩ ⟨fun a U g mk q => mz_blP q, fun U hU hW => ⟨rfl, hU, hPc, va_K.moved hW.alike hK, mz_nw hW hN⟩⟩ rfl rfl hl.1 rfl (lv_room (Nat.le_of_ble_eq_true rfl)) dX4_canBeLast_37 ⟨Nat.le_of_ble_eq_true rfl, Nat.le_of_ble_eq_true rfl⟩) hS (fun q _ h => h.elim) (fun q h => h.elim) (fun r_37 u t H1 locs ht hvm hw_37 hB hz1 hk1 hS => ?_)
        have hE : s.heap = H1 := hB.symm.trans ht
        subst hE
        obtain rfl : r_37 = (1 <<< ((nI i_4) &&& 31)) := hw_37
        refine lv_ior hx hb dX4_canBeLast_40 ?_
        refine lv_topi (fun v_40 ev_40 => ?_)
        refine lv_istore_n (lv' := [(2, .int v_40), (3, .int (nI i_4)), (0, .ref dr), (1, .int p1)]) hx hb dX4_canBeLast_41 rfl hl (by decide) rfl (fun ls hl => ?_)
        refine lv_iinc (v := (nI (i_4 + 1))) (lv' := [(3, .int (nI (i_4 + 1))), (2, .int v_40), (0, .ref dr), (1, .int p1)]) hx hb dX4_canBeLast_42 hl (k := 1) rfl (nI_1 _) (by decide) rfl (fun ls hl => ?_)
        refine lv_goto (tgt := 4) hx hb dX4_canBeLast_45 (by decide) ?_
        exact ih_4 _ (by omega) _ _ _ ⟨(i_4 + 1), v_40, by omega, rfl, hS, lv_sub hl [0, 1, 2, 3] rfl, rfl⟩
set_option maxHeartbeats 1000000 in
set_option maxRecDepth 100000 in
theorem mz_k_waysEndingIn (l : Launch) (dC : Nat → ClassId) (dI : Nat → Nat → Nat) (cI cJ cZ : ClassId) (la : Nat) (lw : Nat) (fl : Nat → Int32) (dr : Nat) (dp : Nat) (dc : Nat) (n : Nat) (fp : Nat → Int32) (fc : Nat → Int32) (p1 : Int32) (p2 : Int32) (Hq : Heap) (hn : n ≤ 8) : Met l yX4_waysEndingIn wsX4_waysEndingIn ({ frames := 3, cells := 0, slots := 0, locals := 64 }) (va_Pc [.ref la, .ref dr, .int p1, .int p2] (fun U => U.heap = Hq ∧ va_P (dC, dI) vwCl [(la, .inr (4, [.ref lw])), (lw, .inl (cI, 256, .inl fl)), (dr, .inr (2, [.ref dp, .ref dc, .int (nI n)])), (dp, .inl (cI, 8, .inl fp)), (dc, .inl (cI, 8, .inl fc))] Hq ∧ va_K (dC, dI) vwCl [(cI, FieldType.int), (cJ, FieldType.long), (cZ, FieldType.boolean)] U ∧ mz_N U)) (va_Qi (fun (r : Int32) (_ : Unit) => True) (fun _ t => t.heap = Hq) (fun _ : Nat => False)) 0 0 (fun _ : Nat => False) := by
  refine Met.ofW (cc := cX4_waysEndingIn) (maxL := 9) (ret := (some .int)) (by decide) rfl ?_
  intro p e s m args below meth c s₁ B hml hv
  obtain ⟨rfl, hH, hP, hK, hN⟩ := hv
  subst hH
  have hx := B.exec
  have hb := B.bytes
  have hr := B.returns
  have hts := atoms_spec (ws := wsX4_waysEndingIn) B.pre
  have hown : s.vm.findClass RX4 = some m.cls := findClass_of_methodNamed B.named
  have hlocks := B.notSynchronized
  have hS : va_S (fun _ : Nat => False) s.heap s.heap [] := va_S.rf
  have hiX4 : ∀ w ∈ u_ws RX4 TX4 1, w ∈ wsX4_waysEndingIn := by decide +kernel
  have hl := lv_entry ([.ref la, .ref dr, .int p1, .int p2]) (n := 9) (Nat.le_of_ble_eq_true rfl)
  rw [lg_entry_eq]
  generalize (lg_sl ([.ref la, .ref dr, .int p1, .int p2]) ++ List.replicate (9 - (lg_sl ([.ref la, .ref dr, .int p1, .int p2])).length) Slot.unset).toArray = ls at hl ⊢
  have hl : lv_has ls 9 [(0, .ref la), (1, .ref dr), (2, .int p1), (3, .int p2)] := hl
  refine lv_iconst (v := 0) hx hb dX4_waysEndingIn_0 (by decide +kernel) ?_
  refine lv_istore (lv' := [(4, .int 0), (0, .ref la), (1, .ref dr), (2, .int p1), (3, .int p2)]) hx hb dX4_waysEndingIn_1 hl (by decide) rfl (fun ls hl => ?_)
  refine lv_iload_n hx hb dX4_waysEndingIn_3 rfl (lv_at hl 4 rfl) ?_
  have hPc := hP.sub (ws' := []) [] rfl
  refine va_calli (va_runSN (As := [.int p2]) (rest := []) ⟨hx, hb, hml, hown, hts⟩ (mz_g_partsOf l dC dI cI cJ cZ p2 s.heap ) ⟨va_cnB (host := "MadeItSo") 1 hts gX4_waysEndingIn_X7_partsOf_n37 rfl rfl rfl (hN (RX4, 37, yX7_partsOf, "MadeItSo") (by decide +kernel)) (hts (.initialized RX7) (by decide +kernel)) (by decide +kernel) ⟨Nat.le_of_ble_eq_true rfl, Nat.le_of_ble_eq_true rfl⟩, hts (.static yX7_partsOf) (by decide +kernel), trivial⟩ ⟨fun a U g mk q => mz_blP q, fun U hU hW => ⟨rfl, hU, hPc, va_K.moved hW.alike hK, mz_nw hW hN⟩⟩ rfl rfl hl.1 rfl (lv_room (Nat.le_of_ble_eq_true rfl)) dX4_waysEndingIn_4 ⟨Nat.le_of_ble_eq_true rfl, Nat.le_of_ble_eq_true rfl⟩) hS (fun q _ h => h.elim) (fun q h => h.elim) (fun r_4 u t H1 locs ht hvm hw_4 hB hz1 hk1 hS => ?_)
  have hE : s.heap = H1 := hB.symm.trans ht
  subst hE
  refine lv_istore (lv' := [(5, .int r_4), (4, .int 0), (0, .ref la), (1, .ref dr), (2, .int p1), (3, .int p2)]) hx hb dX4_waysEndingIn_7 hl (by decide) rfl (fun ls hl => ?_)
  refine lv_iconst (v := 1) hx hb dX4_waysEndingIn_9 (by decide +kernel) ?_
  refine lv_istore (lv' := [(6, .int 1), (5, .int r_4), (4, .int 0), (0, .ref la), (1, .ref dr), (2, .int p1), (3, .int p2)]) hx hb dX4_waysEndingIn_10 hl (by decide) rfl (fun ls hl => ?_)
  refine lv_iconst (v := 0) hx hb dX4_waysEndingIn_12 (by decide +kernel) ?_
  refine lv_iload_n hx hb dX4_waysEndingIn_13 rfl (lv_at hl 6 rfl) ?_
  have hPc := hP.sub (ws' := []) [] rfl
  refine va_calli (va_runSN (As := [.int 0, .int p2]) (rest := []) ⟨hx, hb, hml, hown, hts⟩ (mz_g_nextPart l dC dI cI cJ cZ 0 p2 s.heap ) ⟨va_cnB (host := "MadeItSo") 2 hts gX4_waysEndingIn_X7_nextPart_n40 rfl rfl rfl (hN (RX4, 40, yX7_nextPart, "MadeItSo") (by decide +kernel)) (hts (.initialized RX7) (by decide +kernel)) (by decide +kernel) ⟨Nat.le_of_ble_eq_true rfl, Nat.le_of_ble_eq_true rfl⟩, hts (.static yX7_nextPart) (by decide +kernel), trivial⟩ ⟨fun a U g mk q => mz_blP q, fun U hU hW => ⟨rfl, hU, hPc, va_K.moved hW.alike hK, mz_nw hW hN⟩⟩ rfl rfl hl.1 rfl (lv_room (Nat.le_of_ble_eq_true rfl)) dX4_waysEndingIn_14 ⟨Nat.le_of_ble_eq_true rfl, Nat.le_of_ble_eq_true rfl⟩) hS (fun q _ h => h.elim) (fun q h => h.elim) (fun r_14 u t H1 locs ht hvm hw_14 hB hz1 hk1 hS => ?_)
  have hE : s.heap = H1 := hB.symm.trans ht
  subst hE
  refine lv_istore (lv' := [(7, .int r_14), (6, .int 1), (5, .int r_4), (4, .int 0), (0, .ref la), (1, .ref dr), (2, .int p1), (3, .int p2)]) hx hb dX4_waysEndingIn_17 hl (by decide) rfl (fun ls hl => ?_)
  refine mz_loopU (fun k H locs ls => ∃ (x7_19 : Int32), ∃ (x6_19 : Int32), ∃ (x4_19 : Int32), H = s.heap ∧ va_S (fun _ : Nat => False) s.heap H locs ∧ lv_has ls 9 [(7, .int x7_19), (6, .int x6_19), (5, .int r_4), (4, .int x4_19), (0, .ref la), (1, .ref dr), (2, .int p1), (3, .int p2)] ∧ k = ((r_4 : Int32).toInt - x6_19.toInt).toNat) ?_ _ _ _ _ ⟨r_14, 1, 0, rfl, hS, lv_sub hl [0, 1, 2, 3, 4, 5, 6, 7] rfl, rfl⟩
  intro k_19 H locs ls hI_19 ih_19
  obtain ⟨x7_19, x6_19, x4_19, hH_19, hS, hl, hk_19⟩ := hI_19
  subst hH_19
  refine lv_iload hx hb dX4_waysEndingIn_19 (lv_at hl 1 rfl) ?_
  refine lv_iload hx hb dX4_waysEndingIn_21 (lv_at hl 2 rfl) ?_
  refine lv_icmp_ge (tgt := 90) hx hb dX4_waysEndingIn_23 (by decide) (fun c_23 => ?_) (fun c_23 => ?_)
  · skip
    refine lv_iload hx hb dX4_waysEndingIn_90 (lv_at hl 3 rfl) ?_
    refine W.widen (k := 0) (n := 0) (Nat.le_of_ble_eq_true rfl) (Nat.le_of_ble_eq_true rfl) ?_
    exact W.iret (v := x4_19) hx hb hr (fun t ht hW => ⟨⟨x4_19, (), rfl, trivial, ht⟩, hS.F ht⟩) hS.2.2 dX4_waysEndingIn_92
  · skip
    refine lv_aload_n hx hb dX4_waysEndingIn_26 rfl (lv_at hl 5 rfl) ?_
    refine lv_iload hx hb dX4_waysEndingIn_27 (lv_at hl 0 rfl) ?_
    have hPc := hP.sub (ws' := [(dr, .inr (2, [.ref dp, .ref dc, .int (nI n)])), (dp, .inl (cI, 8, .inl fp)), (dc, .inl (cI, 8, .inl fc))]) [2, 3, 4] rfl
    refine va_calli (va_runV (As := [.int x7_19]) (rest := []) ⟨hx, hb, hml, hown, hts⟩ (mz_d_apart l dC dI cI cJ cZ dr dp dc n fp fc x7_19 s.heap (by first | assumption | omega)) (cwV 1 hts gX4_waysEndingIn_X2_apart rfl rfl rfl (by decide +kernel) ⟨Nat.le_of_ble_eq_true rfl, Nat.le_of_ble_eq_true rfl⟩) ⟨fun a U g mk q => mz_blP q, va_recv hK hPc (ci := 2) (q0 := 0) rfl rfl, fun U hU hW => ⟨rfl, hU, hPc, va_K.moved hW.alike hK, mz_nw hW hN⟩⟩ rfl rfl hl.1 rfl (lv_room (Nat.le_of_ble_eq_true rfl)) dX4_waysEndingIn_29 ⟨Nat.le_of_ble_eq_true rfl, Nat.le_of_ble_eq_true rfl⟩) hS (fun q _ h => h.elim) (fun q h => h.elim) (fun r_29 u t H1 locs ht hvm hw_29 hB hz1 hk1 hS => ?_)
    have hE : s.heap = H1 := hB.symm.trans ht
    subst hE
    refine lv_if_eq (tgt := 76) hx hb dX4_waysEndingIn_32 (by decide) (fun c_32 => ?_) (fun c_32 => ?_)
    · skip
      obtain ⟨v_76, ev_76⟩ : ∃ y : Int32, y = x6_19 + Int32.ofInt 1 := ⟨_, rfl⟩
      refine lv_iinc (v := v_76) (lv' := [(6, .int v_76), (7, .int x7_19), (5, .int r_4), (4, .int x4_19), (0, .ref la), (1, .ref dr), (2, .int p1), (3, .int p2)]) hx hb dX4_waysEndingIn_76 hl (k := 1) rfl ev_76.symm (by decide) rfl (fun ls hl => ?_)
      refine lv_iload hx hb dX4_waysEndingIn_79 (lv_at hl 1 rfl) ?_
      refine lv_iload_n hx hb dX4_waysEndingIn_81 rfl (lv_at hl 7 rfl) ?_
      have hPc := hP.sub (ws' := []) [] rfl
      refine va_calli (va_runSN (As := [.int x7_19, .int p2]) (rest := []) ⟨hx, hb, hml, hown, hts⟩ (mz_g_nextPart l dC dI cI cJ cZ x7_19 p2 s.heap ) ⟨va_cnB (host := "MadeItSo") 2 hts gX4_waysEndingIn_X7_nextPart_n40 rfl rfl rfl (hN (RX4, 40, yX7_nextPart, "MadeItSo") (by decide +kernel)) (hts (.initialized RX7) (by decide +kernel)) (by decide +kernel) ⟨Nat.le_of_ble_eq_true rfl, Nat.le_of_ble_eq_true rfl⟩, hts (.static yX7_nextPart) (by decide +kernel), trivial⟩ ⟨fun a U g mk q => mz_blP q, fun U hU hW => ⟨rfl, hU, hPc, va_K.moved hW.alike hK, mz_nw hW hN⟩⟩ rfl rfl hl.1 rfl (lv_room (Nat.le_of_ble_eq_true rfl)) dX4_waysEndingIn_82 ⟨Nat.le_of_ble_eq_true rfl, Nat.le_of_ble_eq_true rfl⟩) hS (fun q _ h => h.elim) (fun q h => h.elim) (fun r_82 u t H1 locs ht hvm hw_82 hB hz1 hk1 hS => ?_)
      have hE : s.heap = H1 := hB.symm.trans ht
      subst hE
      refine lv_istore (lv' := [(7, .int r_82), (6, .int v_76), (5, .int r_4), (4, .int x4_19), (0, .ref la), (1, .ref dr), (2, .int p1), (3, .int p2)]) hx hb dX4_waysEndingIn_85 hl (by decide) rfl (fun ls hl => ?_)
      refine lv_goto (tgt := 19) hx hb dX4_waysEndingIn_87 (by decide) ?_
      exact ih_19 _ (by rw [hk_19, ev_76]; exact mz_dec c_23) _ _ _ ⟨r_82, v_76, x4_19, rfl, hS, lv_sub hl [0, 1, 2, 3, 4, 5, 6, 7] rfl, rfl⟩
    · skip
      refine lv_aload_n hx hb dX4_waysEndingIn_35 rfl (lv_at hl 4 rfl) ?_
      refine va_get (D := (dC, dI)) (ci := 4) (v := .ref lw) (C := RX4) (T := TX4) (N := 1) hx hb hts hiX4 hown hK hP 0 rfl rfl 0 (by decide) (hts (.fieldLink RX4 9 "MadeItSo$Lookalikes" "waysOf" "[I") (by decide +kernel)) (fun _ h9 => h9) rfl dX4_waysEndingIn_36 ?_
      refine lv_iload_n hx hb dX4_waysEndingIn_39 rfl (lv_at hl 6 rfl) ?_
      refine lv_iload hx hb dX4_waysEndingIn_40 (lv_at hl 0 rfl) ?_
      refine lv_iconst (v := (-1)) hx hb dX4_waysEndingIn_42 (by decide +kernel) ?_
      refine lv_ixor hx hb dX4_waysEndingIn_43 ?_
      refine lv_topi (fun v_43 ev_43 => ?_)
      refine lv_iand hx hb dX4_waysEndingIn_44 ?_
      refine lv_topi (fun v_44 ev_44 => ?_)
      refine lv_sipush (v := 255) hx hb dX4_waysEndingIn_45 (by decide +kernel) ?_
      refine lv_iand hx hb dX4_waysEndingIn_48 ?_
      obtain ⟨a_48, ha_48, ea_48⟩ := pk_andE (v_44) (m := 255) 8 (by decide)
      have ha_48 : a_48 < 256 := ha_48
      refine mz_ti (y := (nI a_48)) ea_48 ?_
      refine va_iald hx hb hK hP 1 0 rfl rfl (vp_in_nI (by omega) (by omega)) dX4_waysEndingIn_49 ?_
      refine lv_topi (fun v_49 ev_49 => ?_)
      refine lv_istore (lv' := [(8, .int v_49), (7, .int x7_19), (6, .int x6_19), (5, .int r_4), (4, .int x4_19), (0, .ref la), (1, .ref dr), (2, .int p1), (3, .int p2)]) hx hb dX4_waysEndingIn_50 hl (by decide) rfl (fun ls hl => ?_)
      refine lv_iload hx hb dX4_waysEndingIn_52 (lv_at hl 4 rfl) ?_
      refine lv_iload hx hb dX4_waysEndingIn_54 (lv_at hl 1 rfl) ?_
      have hPc := hP.sub (ws' := []) [] rfl
      refine va_calli (va_runS (As := [.int x7_19]) (rest := [.int x4_19]) ⟨hx, hb, hml, hown, hts⟩ (mz_g_bitCount l dC dI cI cJ cZ x7_19 s.heap ) (va_cwS 1 hts gX4_waysEndingIn_J6_bitCount_0f7a4 rfl rfl rfl (by decide +kernel) ⟨Nat.le_of_ble_eq_true rfl, Nat.le_of_ble_eq_true rfl⟩) ⟨fun a U g mk q => mz_blP q, fun U hU hW => ⟨rfl, hU, hPc, va_K.moved hW.alike hK, mz_nw hW hN⟩⟩ rfl rfl hl.1 rfl (lv_room (Nat.le_of_ble_eq_true rfl)) dX4_waysEndingIn_56 ⟨Nat.le_of_ble_eq_true rfl, Nat.le_of_ble_eq_true rfl⟩) hS (fun q _ h => h.elim) (fun q h => h.elim) (fun r_56 u t H1 locs ht hvm hw_56 hB hz1 hk1 hS => ?_)
      have hE : s.heap = H1 := hB.symm.trans ht
      subst hE
      refine lv_iconst (v := 1) hx hb dX4_waysEndingIn_59 (by decide +kernel) ?_
      refine lv_iand hx hb dX4_waysEndingIn_60 ?_
      refine lv_topi (fun v_60 ev_60 => ?_)
      refine lv_iconst (v := 1) hx hb dX4_waysEndingIn_61 (by decide +kernel) ?_
      refine lv_icmp_ne (tgt := 70) hx hb dX4_waysEndingIn_62 (by decide) (fun c_62 => ?_) (fun c_62 => ?_)
      · skip
        refine lv_iload hx hb dX4_waysEndingIn_70 (lv_at hl 0 rfl) ?_
        refine lv_ineg hx hb dX4_waysEndingIn_72 ?_
        refine lv_topi (fun v_72 ev_72 => ?_)
        refine lv_iadd hx hb dX4_waysEndingIn_73 ?_
        refine lv_topi (fun v_73 ev_73 => ?_)
        refine lv_istore (lv' := [(4, .int v_73), (8, .int v_49), (7, .int x7_19), (6, .int x6_19), (5, .int r_4), (0, .ref la), (1, .ref dr), (2, .int p1), (3, .int p2)]) hx hb dX4_waysEndingIn_74 hl (by decide) rfl (fun ls hl => ?_)
        obtain ⟨v_76, ev_76⟩ : ∃ y : Int32, y = x6_19 + Int32.ofInt 1 := ⟨_, rfl⟩
        refine lv_iinc (v := v_76) (lv' := [(6, .int v_76), (4, .int v_73), (8, .int v_49), (7, .int x7_19), (5, .int r_4), (0, .ref la), (1, .ref dr), (2, .int p1), (3, .int p2)]) hx hb dX4_waysEndingIn_76 hl (k := 3) rfl ev_76.symm (by decide) rfl (fun ls hl => ?_)
        refine lv_iload hx hb dX4_waysEndingIn_79 (lv_at hl 3 rfl) ?_
        refine lv_iload_n hx hb dX4_waysEndingIn_81 rfl (lv_at hl 8 rfl) ?_
        have hPc := hP.sub (ws' := []) [] rfl
        refine va_calli (va_runSN (As := [.int x7_19, .int p2]) (rest := []) ⟨hx, hb, hml, hown, hts⟩ (mz_g_nextPart l dC dI cI cJ cZ x7_19 p2 s.heap ) ⟨va_cnB (host := "MadeItSo") 2 hts gX4_waysEndingIn_X7_nextPart_n40 rfl rfl rfl (hN (RX4, 40, yX7_nextPart, "MadeItSo") (by decide +kernel)) (hts (.initialized RX7) (by decide +kernel)) (by decide +kernel) ⟨Nat.le_of_ble_eq_true rfl, Nat.le_of_ble_eq_true rfl⟩, hts (.static yX7_nextPart) (by decide +kernel), trivial⟩ ⟨fun a U g mk q => mz_blP q, fun U hU hW => ⟨rfl, hU, hPc, va_K.moved hW.alike hK, mz_nw hW hN⟩⟩ rfl rfl hl.1 rfl (lv_room (Nat.le_of_ble_eq_true rfl)) dX4_waysEndingIn_82 ⟨Nat.le_of_ble_eq_true rfl, Nat.le_of_ble_eq_true rfl⟩) hS (fun q _ h => h.elim) (fun q h => h.elim) (fun r_82 u t H1 locs ht hvm hw_82 hB hz1 hk1 hS => ?_)
        have hE : s.heap = H1 := hB.symm.trans ht
        subst hE
        refine lv_istore (lv' := [(7, .int r_82), (6, .int v_76), (4, .int v_73), (8, .int v_49), (5, .int r_4), (0, .ref la), (1, .ref dr), (2, .int p1), (3, .int p2)]) hx hb dX4_waysEndingIn_85 hl (by decide) rfl (fun ls hl => ?_)
        refine lv_goto (tgt := 19) hx hb dX4_waysEndingIn_87 (by decide) ?_
        exact ih_19 _ (by rw [hk_19, ev_76]; exact mz_dec c_23) _ _ _ ⟨r_82, v_76, v_73, rfl, hS, lv_sub hl [0, 1, 4, 2, 5, 6, 7, 8] rfl, rfl⟩
      · skip
        refine lv_iload hx hb dX4_waysEndingIn_65 (lv_at hl 0 rfl) ?_
        refine lv_goto (tgt := 73) hx hb dX4_waysEndingIn_67 (by decide) ?_
        refine lv_iadd hx hb dX4_waysEndingIn_73 ?_
        refine lv_topi (fun v_73 ev_73 => ?_)
        refine lv_istore (lv' := [(4, .int v_73), (8, .int v_49), (7, .int x7_19), (6, .int x6_19), (5, .int r_4), (0, .ref la), (1, .ref dr), (2, .int p1), (3, .int p2)]) hx hb dX4_waysEndingIn_74 hl (by decide) rfl (fun ls hl => ?_)
        obtain ⟨v_76, ev_76⟩ : ∃ y : Int32, y = x6_19 + Int32.ofInt 1 := ⟨_, rfl⟩
        refine lv_iinc (v := v_76) (lv' := [(6, .int v_76), (4, .int v_73), (8, .int v_49), (7, .int x7_19), (5, .int r_4), (0, .ref la), (1, .ref dr), (2, .int p1), (3, .int p2)]) hx hb dX4_waysEndingIn_76 hl (k := 3) rfl ev_76.symm (by decide) rfl (fun ls hl => ?_)
        refine lv_iload hx hb dX4_waysEndingIn_79 (lv_at hl 3 rfl) ?_
        refine lv_iload_n hx hb dX4_waysEndingIn_81 rfl (lv_at hl 8 rfl) ?_
        have hPc := hP.sub (ws' := []) [] rfl
        refine va_calli (va_runSN (As := [.int x7_19, .int p2]) (rest := []) ⟨hx, hb, hml, hown, hts⟩ (mz_g_nextPart l dC dI cI cJ cZ x7_19 p2 s.heap ) ⟨va_cnB (host := "MadeItSo") 2 hts gX4_waysEndingIn_X7_nextPart_n40 rfl rfl rfl (hN (RX4, 40, yX7_nextPart, "MadeItSo") (by decide +kernel)) (hts (.initialized RX7) (by decide +kernel)) (by decide +kernel) ⟨Nat.le_of_ble_eq_true rfl, Nat.le_of_ble_eq_true rfl⟩, hts (.static yX7_nextPart) (by decide +kernel), trivial⟩ ⟨fun a U g mk q => mz_blP q, fun U hU hW => ⟨rfl, hU, hPc, va_K.moved hW.alike hK, mz_nw hW hN⟩⟩ rfl rfl hl.1 rfl (lv_room (Nat.le_of_ble_eq_true rfl)) dX4_waysEndingIn_82 ⟨Nat.le_of_ble_eq_true rfl, Nat.le_of_ble_eq_true rfl⟩) hS (fun q _ h => h.elim) (fun q h => h.elim) (fun r_82 u t H1 locs ht hvm hw_82 hB hz1 hk1 hS => ?_)
        have hE : s.heap = H1 := hB.symm.trans ht
        subst hE
        refine lv_istore (lv' := [(7, .int r_82), (6, .int v_76), (4, .int v_73), (8, .int v_49), (5, .int r_4), (0, .ref la), (1, .ref dr), (2, .int p1), (3, .int p2)]) hx hb dX4_waysEndingIn_85 hl (by decide) rfl (fun ls hl => ?_)
        refine lv_goto (tgt := 19) hx hb dX4_waysEndingIn_87 (by decide) ?_
        exact ih_19 _ (by rw [hk_19, ev_76]; exact mz_dec c_23) _ _ _ ⟨r_82, v_76, v_73, rfl, hS, lv_sub hl [0, 1, 4, 2, 5, 6, 7, 8] rfl, rfl⟩
set_option maxHeartbeats 1000000 in
set_option maxRecDepth 100000 in
theorem mz_k_reckon (l : Launch) (dC : Nat → ClassId) (dI : Nat → Nat → Nat) (cI cJ cZ : ClassId) (la : Nat) (lw : Nat) (fl : Nat → Int32) (dr : Nat) (dp : Nat) (dc : Nat) (n : Nat) (fp : Nat → Int32) (fc : Nat → Int32) (p1 : Int32) (p2 : Int32) (sz : Nat) (hn : n ≤ 8) : Met l yX4_reckon wsX4_reckon ({ frames := 5, cells := 0, slots := 0, locals := 111 }) (va_Pc [.ref la, .ref dr, .int p1, .int p2] (fun U => U.heap.size = sz ∧ va_P (dC, dI) vwCl [(la, .inr (4, [.ref lw])), (lw, .inl (cI, 256, .inl fl)), (dr, .inr (2, [.ref dp, .ref dc, .int (nI n)])), (dp, .inl (cI, 8, .inl fp)), (dc, .inl (cI, 8, .inl fc))] U.heap ∧ va_K (dC, dI) vwCl [(cI, FieldType.int), (cJ, FieldType.long), (cZ, FieldType.boolean)] U ∧ va_D (fun _ => True) [(la, .inr (4, [.ref lw])), (lw, .inl (cI, 256, .inl fl)), (dr, .inr (2, [.ref dp, .ref dc, .int (nI n)])), (dp, .inl (cI, 8, .inl fp)), (dc, .inl (cI, 8, .inl fc))] ∧ mz_N U)) (va_Qi (fun (r : Int32) (_ : Unit) => True) (fun _ t => ∃ (gl : Nat → Int32), va_P (dC, dI) vwCl [(la, .inr (4, [.ref lw])), (lw, .inl (cI, 256, .inl gl)), (dr, .inr (2, [.ref dp, .ref dc, .int (nI n)])), (dp, .inl (cI, 8, .inl fp)), (dc, .inl (cI, 8, .inl fc))] t.heap ∧ va_D (va_A [(la, .inr (4, [.ref lw])), (lw, .inl (cI, 256, .inl fl)), (dr, .inr (2, [.ref dp, .ref dc, .int (nI n)])), (dp, .inl (cI, 8, .inl fp)), (dc, .inl (cI, 8, .inl fc))] sz) [(la, .inr (4, [.ref lw])), (lw, .inl (cI, 256, .inl gl)), (dr, .inr (2, [.ref dp, .ref dc, .int (nI n)])), (dp, .inl (cI, 8, .inl fp)), (dc, .inl (cI, 8, .inl fc))]) (va_A [(la, .inr (4, [.ref lw])), (lw, .inl (cI, 256, .inl fl)), (dr, .inr (2, [.ref dp, .ref dc, .int (nI n)])), (dp, .inl (cI, 8, .inl fp)), (dc, .inl (cI, 8, .inl fc))] sz)) 0 0 (va_A [(la, .inr (4, [.ref lw])), (lw, .inl (cI, 256, .inl fl)), (dr, .inr (2, [.ref dp, .ref dc, .int (nI n)])), (dp, .inl (cI, 8, .inl fp)), (dc, .inl (cI, 8, .inl fc))] sz) := by
  refine Met.ofW (cc := cX4_reckon) (maxL := 7) (ret := (some .int)) (by decide) rfl ?_
  intro p e s m args below meth c s₁ B hml hv
  obtain ⟨rfl, hsz, hP, hK, hD0, hN⟩ := hv
  subst hsz
  have hx := B.exec
  have hb := B.bytes
  have hr := B.returns
  have hts := atoms_spec (ws := wsX4_reckon) B.pre
  have hown : s.vm.findClass RX4 = some m.cls := findClass_of_methodNamed B.named
  have hlocks := B.notSynchronized
  have hD := hD0.self (sz := s.heap.size)
  generalize hAe : va_A [(la, .inr (4, [.ref lw])), (lw, .inl (cI, 256, .inl fl)), (dr, .inr (2, [.ref dp, .ref dc, .int (nI n)])), (dp, .inl (cI, 8, .inl fp)), (dc, .inl (cI, 8, .inl fc))] s.heap.size = A at hD ⊢
  have hA : ∀ q : Nat, s.heap.size ≤ q → A q := fun q h => by rw [← hAe]; exact Or.inr h
  have hS : va_S A s.heap s.heap [] := va_S.rf
  have hiX4 : ∀ w ∈ u_ws RX4 TX4 1, w ∈ wsX4_reckon := by decide +kernel
  have hl := lv_entry ([.ref la, .ref dr, .int p1, .int p2]) (n := 7) (Nat.le_of_ble_eq_true rfl)
  rw [lg_entry_eq]
  generalize (lg_sl ([.ref la, .ref dr, .int p1, .int p2]) ++ List.replicate (7 - (lg_sl ([.ref la, .ref dr, .int p1, .int p2])).length) Slot.unset).toArray = ls at hl ⊢
  have hl : lv_has ls 7 [(0, .ref la), (1, .ref dr), (2, .int p1), (3, .int p2)] := hl
  refine lv_aload_n hx hb dX4_reckon_0 rfl (lv_at hl 1 rfl) ?_
  have hPc := hP.sub (ws' := [(dr, .inr (2, [.ref dp, .ref dc, .int (nI n)]))]) [2] rfl
  refine va_calli (va_runV (As := []) (rest := []) ⟨hx, hb, hml, hown, hts⟩ (mz_d_everything l dC dI cI cJ cZ dr dp dc n s.heap ) (cwV 0 hts gX4_reckon_X2_everything rfl rfl rfl (by decide +kernel) ⟨Nat.le_of_ble_eq_true rfl, Nat.le_of_ble_eq_true rfl⟩) ⟨fun a U g mk q => mz_blP q, va_recv hK hPc (ci := 2) (q0 := 0) rfl rfl, fun U hU hW => ⟨rfl, hU, hPc, va_K.moved hW.alike hK, mz_nw hW hN⟩⟩ rfl rfl hl.1 rfl (lv_room (Nat.le_of_ble_eq_true rfl)) dX4_reckon_1 ⟨Nat.le_of_ble_eq_true rfl, Nat.le_of_ble_eq_true rfl⟩) hS (fun q _ h => h.elim) (fun q h => h.elim) (fun r_1 u t H1 locs ht hvm hw_1 hB hz1 hk1 hS => ?_)
  have hE : s.heap = H1 := hB.symm.trans ht
  subst hE
  refine lv_sipush (v := 255) hx hb dX4_reckon_4 (by decide +kernel) ?_
  refine lv_iand hx hb dX4_reckon_7 ?_
  obtain ⟨a_7, ha_7, ea_7⟩ := pk_andE (r_1) (m := 255) 8 (by decide)
  have ha_7 : a_7 < 256 := ha_7
  refine mz_ti (y := (nI a_7)) ea_7 ?_
  refine lv_istore (lv' := [(4, .int (nI a_7)), (0, .ref la), (1, .ref dr), (2, .int p1), (3, .int p2)]) hx hb dX4_reckon_8 hl (by decide) rfl (fun ls hl => ?_)
  refine lv_aload_n hx hb dX4_reckon_10 rfl (lv_at hl 1 rfl) ?_
  refine va_get (D := (dC, dI)) (ci := 4) (v := .ref lw) (C := RX4) (T := TX4) (N := 1) hx hb hts hiX4 hown hK hP 0 rfl rfl 0 (by decide) (hts (.fieldLink RX4 9 "MadeItSo$Lookalikes" "waysOf" "[I") (by decide +kernel)) (fun _ h9 => h9) rfl dX4_reckon_11 ?_
  refine lv_iconst (v := 0) hx hb dX4_reckon_14 (by decide +kernel) ?_
  refine lv_iconst (v := 1) hx hb dX4_reckon_15 (by decide +kernel) ?_
  refine va_iast hx hb hK hP hD hS 1 0 rfl rfl (mz_in (by decide +kernel)) dX4_reckon_16 (fun H locs hP hD hS => ?_)
  have hP : va_P (dC, dI) vwCl [(la, .inr (4, [.ref lw])), (lw, .inl (cI, 256, .inl (upd fl (0 : Int32).toNatClampNeg 1))), (dr, .inr (2, [.ref dp, .ref dc, .int (nI n)])), (dp, .inl (cI, 8, .inl fp)), (dc, .inl (cI, 8, .inl fc))] H := hP
  have hD : va_D A [(la, .inr (4, [.ref lw])), (lw, .inl (cI, 256, .inl (upd fl (0 : Int32).toNatClampNeg 1))), (dr, .inr (2, [.ref dp, .ref dc, .int (nI n)])), (dp, .inl (cI, 8, .inl fp)), (dc, .inl (cI, 8, .inl fc))] := hD
  generalize (upd fl (0 : Int32).toNatClampNeg 1) = f_16 at hP hD
  refine lv_iconst (v := 1) hx hb dX4_reckon_17 (by decide +kernel) ?_
  refine lv_istore (lv' := [(5, .int 1), (4, .int (nI a_7)), (0, .ref la), (1, .ref dr), (2, .int p1), (3, .int p2)]) hx hb dX4_reckon_18 hl (by decide) rfl (fun ls hl => ?_)
  refine mz_loopU (fun k H locs ls => ∃ (i_20 : Nat), ∃ (flw_20 : Nat → Int32), i_20 ≤ 256 ∧ va_P (dC, dI) vwCl [(la, .inr (4, [.ref lw])), (lw, .inl (cI, 256, .inl flw_20)), (dr, .inr (2, [.ref dp, .ref dc, .int (nI n)])), (dp, .inl (cI, 8, .inl fp)), (dc, .inl (cI, 8, .inl fc))] H ∧ va_D A [(la, .inr (4, [.ref lw])), (lw, .inl (cI, 256, .inl flw_20)), (dr, .inr (2, [.ref dp, .ref dc, .int (nI n)])), (dp, .inl (cI, 8, .inl fp)), (dc, .inl (cI, 8, .inl fc))] ∧ va_S A s.heap H locs ∧ lv_has ls 7 [(5, .int (nI i_20)), (4, .int (nI a_7)), (0, .ref la), (1, .ref dr), (2, .int p1), (3, .int p2)] ∧ k = 256 - i_20) ?_ _ _ _ _ ⟨1, f_16, by omega, hP, hD, hS, lv_sub hl [0, 1, 2, 3, 4, 5] rfl, rfl⟩
  intro k_20 H locs ls hI_20 ih_20
  obtain ⟨i_20, flw_20, hi_20, hP, hD, hS, hl, hk_20⟩ := hI_20
  refine lv_iload hx hb dX4_reckon_20 (lv_at hl 0 rfl) ?_
  refine lv_iload hx hb dX4_reckon_22 (lv_at hl 1 rfl) ?_
  refine lv_icmp_gt (tgt := 82) hx hb dX4_reckon_24 (by decide) (fun c_24 => ?_) (fun c_24 => ?_)
  · skip
    have d_24 : a_7 < i_20 := (nI_ltI (a := a_7) (b := i_20) (by omega) (by omega)).mp c_24
    refine lv_aload_n hx hb dX4_reckon_82 rfl (lv_at hl 2 rfl) ?_
    refine va_get (D := (dC, dI)) (ci := 4) (v := .ref lw) (C := RX4) (T := TX4) (N := 1) hx hb hts hiX4 hown hK hP 0 rfl rfl 0 (by decide) (hts (.fieldLink RX4 9 "MadeItSo$Lookalikes" "waysOf" "[I") (by decide +kernel)) (fun _ h9 => h9) rfl dX4_reckon_83 ?_
    refine lv_iload hx hb dX4_reckon_86 (lv_at hl 1 rfl) ?_
    refine va_iald hx hb hK hP 1 0 rfl rfl (vp_in_nI (by omega) (by omega)) dX4_reckon_88 ?_
    refine lv_topi (fun v_88 ev_88 => ?_)
    have hP9 := hP.sub (ws' := [(la, .inr (4, [.ref lw])), (lw, .inl (cI, 256, .inl flw_20)), (dr, .inr (2, [.ref dp, .ref dc, .int (nI n)])), (dp, .inl (cI, 8, .inl fp)), (dc, .inl (cI, 8, .inl fc))]) [0, 1, 2, 3, 4] rfl
    have hD9 := hD.sub (ws' := [(la, .inr (4, [.ref lw])), (lw, .inl (cI, 256, .inl flw_20)), (dr, .inr (2, [.ref dp, .ref dc, .int (nI n)])), (dp, .inl (cI, 8, .inl fp)), (dc, .inl (cI, 8, .inl fc))]) [0, 1, 2, 3, 4] (by decide) rfl
    refine W.widen (k := 0) (n := 0) (Nat.le_of_ble_eq_true rfl) (Nat.le_of_ble_eq_true rfl) ?_
    exact W.iret (v := v_88) hx hb hr (fun t ht hW => ⟨⟨v_88, (), rfl, trivial, flw_20, by rw [ht]; exact hP9, hD9⟩, hS.F ht⟩) hS.2.2 dX4_reckon_89
  · skip
    have d_24 : ¬ a_7 < i_20 := fun h => c_24 ((nI_ltI (a := a_7) (b := i_20) (by omega) (by omega)).mpr h)
    refine lv_aload_n hx hb dX4_reckon_27 rfl (lv_at hl 3 rfl) ?_
    refine lv_iload hx hb dX4_reckon_28 (lv_at hl 0 rfl) ?_
    have hPc := hP.sub (ws' := [(dr, .inr (2, [.ref dp, .ref dc, .int (nI n)])), (dp, .inl (cI, 8, .inl fp)), (dc, .inl (cI, 8, .inl fc))]) [2, 3, 4] rfl
    refine va_calli (va_runS (As := [.ref dr, .int (nI i_20)]) (rest := []) ⟨hx, hb, hml, hown, hts⟩ (mz_k_canBeLast l dC dI cI cJ cZ dr dp dc n fp fc (nI i_20) H (by first | assumption | omega)) (va_cwS 2 hts gX4_reckon_X4_canBeLast rfl rfl rfl (by decide +kernel) ⟨Nat.le_of_ble_eq_true rfl, Nat.le_of_ble_eq_true rfl⟩) ⟨fun a U g mk q => mz_blP q, fun U hU hW => ⟨rfl, hU, hPc, va_K.moved hW.alike hK, mz_nw hW hN⟩⟩ rfl rfl hl.1 rfl (lv_room (Nat.le_of_ble_eq_true rfl)) dX4_reckon_30 ⟨Nat.le_of_ble_eq_true rfl, Nat.le_of_ble_eq_true rfl⟩) hS (fun q _ h => h.elim) (fun q h => h.elim) (fun r_30 u t H1 locs ht hvm hw_30 hB hz1 hk1 hS => ?_)
    have hE : H = H1 := hB.symm.trans ht
    subst hE
    refine lv_istore (lv' := [(6, .int r_30), (5, .int (nI i_20)), (4, .int (nI a_7)), (0, .ref la), (1, .ref dr), (2, .int p1), (3, .int p2)]) hx hb dX4_reckon_33 hl (by decide) rfl (fun ls hl => ?_)
    refine lv_iload_n hx hb dX4_reckon_35 rfl (lv_at hl 6 rfl) ?_
    refine lv_iconst (v := (-1)) hx hb dX4_reckon_36 (by decide +kernel) ?_
    refine lv_icmp_eq (tgt := 60) hx hb dX4_reckon_37 (by decide) (fun c_37 => ?_) (fun c_37 => ?_)
    · skip
      refine lv_aload_n hx hb dX4_reckon_60 rfl (lv_at hl 3 rfl) ?_
      refine va_get (D := (dC, dI)) (ci := 4) (v := .ref lw) (C := RX4) (T := TX4) (N := 1) hx hb hts hiX4 hown hK hP 0 rfl rfl 0 (by decide) (hts (.fieldLink RX4 9 "MadeItSo$Lookalikes" "waysOf" "[I") (by decide +kernel)) (fun _ h9 => h9) rfl dX4_reckon_61 ?_
      refine lv_iload hx hb dX4_reckon_64 (lv_at hl 1 rfl) ?_
      refine lv_aload_n hx hb dX4_reckon_66 rfl (lv_at hl 3 rfl) ?_
      refine lv_aload_n hx hb dX4_reckon_67 rfl (lv_at hl 4 rfl) ?_
      refine lv_iload hx hb dX4_reckon_68 (lv_at hl 1 rfl) ?_
      refine lv_iload hx hb dX4_reckon_70 (lv_at hl 0 rfl) ?_
      have hPc := hP.sub (ws' := [(la, .inr (4, [.ref lw])), (lw, .inl (cI, 256, .inl flw_20)), (dr, .inr (2, [.ref dp, .ref dc, .int (nI n)])), (dp, .inl (cI, 8, .inl fp)), (dc, .inl (cI, 8, .inl fc))]) [0, 1, 2, 3, 4] rfl
      refine va_calli (va_runV (As := [.ref dr, .int (nI i_20), .int r_30]) (rest := [.int (nI i_20), .ref lw]) ⟨hx, hb, hml, hown, hts⟩ (mz_k_waysEndingIn l dC dI cI cJ cZ la lw flw_20 dr dp dc n fp fc (nI i_20) r_30 H (by first | assumption | omega)) (cwV 3 hts gX4_reckon_X4_waysEndingIn rfl rfl rfl (by decide +kernel) ⟨Nat.le_of_ble_eq_true rfl, Nat.le_of_ble_eq_true rfl⟩) ⟨fun a U g mk q => mz_blP q, va_recv hK hPc (ci := 4) (q0 := 0) rfl rfl, fun U hU hW => ⟨rfl, hU, hPc, va_K.moved hW.alike hK, mz_nw hW hN⟩⟩ rfl rfl hl.1 rfl (lv_room (Nat.le_of_ble_eq_true rfl)) dX4_reckon_72 ⟨Nat.le_of_ble_eq_true rfl, Nat.le_of_ble_eq_true rfl⟩) hS (fun q _ h => h.elim) (fun q h => h.elim) (fun r_72 u t H1 locs ht hvm hw_72 hB hz1 hk1 hS => ?_)
      have hE : H = H1 := hB.symm.trans ht
      subst hE
      refine va_iast hx hb hK hP hD hS 1 0 rfl rfl (vp_in_nI (by omega) (by omega)) dX4_reckon_75 (fun H locs hP hD hS => ?_)
      have hP : va_P (dC, dI) vwCl [(la, .inr (4, [.ref lw])), (lw, .inl (cI, 256, .inl (upd flw_20 ((nI i_20) : Int32).toNatClampNeg r_72))), (dr, .inr (2, [.ref dp, .ref dc, .int (nI n)])), (dp, .inl (cI, 8, .inl fp)), (dc, .inl (cI, 8, .inl fc))] H := hP
      have hD : va_D A [(la, .inr (4, [.ref lw])), (lw, .inl (cI, 256, .inl (upd flw_20 ((nI i_20) : Int32).toNatClampNeg r_72))), (dr, .inr (2, [.ref dp, .ref dc, .int (nI n)])), (dp, .inl (cI, 8, .inl fp)), (dc, .inl (cI, 8, .inl fc))] := hD
      generalize (upd flw_20 ((nI i_20) : Int32).toNatClampNeg r_72) = f_75 at hP hD
      refine lv_iinc (v := (nI (i_20 + 1))) (lv' := [(5, .int (nI (i_20 + 1))), (6, .int r_30), (4, .int (nI a_7)), (0, .ref la), (1, .ref dr), (2, .int p1), (3, .int p2)]) hx hb dX4_reckon_76 hl (k := 1) rfl (nI_1 _) (by decide) rfl (fun ls hl => ?_)
      refine lv_goto (tgt := 20) hx hb dX4_reckon_79 (by decide) ?_
      exact ih_20 _ (by omega) _ _ _ ⟨(i_20 + 1), f_75, by omega, hP, hD, hS, lv_sub hl [0, 2, 3, 4, 5, 6] rfl, rfl⟩
    · skip
      refine lv_iload hx hb dX4_reckon_40 (lv_at hl 1 rfl) ?_
      refine lv_iload_n hx hb dX4_reckon_42 rfl (lv_at hl 5 rfl) ?_
      have hPc := hP.sub (ws' := []) [] rfl
      refine va_calli (va_runSN (As := [.int (nI i_20), .int p1]) (rest := []) ⟨hx, hb, hml, hown, hts⟩ (mz_g_inHeap l dC dI cI cJ cZ (nI i_20) p1 H ) ⟨va_cnB (host := "MadeItSo") 2 hts gX4_reckon_X7_inHeap_n25 rfl rfl rfl (hN (RX4, 25, yX7_inHeap, "MadeItSo") (by decide +kernel)) (hts (.initialized RX7) (by decide +kernel)) (by decide +kernel) ⟨Nat.le_of_ble_eq_true rfl, Nat.le_of_ble_eq_true rfl⟩, hts (.static yX7_inHeap) (by decide +kernel), trivial⟩ ⟨fun a U g mk q => mz_blP q, fun U hU hW => ⟨rfl, hU, hPc, va_K.moved hW.alike hK, mz_nw hW hN⟩⟩ rfl rfl hl.1 rfl (lv_room (Nat.le_of_ble_eq_true rfl)) dX4_reckon_43 ⟨Nat.le_of_ble_eq_true rfl, Nat.le_of_ble_eq_true rfl⟩) hS (fun q _ h => h.elim) (fun q h => h.elim) (fun r_43 u t H1 locs ht hvm hw_43 hB hz1 hk1 hS => ?_)
      have hE : H = H1 := hB.symm.trans ht
      subst hE
      refine lv_if_ne (tgt := 60) hx hb dX4_reckon_46 (by decide) (fun c_46 => ?_) (fun c_46 => ?_)
      · skip
        refine lv_aload_n hx hb dX4_reckon_60 rfl (lv_at hl 3 rfl) ?_
        refine va_get (D := (dC, dI)) (ci := 4) (v := .ref lw) (C := RX4) (T := TX4) (N := 1) hx hb hts hiX4 hown hK hP 0 rfl rfl 0 (by decide) (hts (.fieldLink RX4 9 "MadeItSo$Lookalikes" "waysOf" "[I") (by decide +kernel)) (fun _ h9 => h9) rfl dX4_reckon_61 ?_
        refine lv_iload hx hb dX4_reckon_64 (lv_at hl 1 rfl) ?_
        refine lv_aload_n hx hb dX4_reckon_66 rfl (lv_at hl 3 rfl) ?_
        refine lv_aload_n hx hb dX4_reckon_67 rfl (lv_at hl 4 rfl) ?_
        refine lv_iload hx hb dX4_reckon_68 (lv_at hl 1 rfl) ?_
        refine lv_iload hx hb dX4_reckon_70 (lv_at hl 0 rfl) ?_
        have hPc := hP.sub (ws' := [(la, .inr (4, [.ref lw])), (lw, .inl (cI, 256, .inl flw_20)), (dr, .inr (2, [.ref dp, .ref dc, .int (nI n)])), (dp, .inl (cI, 8, .inl fp)), (dc, .inl (cI, 8, .inl fc))]) [0, 1, 2, 3, 4] rfl
        refine va_calli (va_runV (As := [.ref dr, .int (nI i_20), .int r_30]) (rest := [.int (nI i_20), .ref lw]) ⟨hx, hb, hml, hown, hts⟩ (mz_k_waysEndingIn l dC dI cI cJ cZ la lw flw_20 dr dp dc n fp fc (nI i_20) r_30 H (by first | assumption | omega)) (cwV 3 hts gX4_reckon_X4_waysEndingIn rfl rfl rfl (by decide +kernel) ⟨Nat.le_of_ble_eq_true rfl, Nat.le_of_ble_eq_true rfl⟩) ⟨fun a U g mk q => mz_blP q, va_recv hK hPc (ci := 4) (q0 := 0) rfl rfl, fun U hU hW => ⟨rfl, hU, hPc, va_K.moved hW.alike hK, mz_nw hW hN⟩⟩ rfl rfl hl.1 rfl (lv_room (Nat.le_of_ble_eq_true rfl)) dX4_reckon_72 ⟨Nat.le_of_ble_eq_true rfl, Nat.le_of_ble_eq_true rfl⟩) hS (fun q _ h => h.elim) (fun q h => h.elim) (fun r_72 u t H1 locs ht hvm hw_72 hB hz1 hk1 hS => ?_)
        have hE : H = H1 := hB.symm.trans ht
        subst hE
        refine va_iast hx hb hK hP hD hS 1 0 rfl rfl (vp_in_nI (by omega) (by omega)) dX4_reckon_75 (fun H locs hP hD hS => ?_)
        have hP : va_P (dC, dI) vwCl [(la, .inr (4, [.ref lw])), (lw, .inl (cI, 256, .inl (upd flw_20 ((nI i_20) : Int32).toNatClampNeg r_72))), (dr, .inr (2, [.ref dp, .ref dc, .int (nI n)])), (dp, .inl (cI, 8, .inl fp)), (dc, .inl (cI, 8, .inl fc))] H := hP
        have hD : va_D A [(la, .inr (4, [.ref lw])), (lw, .inl (cI, 256, .inl (upd flw_20 ((nI i_20) : Int32).toNatClampNeg r_72))), (dr, .inr (2, [.ref dp, .ref dc, .int (nI n)])), (dp, .inl (cI, 8, .inl fp)), (dc, .inl (cI, 8, .inl fc))] := hD
        generalize (upd flw_20 ((nI i_20) : Int32).toNatClampNeg r_72) = f_75 at hP hD
        refine lv_iinc (v := (nI (i_20 + 1))) (lv' := [(5, .int (nI (i_20 + 1))), (6, .int r_30), (4, .int (nI a_7)), (0, .ref la), (1, .ref dr), (2, .int p1), (3, .int p2)]) hx hb dX4_reckon_76 hl (k := 1) rfl (nI_1 _) (by decide) rfl (fun ls hl => ?_)
        refine lv_goto (tgt := 20) hx hb dX4_reckon_79 (by decide) ?_
        exact ih_20 _ (by omega) _ _ _ ⟨(i_20 + 1), f_75, by omega, hP, hD, hS, lv_sub hl [0, 2, 3, 4, 5, 6] rfl, rfl⟩
      · skip
        refine lv_iload hx hb dX4_reckon_49 (lv_at hl 0 rfl) ?_
        refine lv_iload_n hx hb dX4_reckon_51 rfl (lv_at hl 6 rfl) ?_
        have hPc := hP.sub (ws' := []) [] rfl
        refine va_calli (va_runSN (As := [.int p2]) (rest := [.int r_30]) ⟨hx, hb, hml, hown, hts⟩ (mz_g_bit l dC dI cI cJ cZ p2 H ) ⟨va_cnB (host := "MadeItSo") 1 hts gX4_reckon_X7_bit_n29 rfl rfl rfl (hN (RX4, 29, yX7_bit, "MadeItSo") (by decide +kernel)) (hts (.initialized RX7) (by decide +kernel)) (by decide +kernel) ⟨Nat.le_of_ble_eq_true rfl, Nat.le_of_ble_eq_true rfl⟩, hts (.static yX7_bit) (by decide +kernel), trivial⟩ ⟨fun a U g mk q => mz_blP q, fun U hU hW => ⟨rfl, hU, hPc, va_K.moved hW.alike hK, mz_nw hW hN⟩⟩ rfl rfl hl.1 rfl (lv_room (Nat.le_of_ble_eq_true rfl)) dX4_reckon_52 ⟨Nat.le_of_ble_eq_true rfl, Nat.le_of_ble_eq_true rfl⟩) hS (fun q _ h => h.elim) (fun q h => h.elim) (fun r_52 u t H1 locs ht hvm hw_52 hB hz1 hk1 hS => ?_)
        have hE : H = H1 := hB.symm.trans ht
        subst hE
        obtain rfl : r_52 = (1 <<< (p2 &&& 31)) := hw_52
        refine lv_iconst (v := (-1)) hx hb dX4_reckon_55 (by decide +kernel) ?_
        refine lv_ixor hx hb dX4_reckon_56 ?_
        refine lv_topi (fun v_56 ev_56 => ?_)
        refine lv_iand hx hb dX4_reckon_57 ?_
        refine lv_topi (fun v_57 ev_57 => ?_)
        refine lv_istore (lv' := [(6, .int v_57), (5, .int (nI i_20)), (4, .int (nI a_7)), (0, .ref la), (1, .ref dr), (2, .int p1), (3, .int p2)]) hx hb dX4_reckon_58 hl (by decide) rfl (fun ls hl => ?_)
        refine lv_aload_n hx hb dX4_reckon_60 rfl (lv_at hl 3 rfl) ?_
        refine va_get (D := (dC, dI)) (ci := 4) (v := .ref lw) (C := RX4) (T := TX4) (N := 1) hx hb hts hiX4 hown hK hP 0 rfl rfl 0 (by decide) (hts (.fieldLink RX4 9 "MadeItSo$Lookalikes" "waysOf" "[I") (by decide +kernel)) (fun _ h9 => h9) rfl dX4_reckon_61 ?_
        refine lv_iload hx hb dX4_reckon_64 (lv_at hl 1 rfl) ?_
        refine lv_aload_n hx hb dX4_reckon_66 rfl (lv_at hl 3 rfl) ?_
        refine lv_aload_n hx hb dX4_reckon_67 rfl (lv_at hl 4 rfl) ?_
        refine lv_iload hx hb dX4_reckon_68 (lv_at hl 1 rfl) ?_
        refine lv_iload hx hb dX4_reckon_70 (lv_at hl 0 rfl) ?_
        have hPc := hP.sub (ws' := [(la, .inr (4, [.ref lw])), (lw, .inl (cI, 256, .inl flw_20)), (dr, .inr (2, [.ref dp, .ref dc, .int (nI n)])), (dp, .inl (cI, 8, .inl fp)), (dc, .inl (cI, 8, .inl fc))]) [0, 1, 2, 3, 4] rfl
        refine va_calli (va_runV (As := [.ref dr, .int (nI i_20), .int v_57]) (rest := [.int (nI i_20), .ref lw]) ⟨hx, hb, hml, hown, hts⟩ (mz_k_waysEndingIn l dC dI cI cJ cZ la lw flw_20 dr dp dc n fp fc (nI i_20) v_57 H (by first | assumption | omega)) (cwV 3 hts gX4_reckon_X4_waysEndingIn rfl rfl rfl (by decide +kernel) ⟨Nat.le_of_ble_eq_true rfl, Nat.le_of_ble_eq_true rfl⟩) ⟨fun a U g mk q => mz_blP q, va_recv hK hPc (ci := 4) (q0 := 0) rfl rfl, fun U hU hW => ⟨rfl, hU, hPc, va_K.moved hW.alike hK, mz_nw hW hN⟩⟩ rfl rfl hl.1 rfl (lv_room (Nat.le_of_ble_eq_true rfl)) dX4_reckon_72 ⟨Nat.le_of_ble_eq_true rfl, Nat.le_of_ble_eq_true rfl⟩) hS (fun q _ h => h.elim) (fun q h => h.elim) (fun r_72 u t H1 locs ht hvm hw_72 hB hz1 hk1 hS => ?_)
        have hE : H = H1 := hB.symm.trans ht
        subst hE
        refine va_iast hx hb hK hP hD hS 1 0 rfl rfl (vp_in_nI (by omega) (by omega)) dX4_reckon_75 (fun H locs hP hD hS => ?_)
        have hP : va_P (dC, dI) vwCl [(la, .inr (4, [.ref lw])), (lw, .inl (cI, 256, .inl (upd flw_20 ((nI i_20) : Int32).toNatClampNeg r_72))), (dr, .inr (2, [.ref dp, .ref dc, .int (nI n)])), (dp, .inl (cI, 8, .inl fp)), (dc, .inl (cI, 8, .inl fc))] H := hP
        have hD : va_D A [(la, .inr (4, [.ref lw])), (lw, .inl (cI, 256, .inl (upd flw_20 ((nI i_20) : Int32).toNatClampNeg r_72))), (dr, .inr (2, [.ref dp, .ref dc, .int (nI n)])), (dp, .inl (cI, 8, .inl fp)), (dc, .inl (cI, 8, .inl fc))] := hD
        generalize (upd flw_20 ((nI i_20) : Int32).toNatClampNeg r_72) = f_75 at hP hD
        refine lv_iinc (v := (nI (i_20 + 1))) (lv' := [(5, .int (nI (i_20 + 1))), (6, .int v_57), (4, .int (nI a_7)), (0, .ref la), (1, .ref dr), (2, .int p1), (3, .int p2)]) hx hb dX4_reckon_76 hl (k := 1) rfl (nI_1 _) (by decide) rfl (fun ls hl => ?_)
        refine lv_goto (tgt := 20) hx hb dX4_reckon_79 (by decide) ?_
        exact ih_20 _ (by omega) _ _ _ ⟨(i_20 + 1), f_75, by omega, hP, hD, hS, lv_sub hl [0, 2, 3, 4, 5, 6] rfl, rfl⟩
