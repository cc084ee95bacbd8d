/-! the reference without things -/
set_option maxHeartbeats 1000000 in
set_option maxRecDepth 100000 in
theorem mz_M_isThing (l : Launch) (dC : Nat → ClassId) (dI : Nat → Nat → Nat) (cI cJ cZ : ClassId) (mo : Nat) (m1 : Nat) (m2 : Nat) (m3 : Nat) (m6 : Nat) (m7 : Nat) (m8 : Nat) (m9 : Nat) (m10 : Nat) (m11 : Nat) (m12 : Nat) (m13 : Nat) (m14 : Nat) (m15 : Nat) (m16 : Nat) (p0 : Int32) (Hq : Heap)  : Met l yX8_isThing wsX8_isThing ({ frames := 0, cells := 0, slots := 0, locals := 0 }) (va_Pc [.ref mo, .int p0] (fun U => U.heap = Hq ∧ va_P (dC, dI) vwCl [(mo, .inr (8, [.int 0, .ref m1, .ref m2, .ref m3, .long 0, .long 1, .ref m6, .ref m7, .ref m8, .ref m9, .ref m10, .ref m11, .ref m12, .ref m13, .ref m14, .ref m15, .ref m16]))] Hq ∧ va_K (dC, dI) vwCl [(cI, FieldType.int), (cJ, FieldType.long), (cZ, FieldType.boolean)] U ∧ mz_N U)) (va_Qi (fun (r : Int32) (_ : Unit) => r = 0) (fun _ t => t.heap = Hq) (fun _ : Nat => False)) 0 0 (fun _ : Nat => False) := by
  refine Met.ofW (cc := cX8_isThing) (maxL := 2) (ret := (some .boolean)) (by decide) rfl ?_
  intro p e s m args below meth c s₁ B hml hv
  obtain ⟨rfl, hH, hP, hK, hN⟩ := hv
  subst hH
  have hx := B.exec
  have hb := B.bytes
  have hr := B.returns
  have hts := atoms_spec (ws := wsX8_isThing) B.pre
  have hown : s.vm.findClass RX8 = some m.cls := findClass_of_methodNamed B.named
  have hlocks := B.notSynchronized
  have hS : va_S (fun _ : Nat => False) s.heap s.heap [] := va_S.rf
  have hiX8 : ∀ w ∈ u_ws RX8 TX8 17, w ∈ wsX8_isThing := by decide +kernel
  have hl := lv_entry ([.ref mo, .int p0]) (n := 2) (Nat.le_of_ble_eq_true rfl)
  rw [lg_entry_eq]
  generalize (lg_sl ([.ref mo, .int p0]) ++ List.replicate (2 - (lg_sl ([.ref mo, .int p0])).length) Slot.unset).toArray = ls at hl ⊢
  have hl : lv_has ls 2 [(0, .ref mo), (1, .int p0)] := hl
  refine lv_iload_n hx hb dX8_isThing_0 rfl (lv_at hl 1 rfl) ?_
  refine lv_if_lt (tgt := 16) hx hb dX8_isThing_1 (by decide) (fun c_1 => ?_) (fun c_1 => ?_)
  · skip
    refine lv_iconst (v := 0) hx hb dX8_isThing_16 (by decide +kernel) ?_
    refine W.widen (k := 0) (n := 0) (Nat.le_of_ble_eq_true rfl) (Nat.le_of_ble_eq_true rfl) ?_
    exact W.zret (v := 0) hx hb hr (mz_nz (by decide +kernel)) (fun t ht hW => ⟨⟨0, (), rfl, rfl, ht⟩, hS.F ht⟩) hS.2.2 dX8_isThing_17
  · skip
    refine lv_iload_n hx hb dX8_isThing_4 rfl (lv_at hl 1 rfl) ?_
    refine lv_aload_n hx hb dX8_isThing_5 rfl (lv_at hl 0 rfl) ?_
    refine va_get (D := (dC, dI)) (ci := 8) (v := .int 0) (C := RX8) (T := TX8) (N := 17) hx hb hts hiX8 hown hK hP 0 rfl rfl 0 (by decide) (hts (.fieldLink RX8 58 "MadeItSoModel" "many" "I") (by decide +kernel)) (fun _ h9 => h9) rfl dX8_isThing_6 ?_
    refine lv_icmp_ge (tgt := 16) hx hb dX8_isThing_9 (by decide) (fun _ => ?_) (fun c_9 => absurd (mz_nn c_1) c_9)
    refine lv_iconst (v := 0) hx hb dX8_isThing_16 (by decide +kernel) ?_
    refine W.widen (k := 0) (n := 0) (Nat.le_of_ble_eq_true rfl) (Nat.le_of_ble_eq_true rfl) ?_
    exact W.zret (v := 0) hx hb hr (mz_nz (by decide +kernel)) (fun t ht hW => ⟨⟨0, (), rfl, rfl, ht⟩, hS.F ht⟩) hS.2.2 dX8_isThing_17
set_option maxHeartbeats 1000000 in
set_option maxRecDepth 100000 in
theorem mz_M_isHeap_0 (l : Launch) (dC : Nat → ClassId) (dI : Nat → Nat → Nat) (cI cJ cZ : ClassId) (mo : Nat) (m1 : Nat) (m2 : Nat) (m3 : Nat) (m6 : Nat) (m7 : Nat) (m8 : Nat) (m9 : Nat) (m10 : Nat) (m11 : Nat) (m12 : Nat) (m13 : Nat) (m14 : Nat) (m15 : Nat) (m16 : Nat) (la1 : Int64) (lb1 : Int64) (Hq : Heap)  : Met l yX8_isHeap wsX8_isHeap ({ frames := 0, cells := 0, slots := 0, locals := 0 }) (va_Pc [.ref mo, .int 0] (fun U => U.heap = Hq ∧ va_P (dC, dI) vwCl [(mo, .inr (8, [.int 0, .ref m1, .ref m2, .ref m3, .long la1, .long lb1, .ref m6, .ref m7, .ref m8, .ref m9, .ref m10, .ref m11, .ref m12, .ref m13, .ref m14, .ref m15, .ref m16]))] Hq ∧ va_K (dC, dI) vwCl [(cI, FieldType.int), (cJ, FieldType.long), (cZ, FieldType.boolean)] U ∧ mz_N U)) (va_Qi (fun (r : Int32) (_ : Unit) => r = 1) (fun _ t => t.heap = Hq) (fun _ : Nat => False)) 0 0 (fun _ : Nat => False) := by
  refine Met.ofW (cc := cX8_isHeap) (maxL := 2) (ret := (some .boolean)) (by decide) rfl ?_
  intro p e s m args below meth c s₁ B hml hv
  obtain ⟨rfl, hH, hP, hK, hN⟩ := hv
  subst hH
  have hx := B.exec
  have hb := B.bytes
  have hr := B.returns
  have hts := atoms_spec (ws := wsX8_isHeap) B.pre
  have hown : s.vm.findClass RX8 = some m.cls := findClass_of_methodNamed B.named
  have hlocks := B.notSynchronized
  have hS : va_S (fun _ : Nat => False) s.heap s.heap [] := va_S.rf
  have hiX8 : ∀ w ∈ u_ws RX8 TX8 17, w ∈ wsX8_isHeap := by decide +kernel
  have hl := lv_entry ([.ref mo, .int 0]) (n := 2) (Nat.le_of_ble_eq_true rfl)
  rw [lg_entry_eq]
  generalize (lg_sl ([.ref mo, .int 0]) ++ List.replicate (2 - (lg_sl ([.ref mo, .int 0])).length) Slot.unset).toArray = ls at hl ⊢
  have hl : lv_has ls 2 [(0, .ref mo), (1, .int 0)] := hl
  refine lv_iload_n hx hb dX8_isHeap_0 rfl (lv_at hl 1 rfl) ?_
  refine lv_if_lt (tgt := 18) hx hb dX8_isHeap_1 (by decide) (fun c_1 => absurd c_1 (by decide +kernel)) (fun _ => ?_)
  refine lv_iload_n hx hb dX8_isHeap_4 rfl (lv_at hl 1 rfl) ?_
  refine lv_iconst (v := 1) hx hb dX8_isHeap_5 (by decide +kernel) ?_
  refine lv_aload_n hx hb dX8_isHeap_6 rfl (lv_at hl 0 rfl) ?_
  refine va_get (D := (dC, dI)) (ci := 8) (v := .int 0) (C := RX8) (T := TX8) (N := 17) hx hb hts hiX8 hown hK hP 0 rfl rfl 0 (by decide) (hts (.fieldLink RX8 58 "MadeItSoModel" "many" "I") (by decide +kernel)) (fun _ h9 => h9) rfl dX8_isHeap_7 ?_
  refine lv_ishl hx hb dX8_isHeap_10 ?_
  refine mz_ti (y := 1) (by decide +kernel) ?_
  refine lv_icmp_ge (tgt := 18) hx hb dX8_isHeap_11 (by decide) (fun c_11 => absurd c_11 (by decide +kernel)) (fun _ => ?_)
  refine lv_iconst (v := 1) hx hb dX8_isHeap_14 (by decide +kernel) ?_
  refine lv_goto (tgt := 19) hx hb dX8_isHeap_15 (by decide) ?_
  refine W.widen (k := 0) (n := 0) (Nat.le_of_ble_eq_true rfl) (Nat.le_of_ble_eq_true rfl) ?_
  exact W.zret (v := 1) hx hb hr (mz_nz (by decide +kernel)) (fun t ht hW => ⟨⟨1, (), rfl, rfl, ht⟩, hS.F ht⟩) hS.2.2 dX8_isHeap_19
set_option maxHeartbeats 1000000 in
set_option maxRecDepth 100000 in
theorem mz_M_isHeap_n (l : Launch) (dC : Nat → ClassId) (dI : Nat → Nat → Nat) (cI cJ cZ : ClassId) (mo : Nat) (m1 : Nat) (m2 : Nat) (m3 : Nat) (m6 : Nat) (m7 : Nat) (m8 : Nat) (m9 : Nat) (m10 : Nat) (m11 : Nat) (m12 : Nat) (m13 : Nat) (m14 : Nat) (m15 : Nat) (m16 : Nat) (la1 : Int64) (lb1 : Int64) (p0 : Int32) (Hq : Heap) (hne : ¬ p0 = 0) : Met l yX8_isHeap wsX8_isHeap ({ frames := 0, cells := 0, slots := 0, locals := 0 }) (va_Pc [.ref mo, .int p0] (fun U => U.heap = Hq ∧ va_P (dC, dI) vwCl [(mo, .inr (8, [.int 0, .ref m1, .ref m2, .ref m3, .long la1, .long lb1, .ref m6, .ref m7, .ref m8, .ref m9, .ref m10, .ref m11, .ref m12, .ref m13, .ref m14, .ref m15, .ref m16]))] Hq ∧ va_K (dC, dI) vwCl [(cI, FieldType.int), (cJ, FieldType.long), (cZ, FieldType.boolean)] U ∧ mz_N U)) (va_Qi (fun (r : Int32) (_ : Unit) => r = 0) (fun _ t => t.heap = Hq) (fun _ : Nat => False)) 0 0 (fun _ : Nat => False) := by
  refine Met.ofW (cc := cX8_isHeap) (maxL := 2) (ret := (some .boolean)) (by decide) rfl ?_
  intro p e s m args below meth c s₁ B hml hv
  obtain ⟨rfl, hH, hP, hK, hN⟩ := hv
  subst hH
  have hx := B.exec
  have hb := B.bytes
  have hr := B.returns
  have hts := atoms_spec (ws := wsX8_isHeap) B.pre
  have hown : s.vm.findClass RX8 = some m.cls := findClass_of_methodNamed B.named
  have hlocks := B.notSynchronized
  have hS : va_S (fun _ : Nat => False) s.heap s.heap [] := va_S.rf
  have hiX8 : ∀ w ∈ u_ws RX8 TX8 17, w ∈ wsX8_isHeap := by decide +kernel
  have hl := lv_entry ([.ref mo, .int p0]) (n := 2) (Nat.le_of_ble_eq_true rfl)
  rw [lg_entry_eq]
  generalize (lg_sl ([.ref mo, .int p0]) ++ List.replicate (2 - (lg_sl ([.ref mo, .int p0])).length) Slot.unset).toArray = ls at hl ⊢
  have hl : lv_has ls 2 [(0, .ref mo), (1, .int p0)] := hl
  refine lv_iload_n hx hb dX8_isHeap_0 rfl (lv_at hl 1 rfl) ?_
  refine lv_if_lt (tgt := 18) hx hb dX8_isHeap_1 (by decide) (fun c_1 => ?_) (fun c_1 => ?_)
  · skip
    refine lv_iconst (v := 0) hx hb dX8_isHeap_18 (by decide +kernel) ?_
    refine W.widen (k := 0) (n := 0) (Nat.le_of_ble_eq_true rfl) (Nat.le_of_ble_eq_true rfl) ?_
    exact W.zret (v := 0) hx hb hr (mz_nz (by decide +kernel)) (fun t ht hW => ⟨⟨0, (), rfl, rfl, ht⟩, hS.F ht⟩) hS.2.2 dX8_isHeap_19
  · skip
    refine lv_iload_n hx hb dX8_isHeap_4 rfl (lv_at hl 1 rfl) ?_
    refine lv_iconst (v := 1) hx hb dX8_isHeap_5 (by decide +kernel) ?_
    refine lv_aload_n hx hb dX8_isHeap_6 rfl (lv_at hl 0 rfl) ?_
    refine va_get (D := (dC, dI)) (ci := 8) (v := .int 0) (C := RX8) (T := TX8) (N := 17) hx hb hts hiX8 hown hK hP 0 rfl rfl 0 (by decide) (hts (.fieldLink RX8 58 "MadeItSoModel" "many" "I") (by decide +kernel)) (fun _ h9 => h9) rfl dX8_isHeap_7 ?_
    refine lv_ishl hx hb dX8_isHeap_10 ?_
    refine mz_ti (y := 1) (by decide +kernel) ?_
    refine lv_icmp_ge (tgt := 18) hx hb dX8_isHeap_11 (by decide) (fun c_11 => ?_) (fun c_11 => ?_)
    · skip
      refine lv_iconst (v := 0) hx hb dX8_isHeap_18 (by decide +kernel) ?_
      refine W.widen (k := 0) (n := 0) (Nat.le_of_ble_eq_true rfl) (Nat.le_of_ble_eq_true rfl) ?_
      exact W.zret (v := 0) hx hb hr (mz_nz (by decide +kernel)) (fun t ht hW => ⟨⟨0, (), rfl, rfl, ht⟩, hS.F ht⟩) hS.2.2 dX8_isHeap_19
    · skip
      refine lv_iconst (v := 1) hx hb dX8_isHeap_14 (by decide +kernel) ?_
      refine lv_goto (tgt := 19) hx hb dX8_isHeap_15 (by decide) ?_
      refine W.widen (k := 0) (n := 0) (Nat.le_of_ble_eq_true rfl) (Nat.le_of_ble_eq_true rfl) ?_
      exact W.zret (v := 1) hx hb hr (mz_nz (by decide +kernel)) (fun t ht hW => ⟨⟨1, (), rfl, absurd (mz_h1 c_1 c_11) hne, ht⟩, hS.F ht⟩) hS.2.2 dX8_isHeap_19
set_option maxHeartbeats 1000000 in
set_option maxRecDepth 100000 in
theorem mz_M_isSetting_0 (l : Launch) (dC : Nat → ClassId) (dI : Nat → Nat → Nat) (cI cJ cZ : ClassId) (mo : Nat) (m1 : Nat) (m2 : Nat) (m3 : Nat) (m6 : Nat) (m7 : Nat) (m8 : Nat) (m9 : Nat) (m10 : Nat) (m11 : Nat) (m12 : Nat) (m13 : Nat) (m14 : Nat) (m15 : Nat) (m16 : Nat) (la1 : Int64) (lb1 : Int64) (Hq : Heap)  : Met l yX8_isSetting wsX8_isSetting ({ frames := 1, cells := 0, slots := 0, locals := 21 }) (va_Pc [.ref mo, .int 0] (fun U => U.heap = Hq ∧ va_P (dC, dI) vwCl [(mo, .inr (8, [.int 0, .ref m1, .ref m2, .ref m3, .long la1, .long lb1, .ref m6, .ref m7, .ref m8, .ref m9, .ref m10, .ref m11, .ref m12, .ref m13, .ref m14, .ref m15, .ref m16]))] Hq ∧ va_K (dC, dI) vwCl [(cI, FieldType.int), (cJ, FieldType.long), (cZ, FieldType.boolean)] U ∧ mz_N U)) (va_Qi (fun (r : Int32) (_ : Unit) => r = 1) (fun _ t => t.heap = Hq) (fun _ : Nat => False)) 0 0 (fun _ : Nat => False) := by
  refine Met.ofW (cc := cX8_isSetting) (maxL := 2) (ret := (some .boolean)) (by decide) rfl ?_
  intro p e s m args below meth c s₁ B hml hv
  obtain ⟨rfl, hH, hP, hK, hN⟩ := hv
  subst hH
  have hx := B.exec
  have hb := B.bytes
  have hr := B.returns
  have hts := atoms_spec (ws := wsX8_isSetting) B.pre
  have hown : s.vm.findClass RX8 = some m.cls := findClass_of_methodNamed B.named
  have hlocks := B.notSynchronized
  have hS : va_S (fun _ : Nat => False) s.heap s.heap [] := va_S.rf
  have hl := lv_entry ([.ref mo, .int 0]) (n := 2) (Nat.le_of_ble_eq_true rfl)
  rw [lg_entry_eq]
  generalize (lg_sl ([.ref mo, .int 0]) ++ List.replicate (2 - (lg_sl ([.ref mo, .int 0])).length) Slot.unset).toArray = ls at hl ⊢
  have hl : lv_has ls 2 [(0, .ref mo), (1, .int 0)] := hl
  refine lv_iload_n hx hb dX8_isSetting_0 rfl (lv_at hl 1 rfl) ?_
  refine lv_if_lt (tgt := 41) hx hb dX8_isSetting_1 (by decide) (fun c_1 => absurd c_1 (by decide +kernel)) (fun _ => ?_)
  refine lv_iload_n hx hb dX8_isSetting_4 rfl (lv_at hl 1 rfl) ?_
  refine lv_ldc hx hb hown (hts (.constant RX8 62 (65536)) (by decide +kernel)) dX8_isSetting_5 ?_
  refine lv_icmp_ge (tgt := 41) hx hb dX8_isSetting_7 (by decide) (fun c_7 => absurd c_7 (by decide +kernel)) (fun _ => ?_)
  refine lv_aload_n hx hb dX8_isSetting_10 rfl (lv_at hl 0 rfl) ?_
  refine lv_iload_n hx hb dX8_isSetting_11 rfl (lv_at hl 1 rfl) ?_
  refine lv_sipush (v := 255) hx hb dX8_isSetting_12 (by decide +kernel) ?_
  refine lv_iand hx hb dX8_isSetting_15 ?_
  refine mz_ti (y := 0) (by decide +kernel) ?_
  have hPc := hP.sub (ws' := [(mo, .inr (8, [.int 0, .ref m1, .ref m2, .ref m3, .long la1, .long lb1, .ref m6, .ref m7, .ref m8, .ref m9, .ref m10, .ref m11, .ref m12, .ref m13, .ref m14, .ref m15, .ref m16]))]) [0] rfl
  refine va_calli (va_runV (As := [.int 0]) (rest := []) ⟨hx, hb, hml, hown, hts⟩ (mz_M_isHeap_0 l dC dI cI cJ cZ mo m1 m2 m3 m6 m7 m8 m9 m10 m11 m12 m13 m14 m15 m16 la1 lb1 s.heap ) (cwV 1 hts gX8_isSetting_X8_isHeap rfl rfl rfl (by decide +kernel) ⟨Nat.le_of_ble_eq_true rfl, Nat.le_of_ble_eq_true rfl⟩) ⟨fun a U g mk q => mz_blP q, va_recv hK hPc (ci := 8) (q0 := 0) rfl rfl, fun U hU hW => ⟨rfl, hU, hPc, va_K.moved hW.alike hK, mz_nw hW hN⟩⟩ rfl rfl hl.1 rfl (lv_room (Nat.le_of_ble_eq_true rfl)) dX8_isSetting_16 ⟨Nat.le_of_ble_eq_true rfl, Nat.le_of_ble_eq_true rfl⟩) hS (fun q _ h => h.elim) (fun q h => h.elim) (fun r u t H1 locs ht hvm hw hB hz1 hk1 hS => ?_)
  have hE : s.heap = H1 := hB.symm.trans ht
  subst hE
  obtain rfl : r = 1 := hw
  refine lv_if_eq (tgt := 41) hx hb dX8_isSetting_19 (by decide) (fun c_19 => absurd c_19 (by decide +kernel)) (fun _ => ?_)
  refine lv_iload_n hx hb dX8_isSetting_22 rfl (lv_at hl 1 rfl) ?_
  refine lv_bipush (v := 8) hx hb dX8_isSetting_23 (by decide +kernel) ?_
  refine lv_ishr hx hb dX8_isSetting_25 ?_
  refine mz_ti (y := 0) (by decide +kernel) ?_
  refine lv_iload_n hx hb dX8_isSetting_26 rfl (lv_at hl 1 rfl) ?_
  refine lv_sipush (v := 255) hx hb dX8_isSetting_27 (by decide +kernel) ?_
  refine lv_iand hx hb dX8_isSetting_30 ?_
  refine mz_ti (y := 0) (by decide +kernel) ?_
  refine lv_iconst (v := (-1)) hx hb dX8_isSetting_31 (by decide +kernel) ?_
  refine lv_ixor hx hb dX8_isSetting_32 ?_
  refine mz_ti (y := (-1)) (by decide +kernel) ?_
  refine lv_iand hx hb dX8_isSetting_33 ?_
  refine mz_ti (y := 0) (by decide +kernel) ?_
  refine lv_if_ne (tgt := 41) hx hb dX8_isSetting_34 (by decide) (fun c_34 => absurd (by decide +kernel) c_34) (fun _ => ?_)
  refine lv_iconst (v := 1) hx hb dX8_isSetting_37 (by decide +kernel) ?_
  refine lv_goto (tgt := 42) hx hb dX8_isSetting_38 (by decide) ?_
  refine W.widen (k := 0) (n := 0) (Nat.le_of_ble_eq_true rfl) (Nat.le_of_ble_eq_true rfl) ?_
  exact W.zret (v := 1) hx hb hr (mz_nz (by decide +kernel)) (fun t ht hW => ⟨⟨1, (), rfl, rfl, ht⟩, hS.F ht⟩) hS.2.2 dX8_isSetting_42
set_option maxHeartbeats 1000000 in
set_option maxRecDepth 100000 in
theorem mz_M_isSetting_n (l : Launch) (dC : Nat → ClassId) (dI : Nat → Nat → Nat) (cI cJ cZ : ClassId) (mo : Nat) (m1 : Nat) (m2 : Nat) (m3 : Nat) (m6 : Nat) (m7 : Nat) (m8 : Nat) (m9 : Nat) (m10 : Nat) (m11 : Nat) (m12 : Nat) (m13 : Nat) (m14 : Nat) (m15 : Nat) (m16 : Nat) (la1 : Int64) (lb1 : Int64) (p0 : Int32) (Hq : Heap) (hne : ¬ p0 = 0) : Met l yX8_isSetting wsX8_isSetting ({ frames := 1, cells := 0, slots := 0, locals := 21 }) (va_Pc [.ref mo, .int p0] (fun U => U.heap = Hq ∧ va_P (dC, dI) vwCl [(mo, .inr (8, [.int 0, .ref m1, .ref m2, .ref m3, .long la1, .long lb1, .ref m6, .ref m7, .ref m8, .ref m9, .ref m10, .ref m11, .ref m12, .ref m13, .ref m14, .ref m15, .ref m16]))] Hq ∧ va_K (dC, dI) vwCl [(cI, FieldType.int), (cJ, FieldType.long), (cZ, FieldType.boolean)] U ∧ mz_N U)) (va_Qi (fun (r : Int32) (_ : Unit) => r = 0) (fun _ t => t.heap = Hq) (fun _ : Nat => False)) 0 0 (fun _ : Nat => False) := by
  refine Met.ofW (cc := cX8_isSetting) (maxL := 2) (ret := (some .boolean)) (by decide) rfl ?_
  intro p e s m args below meth c s₁ B hml hv
  obtain ⟨rfl, hH, hP, hK, hN⟩ := hv
  subst hH
  have hx := B.exec
  have hb := B.bytes
  have hr := B.returns
  have hts := atoms_spec (ws := wsX8_isSetting) B.pre
  have hown : s.vm.findClass RX8 = some m.cls := findClass_of_methodNamed B.named
  have hlocks := B.notSynchronized
  have hS : va_S (fun _ : Nat => False) s.heap s.heap [] := va_S.rf
  have hl := lv_entry ([.ref mo, .int p0]) (n := 2) (Nat.le_of_ble_eq_true rfl)
  rw [lg_entry_eq]
  generalize (lg_sl ([.ref mo, .int p0]) ++ List.replicate (2 - (lg_sl ([.ref mo, .int p0])).length) Slot.unset).toArray = ls at hl ⊢
  have hl : lv_has ls 2 [(0, .ref mo), (1, .int p0)] := hl
  refine lv_iload_n hx hb dX8_isSetting_0 rfl (lv_at hl 1 rfl) ?_
  refine lv_if_lt (tgt := 41) hx hb dX8_isSetting_1 (by decide) (fun c_1 => ?_) (fun c_1 => ?_)
  · skip
    refine lv_iconst (v := 0) hx hb dX8_isSetting_41 (by decide +kernel) ?_
    refine W.widen (k := 0) (n := 0) (Nat.le_of_ble_eq_true rfl) (Nat.le_of_ble_eq_true rfl) ?_
    exact W.zret (v := 0) hx hb hr (mz_nz (by decide +kernel)) (fun t ht hW => ⟨⟨0, (), rfl, rfl, ht⟩, hS.F ht⟩) hS.2.2 dX8_isSetting_42
  · skip
    refine lv_iload_n hx hb dX8_isSetting_4 rfl (lv_at hl 1 rfl) ?_
    refine lv_ldc hx hb hown (hts (.constant RX8 62 (65536)) (by decide +kernel)) dX8_isSetting_5 ?_
    refine lv_icmp_ge (tgt := 41) hx hb dX8_isSetting_7 (by decide) (fun c_7 => ?_) (fun c_7 => ?_)
    · skip
      refine lv_iconst (v := 0) hx hb dX8_isSetting_41 (by decide +kernel) ?_
      refine W.widen (k := 0) (n := 0) (Nat.le_of_ble_eq_true rfl) (Nat.le_of_ble_eq_true rfl) ?_
      exact W.zret (v := 0) hx hb hr (mz_nz (by decide +kernel)) (fun t ht hW => ⟨⟨0, (), rfl, rfl, ht⟩, hS.F ht⟩) hS.2.2 dX8_isSetting_42
    · skip
      refine lv_aload_n hx hb dX8_isSetting_10 rfl (lv_at hl 0 rfl) ?_
      refine lv_iload_n hx hb dX8_isSetting_11 rfl (lv_at hl 1 rfl) ?_
      refine lv_sipush (v := 255) hx hb dX8_isSetting_12 (by decide +kernel) ?_
      refine lv_iand hx hb dX8_isSetting_15 ?_
      by_cases hz_16 : (p0 &&& 255) = 0
      · refine mz_ti (y := 0) hz_16 ?_
        have hPc := hP.sub (ws' := [(mo, .inr (8, [.int 0, .ref m1, .ref m2, .ref m3, .long la1, .long lb1, .ref m6, .ref m7, .ref m8, .ref m9, .ref m10, .ref m11, .ref m12, .ref m13, .ref m14, .ref m15, .ref m16]))]) [0] rfl
        refine va_calli (va_runV (As := [.int 0]) (rest := []) ⟨hx, hb, hml, hown, hts⟩ (mz_M_isHeap_0 l dC dI cI cJ cZ mo m1 m2 m3 m6 m7 m8 m9 m10 m11 m12 m13 m14 m15 m16 la1 lb1 s.heap ) (cwV 1 hts gX8_isSetting_X8_isHeap rfl rfl rfl (by decide +kernel) ⟨Nat.le_of_ble_eq_true rfl, Nat.le_of_ble_eq_true rfl⟩) ⟨fun a U g mk q => mz_blP q, va_recv hK hPc (ci := 8) (q0 := 0) rfl rfl, fun U hU hW => ⟨rfl, hU, hPc, va_K.moved hW.alike hK, mz_nw hW hN⟩⟩ rfl rfl hl.1 rfl (lv_room (Nat.le_of_ble_eq_true rfl)) dX8_isSetting_16 ⟨Nat.le_of_ble_eq_true rfl, Nat.le_of_ble_eq_true rfl⟩) hS (fun q _ h => h.elim) (fun q h => h.elim) (fun r u t H1 locs ht hvm hw hB hz1 hk1 hS => ?_)
        have hE : s.heap = H1 := hB.symm.trans ht
        subst hE
        obtain rfl : r = 1 := hw
        refine lv_if_eq (tgt := 41) hx hb dX8_isSetting_19 (by decide) (fun c_19 => absurd c_19 (by decide +kernel)) (fun _ => ?_)
        refine lv_iload_n hx hb dX8_isSetting_22 rfl (lv_at hl 1 rfl) ?_
        refine lv_bipush (v := 8) hx hb dX8_isSetting_23 (by decide +kernel) ?_
        refine lv_ishr hx hb dX8_isSetting_25 ?_
        refine lv_iload_n hx hb dX8_isSetting_26 rfl (lv_at hl 1 rfl) ?_
        refine lv_sipush (v := 255) hx hb dX8_isSetting_27 (by decide +kernel) ?_
        refine lv_iand hx hb dX8_isSetting_30 ?_
        refine lv_iconst (v := (-1)) hx hb dX8_isSetting_31 (by decide +kernel) ?_
        refine lv_ixor hx hb dX8_isSetting_32 ?_
        refine lv_iand hx hb dX8_isSetting_33 ?_
        refine lv_if_ne (tgt := 41) hx hb dX8_isSetting_34 (by decide) (fun c_34 => ?_) (fun c_34 => ?_)
        · skip
          refine lv_iconst (v := 0) hx hb dX8_isSetting_41 (by decide +kernel) ?_
          refine W.widen (k := 0) (n := 0) (Nat.le_of_ble_eq_true rfl) (Nat.le_of_ble_eq_true rfl) ?_
          exact W.zret (v := 0) hx hb hr (mz_nz (by decide +kernel)) (fun t ht hW => ⟨⟨0, (), rfl, rfl, ht⟩, hS.F ht⟩) hS.2.2 dX8_isSetting_42
        · skip
          refine lv_iconst (v := 1) hx hb dX8_isSetting_37 (by decide +kernel) ?_
          refine lv_goto (tgt := 42) hx hb dX8_isSetting_38 (by decide) ?_
          refine W.widen (k := 0) (n := 0) (Nat.le_of_ble_eq_true rfl) (Nat.le_of_ble_eq_true rfl) ?_
          exact W.zret (v := 1) hx hb hr (mz_nz (by decide +kernel)) (fun t ht hW => ⟨⟨1, (), rfl, absurd (mz_setM c_1 c_7 hz_16 c_34) hne, ht⟩, hS.F ht⟩) hS.2.2 dX8_isSetting_42
      · skip
        have hPc := hP.sub (ws' := [(mo, .inr (8, [.int 0, .ref m1, .ref m2, .ref m3, .long la1, .long lb1, .ref m6, .ref m7, .ref m8, .ref m9, .ref m10, .ref m11, .ref m12, .ref m13, .ref m14, .ref m15, .ref m16]))]) [0] rfl
        refine va_calli (va_runV (As := [.int (p0 &&& 255)]) (rest := []) ⟨hx, hb, hml, hown, hts⟩ (mz_M_isHeap_n l dC dI cI cJ cZ mo m1 m2 m3 m6 m7 m8 m9 m10 m11 m12 m13 m14 m15 m16 la1 lb1 (p0 &&& 255) s.heap hz_16) (cwV 1 hts gX8_isSetting_X8_isHeap rfl rfl rfl (by decide +kernel) ⟨Nat.le_of_ble_eq_true rfl, Nat.le_of_ble_eq_true rfl⟩) ⟨fun a U g mk q => mz_blP q, va_recv hK hPc (ci := 8) (q0 := 0) rfl rfl, fun U hU hW => ⟨rfl, hU, hPc, va_K.moved hW.alike hK, mz_nw hW hN⟩⟩ rfl rfl hl.1 rfl (lv_room (Nat.le_of_ble_eq_true rfl)) dX8_isSetting_16 ⟨Nat.le_of_ble_eq_true rfl, Nat.le_of_ble_eq_true rfl⟩) hS (fun q _ h => h.elim) (fun q h => h.elim) (fun r u t H1 locs ht hvm hw hB hz1 hk1 hS => ?_)
        have hE : s.heap = H1 := hB.symm.trans ht
        subst hE
        obtain rfl : r = 0 := hw
        refine lv_if_eq (tgt := 41) hx hb dX8_isSetting_19 (by decide) (fun _ => ?_) (fun c_19 => absurd (by decide +kernel) c_19)
        refine lv_iconst (v := 0) hx hb dX8_isSetting_41 (by decide +kernel) ?_
        refine W.widen (k := 0) (n := 0) (Nat.le_of_ble_eq_true rfl) (Nat.le_of_ble_eq_true rfl) ?_
        exact W.zret (v := 0) hx hb hr (mz_nz (by decide +kernel)) (fun t ht hW => ⟨⟨0, (), rfl, rfl, ht⟩, hS.F ht⟩) hS.2.2 dX8_isSetting_42
set_option maxHeartbeats 1000000 in
set_option maxRecDepth 100000 in
theorem mz_M_has (l : Launch) (dC : Nat → ClassId) (dI : Nat → Nat → Nat) (cI cJ cZ : ClassId) (mo : Nat) (m1 : Nat) (m2 : Nat) (m3 : Nat) (m6 : Nat) (m7 : Nat) (m8 : Nat) (m9 : Nat) (m10 : Nat) (m11 : Nat) (m12 : Nat) (m13 : Nat) (m14 : Nat) (m15 : Nat) (m16 : Nat) (p0 : Int32) (p1 : Int32) (Hq : Heap)  : Met l yX8_has wsX8_has ({ frames := 1, cells := 0, slots := 0, locals := 21 }) (va_Pc [.ref mo, .int p0, .int p1] (fun U => U.heap = Hq ∧ va_P (dC, dI) vwCl [(mo, .inr (8, [.int 0, .ref m1, .ref m2, .ref m3, .long 0, .long 1, .ref m6, .ref m7, .ref m8, .ref m9, .ref m10, .ref m11, .ref m12, .ref m13, .ref m14, .ref m15, .ref m16]))] Hq ∧ va_K (dC, dI) vwCl [(cI, FieldType.int), (cJ, FieldType.long), (cZ, FieldType.boolean)] U ∧ mz_N U)) (va_Qi (fun (r : Int32) (_ : Unit) => r = 0) (fun _ t => t.heap = Hq) (fun _ : Nat => False)) 0 0 (fun _ : Nat => False) := by
  refine Met.ofW (cc := cX8_has) (maxL := 3) (ret := (some .boolean)) (by decide) rfl ?_
  intro p e s m args below meth c s₁ B hml hv
  obtain ⟨rfl, hH, hP, hK, hN⟩ := hv
  subst hH
  have hx := B.exec
  have hb := B.bytes
  have hr := B.returns
  have hts := atoms_spec (ws := wsX8_has) B.pre
  have hown : s.vm.findClass RX8 = some m.cls := findClass_of_methodNamed B.named
  have hlocks := B.notSynchronized
  have hS : va_S (fun _ : Nat => False) s.heap s.heap [] := va_S.rf
  have hl := lv_entry ([.ref mo, .int p0, .int p1]) (n := 3) (Nat.le_of_ble_eq_true rfl)
  rw [lg_entry_eq]
  generalize (lg_sl ([.ref mo, .int p0, .int p1]) ++ List.replicate (3 - (lg_sl ([.ref mo, .int p0, .int p1])).length) Slot.unset).toArray = ls at hl ⊢
  have hl : lv_has ls 3 [(0, .ref mo), (1, .int p0), (2, .int p1)] := hl
  refine lv_aload_n hx hb dX8_has_0 rfl (lv_at hl 0 rfl) ?_
  refine lv_iload_n hx hb dX8_has_1 rfl (lv_at hl 1 rfl) ?_
  have hPc := hP.sub (ws' := [(mo, .inr (8, [.int 0, .ref m1, .ref m2, .ref m3, .long 0, .long 1, .ref m6, .ref m7, .ref m8, .ref m9, .ref m10, .ref m11, .ref m12, .ref m13, .ref m14, .ref m15, .ref m16]))]) [0] rfl
  refine va_calli (va_runV (As := [.int p0]) (rest := []) ⟨hx, hb, hml, hown, hts⟩ (mz_M_isThing l dC dI cI cJ cZ mo m1 m2 m3 m6 m7 m8 m9 m10 m11 m12 m13 m14 m15 m16 p0 s.heap ) (cwV 1 hts gX8_has_X8_isThing rfl rfl rfl (by decide +kernel) ⟨Nat.le_of_ble_eq_true rfl, Nat.le_of_ble_eq_true rfl⟩) ⟨fun a U g mk q => mz_blP q, va_recv hK hPc (ci := 8) (q0 := 0) rfl rfl, fun U hU hW => ⟨rfl, hU, hPc, va_K.moved hW.alike hK, mz_nw hW hN⟩⟩ rfl rfl hl.1 rfl (lv_room (Nat.le_of_ble_eq_true rfl)) dX8_has_2 ⟨Nat.le_of_ble_eq_true rfl, Nat.le_of_ble_eq_true rfl⟩) hS (fun q _ h => h.elim) (fun q h => h.elim) (fun r u t H1 locs ht hvm hw hB hz1 hk1 hS => ?_)
  have hE : s.heap = H1 := hB.symm.trans ht
  subst hE
  obtain rfl : r = 0 := hw
  refine lv_if_eq (tgt := 34) hx hb dX8_has_5 (by decide) (fun _ => ?_) (fun c_5 => absurd (by decide +kernel) c_5)
  refine lv_iconst (v := 0) hx hb dX8_has_34 (by decide +kernel) ?_
  refine W.widen (k := 0) (n := 0) (Nat.le_of_ble_eq_true rfl) (Nat.le_of_ble_eq_true rfl) ?_
  exact W.zret (v := 0) hx hb hr (mz_nz (by decide +kernel)) (fun t ht hW => ⟨⟨0, (), rfl, rfl, ht⟩, hS.F ht⟩) hS.2.2 dX8_has_35
set_option maxHeartbeats 1000000 in
set_option maxRecDepth 100000 in
theorem mz_M_isRow (l : Launch) (dC : Nat → ClassId) (dI : Nat → Nat → Nat) (cI cJ cZ : ClassId) (mo : Nat) (m1 : Nat) (m2 : Nat) (m3 : Nat) (m6 : Nat) (m7 : Nat) (m8 : Nat) (m9 : Nat) (m10 : Nat) (m11 : Nat) (m12 : Nat) (m13 : Nat) (m14 : Nat) (m15 : Nat) (m16 : Nat) (p0 : Int32) (p1 : Int32) (Hq : Heap)  : Met l yX8_isRow wsX8_isRow ({ frames := 1, cells := 0, slots := 0, locals := 21 }) (va_Pc [.ref mo, .int p0, .int p1] (fun U => U.heap = Hq ∧ va_P (dC, dI) vwCl [(mo, .inr (8, [.int 0, .ref m1, .ref m2, .ref m3, .long 0, .long 1, .ref m6, .ref m7, .ref m8, .ref m9, .ref m10, .ref m11, .ref m12, .ref m13, .ref m14, .ref m15, .ref m16]))] Hq ∧ va_K (dC, dI) vwCl [(cI, FieldType.int), (cJ, FieldType.long), (cZ, FieldType.boolean)] U ∧ mz_N U)) (va_Qi (fun (r : Int32) (_ : Unit) => r = 0) (fun _ t => t.heap = Hq) (fun _ : Nat => False)) 0 0 (fun _ : Nat => False) := by
  refine Met.ofW (cc := cX8_isRow) (maxL := 3) (ret := (some .boolean)) (by decide) rfl ?_
  intro p e s m args below meth c s₁ B hml hv
  obtain ⟨rfl, hH, hP, hK, hN⟩ := hv
  subst hH
  have hx := B.exec
  have hb := B.bytes
  have hr := B.returns
  have hts := atoms_spec (ws := wsX8_isRow) B.pre
  have hown : s.vm.findClass RX8 = some m.cls := findClass_of_methodNamed B.named
  have hlocks := B.notSynchronized
  have hS : va_S (fun _ : Nat => False) s.heap s.heap [] := va_S.rf
  have hl := lv_entry ([.ref mo, .int p0, .int p1]) (n := 3) (Nat.le_of_ble_eq_true rfl)
  rw [lg_entry_eq]
  generalize (lg_sl ([.ref mo, .int p0, .int p1]) ++ List.replicate (3 - (lg_sl ([.ref mo, .int p0, .int p1])).length) Slot.unset).toArray = ls at hl ⊢
  have hl : lv_has ls 3 [(0, .ref mo), (1, .int p0), (2, .int p1)] := hl
  refine lv_aload_n hx hb dX8_isRow_0 rfl (lv_at hl 0 rfl) ?_
  refine lv_iload_n hx hb dX8_isRow_1 rfl (lv_at hl 1 rfl) ?_
  have hPc := hP.sub (ws' := [(mo, .inr (8, [.int 0, .ref m1, .ref m2, .ref m3, .long 0, .long 1, .ref m6, .ref m7, .ref m8, .ref m9, .ref m10, .ref m11, .ref m12, .ref m13, .ref m14, .ref m15, .ref m16]))]) [0] rfl
  refine va_calli (va_runV (As := [.int p0]) (rest := []) ⟨hx, hb, hml, hown, hts⟩ (mz_M_isThing l dC dI cI cJ cZ mo m1 m2 m3 m6 m7 m8 m9 m10 m11 m12 m13 m14 m15 m16 p0 s.heap ) (cwV 1 hts gX8_isRow_X8_isThing rfl rfl rfl (by decide +kernel) ⟨Nat.le_of_ble_eq_true rfl, Nat.le_of_ble_eq_true rfl⟩) ⟨fun a U g mk q => mz_blP q, va_recv hK hPc (ci := 8) (q0 := 0) rfl rfl, fun U hU hW => ⟨rfl, hU, hPc, va_K.moved hW.alike hK, mz_nw hW hN⟩⟩ rfl rfl hl.1 rfl (lv_room (Nat.le_of_ble_eq_true rfl)) dX8_isRow_2 ⟨Nat.le_of_ble_eq_true rfl, Nat.le_of_ble_eq_true rfl⟩) hS (fun q _ h => h.elim) (fun q h => h.elim) (fun r u t H1 locs ht hvm hw hB hz1 hk1 hS => ?_)
  have hE : s.heap = H1 := hB.symm.trans ht
  subst hE
  obtain rfl : r = 0 := hw
  refine lv_if_eq (tgt := 31) hx hb dX8_isRow_5 (by decide) (fun _ => ?_) (fun c_5 => absurd (by decide +kernel) c_5)
  refine lv_iconst (v := 0) hx hb dX8_isRow_31 (by decide +kernel) ?_
  refine W.widen (k := 0) (n := 0) (Nat.le_of_ble_eq_true rfl) (Nat.le_of_ble_eq_true rfl) ?_
  exact W.zret (v := 0) hx hb hr (mz_nz (by decide +kernel)) (fun t ht hW => ⟨⟨0, (), rfl, rfl, ht⟩, hS.F ht⟩) hS.2.2 dX8_isRow_32
set_option maxHeartbeats 1000000 in
set_option maxRecDepth 100000 in
theorem mz_M_weightOf0 (l : Launch) (dC : Nat → ClassId) (dI : Nat → Nat → Nat) (cI cJ cZ : ClassId) (mo : Nat) (m1 : Nat) (m2 : Nat) (m3 : Nat) (m6 : Nat) (m7 : Nat) (m8 : Nat) (m9 : Nat) (m10 : Nat) (m11 : Nat) (m12 : Nat) (m13 : Nat) (m14 : Nat) (m15 : Nat) (m16 : Nat) (la1 : Int64) (lb1 : Int64) (Hq : Heap)  : Met l yX8_weightOf wsX8_weightOf ({ frames := 0, cells := 0, slots := 0, locals := 0 }) (va_Pc [.ref mo, .int 0, .int 0] (fun U => U.heap = Hq ∧ va_P (dC, dI) vwCl [(mo, .inr (8, [.int 0, .ref m1, .ref m2, .ref m3, .long la1, .long lb1, .ref m6, .ref m7, .ref m8, .ref m9, .ref m10, .ref m11, .ref m12, .ref m13, .ref m14, .ref m15, .ref m16]))] Hq ∧ va_K (dC, dI) vwCl [(cI, FieldType.int), (cJ, FieldType.long), (cZ, FieldType.boolean)] U ∧ mz_N U)) (va_Ql (fun (r : Int64) (_ : Unit) => r = 1) (fun _ t => t.heap = Hq) (fun _ : Nat => False)) 0 0 (fun _ : Nat => False) := by
  refine Met.ofW (cc := cX8_weightOf) (maxL := 7) (ret := (some .long)) (by decide) rfl ?_
  intro p e s m args below meth c s₁ B hml hv
  obtain ⟨rfl, hH, hP, hK, hN⟩ := hv
  subst hH
  have hx := B.exec
  have hb := B.bytes
  have hr := B.returns
  have hts := atoms_spec (ws := wsX8_weightOf) B.pre
  have hown : s.vm.findClass RX8 = some m.cls := findClass_of_methodNamed B.named
  have hlocks := B.notSynchronized
  have hS : va_S (fun _ : Nat => False) s.heap s.heap [] := va_S.rf
  have hiX8 : ∀ w ∈ u_ws RX8 TX8 17, w ∈ wsX8_weightOf := by decide +kernel
  have hl := lv_entry ([.ref mo, .int 0, .int 0]) (n := 7) (Nat.le_of_ble_eq_true rfl)
  rw [lg_entry_eq]
  generalize (lg_sl ([.ref mo, .int 0, .int 0]) ++ List.replicate (7 - (lg_sl ([.ref mo, .int 0, .int 0])).length) Slot.unset).toArray = ls at hl ⊢
  have hl : lv_has ls 7 [(0, .ref mo), (1, .int 0), (2, .int 0)] := hl
  refine lv_iload_n hx hb dX8_weightOf_0 rfl (lv_at hl 1 rfl) ?_
  refine lv_iload_n hx hb dX8_weightOf_1 rfl (lv_at hl 2 rfl) ?_
  refine lv_bipush (v := 8) hx hb dX8_weightOf_2 (by decide +kernel) ?_
  refine lv_ishr hx hb dX8_weightOf_4 ?_
  refine mz_ti (y := 0) (by decide +kernel) ?_
  refine lv_ixor hx hb dX8_weightOf_5 ?_
  refine mz_ti (y := 0) (by decide +kernel) ?_
  refine lv_iload_n hx hb dX8_weightOf_6 rfl (lv_at hl 2 rfl) ?_
  refine lv_iand hx hb dX8_weightOf_7 ?_
  refine mz_ti (y := 0) (by decide +kernel) ?_
  refine lv_sipush (v := 255) hx hb dX8_weightOf_8 (by decide +kernel) ?_
  refine lv_iand hx hb dX8_weightOf_11 ?_
  refine mz_ti (y := 0) (by decide +kernel) ?_
  refine lv_if_eq (tgt := 17) hx hb dX8_weightOf_12 (by decide) (fun _ => ?_) (fun c_12 => absurd (by decide +kernel) c_12)
  refine lv_lconst (v := 1) hx hb dX8_weightOf_17 (by decide +kernel) ?_
  refine lv_lstore_n (lv' := [(3, .long 1), (0, .ref mo), (1, .int 0), (2, .int 0)]) hx hb dX8_weightOf_18 rfl hl (by decide) rfl (fun ls hl => ?_)
  refine lv_iconst (v := 0) hx hb dX8_weightOf_19 (by decide +kernel) ?_
  refine lv_istore (lv' := [(5, .int 0), (3, .long 1), (0, .ref mo), (1, .int 0), (2, .int 0)]) hx hb dX8_weightOf_20 hl (by decide) rfl (fun ls hl => ?_)
  refine lv_iload hx hb dX8_weightOf_22 (lv_at hl 0 rfl) ?_
  refine lv_aload_n hx hb dX8_weightOf_24 rfl (lv_at hl 2 rfl) ?_
  refine va_get (D := (dC, dI)) (ci := 8) (v := .int 0) (C := RX8) (T := TX8) (N := 17) hx hb hts hiX8 hown hK hP 0 rfl rfl 0 (by decide) (hts (.fieldLink RX8 58 "MadeItSoModel" "many" "I") (by decide +kernel)) (fun _ h9 => h9) rfl dX8_weightOf_25 ?_
  refine lv_icmp_ge (tgt := 87) hx hb dX8_weightOf_28 (by decide) (fun _ => ?_) (fun c_28 => absurd (by decide +kernel) c_28)
  refine lv_lload_n hx hb dX8_weightOf_87 rfl (lv_at hl 1 rfl) ?_
  refine W.widen (k := 0) (n := 0) (Nat.le_of_ble_eq_true rfl) (Nat.le_of_ble_eq_true rfl) ?_
  exact W.lret (v := 1) hx hb hr (fun t ht hW => ⟨⟨1, (), rfl, rfl, ht⟩, hS.F ht⟩) hS.2.2 dX8_weightOf_88
set_option maxHeartbeats 1000000 in
set_option maxRecDepth 100000 in
theorem mz_M_sum0 (l : Launch) (dC : Nat → ClassId) (dI : Nat → Nat → Nat) (cI cJ cZ : ClassId) (mo : Nat) (m1 : Nat) (m2 : Nat) (m3 : Nat) (m6 : Nat) (m7 : Nat) (m8 : Nat) (m9 : Nat) (m10 : Nat) (m11 : Nat) (m12 : Nat) (m13 : Nat) (m14 : Nat) (m15 : Nat) (m16 : Nat) (la1 : Int64) (lb1 : Int64) (Hq : Heap)  : Met l yX8_sum wsX8_sum ({ frames := 1, cells := 0, slots := 0, locals := 26 }) (va_Pc [.ref mo, .int 0, .int 0] (fun U => U.heap = Hq ∧ va_P (dC, dI) vwCl [(mo, .inr (8, [.int 0, .ref m1, .ref m2, .ref m3, .long la1, .long lb1, .ref m6, .ref m7, .ref m8, .ref m9, .ref m10, .ref m11, .ref m12, .ref m13, .ref m14, .ref m15, .ref m16]))] Hq ∧ va_K (dC, dI) vwCl [(cI, FieldType.int), (cJ, FieldType.long), (cZ, FieldType.boolean)] U ∧ mz_N U)) (va_Ql (fun (r : Int64) (_ : Unit) => r = 1) (fun _ t => t.heap = Hq) (fun _ : Nat => False)) 0 0 (fun _ : Nat => False) := by
  refine Met.ofW (cc := cX8_sum) (maxL := 6) (ret := (some .long)) (by decide) rfl ?_
  intro p e s m args below meth c s₁ B hml hv
  obtain ⟨rfl, hH, hP, hK, hN⟩ := hv
  subst hH
  have hx := B.exec
  have hb := B.bytes
  have hr := B.returns
  have hts := atoms_spec (ws := wsX8_sum) B.pre
  have hown : s.vm.findClass RX8 = some m.cls := findClass_of_methodNamed B.named
  have hlocks := B.notSynchronized
  have hS : va_S (fun _ : Nat => False) s.heap s.heap [] := va_S.rf
  have hiX8 : ∀ w ∈ u_ws RX8 TX8 17, w ∈ wsX8_sum := by decide +kernel
  have hl := lv_entry ([.ref mo, .int 0, .int 0]) (n := 6) (Nat.le_of_ble_eq_true rfl)
  rw [lg_entry_eq]
  generalize (lg_sl ([.ref mo, .int 0, .int 0]) ++ List.replicate (6 - (lg_sl ([.ref mo, .int 0, .int 0])).length) Slot.unset).toArray = ls at hl ⊢
  have hl : lv_has ls 6 [(0, .ref mo), (1, .int 0), (2, .int 0)] := hl
  refine lv_lconst (v := 0) hx hb dX8_sum_0 (by decide +kernel) ?_
  refine lv_lstore_n (lv' := [(3, .long 0), (0, .ref mo), (1, .int 0), (2, .int 0)]) hx hb dX8_sum_1 rfl hl (by decide) rfl (fun ls hl => ?_)
  refine lv_iconst (v := 0) hx hb dX8_sum_2 (by decide +kernel) ?_
  refine lv_istore (lv' := [(5, .int 0), (3, .long 0), (0, .ref mo), (1, .int 0), (2, .int 0)]) hx hb dX8_sum_3 hl (by decide) rfl (fun ls hl => ?_)
  refine lv_iload hx hb dX8_sum_5 (lv_at hl 0 rfl) ?_
  refine lv_iconst (v := 1) hx hb dX8_sum_7 (by decide +kernel) ?_
  refine lv_aload_n hx hb dX8_sum_8 rfl (lv_at hl 2 rfl) ?_
  refine va_get (D := (dC, dI)) (ci := 8) (v := .int 0) (C := RX8) (T := TX8) (N := 17) hx hb hts hiX8 hown hK hP 0 rfl rfl 0 (by decide) (hts (.fieldLink RX8 58 "MadeItSoModel" "many" "I") (by decide +kernel)) (fun _ h9 => h9) rfl dX8_sum_9 ?_
  refine lv_ishl hx hb dX8_sum_12 ?_
  refine mz_ti (y := 1) (by decide +kernel) ?_
  refine lv_icmp_ge (tgt := 48) hx hb dX8_sum_13 (by decide) (fun c_13 => absurd c_13 (by decide +kernel)) (fun _ => ?_)
  refine lv_iload hx hb dX8_sum_16 (lv_at hl 0 rfl) ?_
  refine lv_iload_n hx hb dX8_sum_18 rfl (lv_at hl 3 rfl) ?_
  refine lv_bipush (v := 8) hx hb dX8_sum_19 (by decide +kernel) ?_
  refine lv_ishr hx hb dX8_sum_21 ?_
  refine mz_ti (y := 0) (by decide +kernel) ?_
  refine lv_ixor hx hb dX8_sum_22 ?_
  refine mz_ti (y := 0) (by decide +kernel) ?_
  refine lv_iload_n hx hb dX8_sum_23 rfl (lv_at hl 3 rfl) ?_
  refine lv_iand hx hb dX8_sum_24 ?_
  refine mz_ti (y := 0) (by decide +kernel) ?_
  refine lv_sipush (v := 255) hx hb dX8_sum_25 (by decide +kernel) ?_
  refine lv_iand hx hb dX8_sum_28 ?_
  refine mz_ti (y := 0) (by decide +kernel) ?_
  refine lv_if_ne (tgt := 42) hx hb dX8_sum_29 (by decide) (fun c_29 => absurd (by decide +kernel) c_29) (fun _ => ?_)
  refine lv_lload_n hx hb dX8_sum_32 rfl (lv_at hl 1 rfl) ?_
  refine lv_aload_n hx hb dX8_sum_33 rfl (lv_at hl 2 rfl) ?_
  refine lv_iload hx hb dX8_sum_34 (lv_at hl 0 rfl) ?_
  refine lv_iload_n hx hb dX8_sum_36 rfl (lv_at hl 4 rfl) ?_
  have hPc := hP.sub (ws' := [(mo, .inr (8, [.int 0, .ref m1, .ref m2, .ref m3, .long la1, .long lb1, .ref m6, .ref m7, .ref m8, .ref m9, .ref m10, .ref m11, .ref m12, .ref m13, .ref m14, .ref m15, .ref m16]))]) [0] rfl
  refine va_calll (va_runV (As := [.int 0, .int 0]) (rest := [.long 0]) ⟨hx, hb, hml, hown, hts⟩ (mz_M_weightOf0 l dC dI cI cJ cZ mo m1 m2 m3 m6 m7 m8 m9 m10 m11 m12 m13 m14 m15 m16 la1 lb1 s.heap ) (cwV 2 hts gX8_sum_X8_weightOf rfl rfl rfl (by decide +kernel) ⟨Nat.le_of_ble_eq_true rfl, Nat.le_of_ble_eq_true rfl⟩) ⟨fun a U g mk q => mz_blP q, va_recv hK hPc (ci := 8) (q0 := 0) rfl rfl, fun U hU hW => ⟨rfl, hU, hPc, va_K.moved hW.alike hK, mz_nw hW hN⟩⟩ rfl rfl hl.1 rfl (lv_room (Nat.le_of_ble_eq_true rfl)) dX8_sum_37 ⟨Nat.le_of_ble_eq_true rfl, Nat.le_of_ble_eq_true rfl⟩) hS (fun q _ h => h.elim) (fun q h => h.elim) (fun r u t H1 locs ht hvm hw hB hz1 hk1 hS => ?_)
  have hE : s.heap = H1 := hB.symm.trans ht
  subst hE
  obtain rfl : r = 1 := hw
  refine lv_ladd hx hb dX8_sum_40 ?_
  refine mz_tl (y := 1) (by decide +kernel) ?_
  refine lv_lstore_n (lv' := [(3, .long 1), (5, .int 0), (0, .ref mo), (1, .int 0), (2, .int 0)]) hx hb dX8_sum_41 rfl hl (by decide) rfl (fun ls hl => ?_)
  refine lv_iinc (v := 1) (lv' := [(5, .int 1), (3, .long 1), (0, .ref mo), (1, .int 0), (2, .int 0)]) hx hb dX8_sum_42 hl (k := 1) rfl (by decide +kernel) (by decide) rfl (fun ls hl => ?_)
  refine lv_goto (tgt := 5) hx hb dX8_sum_45 (by decide) ?_
  refine lv_iload hx hb dX8_sum_5 (lv_at hl 0 rfl) ?_
  refine lv_iconst (v := 1) hx hb dX8_sum_7 (by decide +kernel) ?_
  refine lv_aload_n hx hb dX8_sum_8 rfl (lv_at hl 2 rfl) ?_
  refine va_get (D := (dC, dI)) (ci := 8) (v := .int 0) (C := RX8) (T := TX8) (N := 17) hx hb hts hiX8 hown hK hP 0 rfl rfl 0 (by decide) (hts (.fieldLink RX8 58 "MadeItSoModel" "many" "I") (by decide +kernel)) (fun _ h9 => h9) rfl dX8_sum_9 ?_
  refine lv_ishl hx hb dX8_sum_12 ?_
  refine mz_ti (y := 1) (by decide +kernel) ?_
  refine lv_icmp_ge (tgt := 48) hx hb dX8_sum_13 (by decide) (fun _ => ?_) (fun c_13 => absurd (by decide +kernel) c_13)
  refine lv_lload_n hx hb dX8_sum_48 rfl (lv_at hl 1 rfl) ?_
  refine W.widen (k := 0) (n := 0) (Nat.le_of_ble_eq_true rfl) (Nat.le_of_ble_eq_true rfl) ?_
  exact W.lret (v := 1) hx hb hr (fun t ht hW => ⟨⟨1, (), rfl, rfl, ht⟩, hS.F ht⟩) hS.2.2 dX8_sum_49
set_option maxHeartbeats 1000000 in
set_option maxRecDepth 100000 in
theorem mz_M_shared1 (l : Launch) (dC : Nat → ClassId) (dI : Nat → Nat → Nat) (cI cJ cZ : ClassId)  (Hq : Heap)  : Met l yX8_shared wsX8_shared ({ frames := 0, cells := 0, slots := 0, locals := 0 }) (va_Pc [.long 1, .long 1] (fun U => U.heap = Hq ∧ va_P (dC, dI) vwCl [] Hq ∧ va_K (dC, dI) vwCl [(cI, FieldType.int), (cJ, FieldType.long), (cZ, FieldType.boolean)] U ∧ mz_N U)) (va_Ql (fun (r : Int64) (_ : Unit) => r = 1) (fun _ t => t.heap = Hq) (fun _ : Nat => False)) 0 0 (fun _ : Nat => False) := by
  refine Met.ofW (cc := cX8_shared) (maxL := 10) (ret := (some .long)) (by decide) rfl ?_
  intro p e s m args below meth c s₁ B hml hv
  obtain ⟨rfl, hH, hP, hK, hN⟩ := hv
  subst hH
  have hx := B.exec
  have hb := B.bytes
  have hr := B.returns
  have hts := atoms_spec (ws := wsX8_shared) B.pre
  have hown : s.vm.findClass RX8 = some m.cls := findClass_of_methodNamed B.named
  have hlocks := B.notSynchronized
  have hS : va_S (fun _ : Nat => False) s.heap s.heap [] := va_S.rf
  have hl := lv_entry ([.long 1, .long 1]) (n := 10) (Nat.le_of_ble_eq_true rfl)
  rw [lg_entry_eq]
  generalize (lg_sl ([.long 1, .long 1]) ++ List.replicate (10 - (lg_sl ([.long 1, .long 1])).length) Slot.unset).toArray = ls at hl ⊢
  have hl : lv_has ls 10 [(0, .long 1), (2, .long 1)] := hl
  refine lv_lload_n hx hb dX8_shared_0 rfl (lv_at hl 0 rfl) ?_
  refine lv_lstore (lv' := [(4, .long 1), (0, .long 1), (2, .long 1)]) hx hb dX8_shared_1 hl (by decide) rfl (fun ls hl => ?_)
  refine lv_lload_n hx hb dX8_shared_3 rfl (lv_at hl 2 rfl) ?_
  refine lv_lstore (lv' := [(6, .long 1), (4, .long 1), (0, .long 1), (2, .long 1)]) hx hb dX8_shared_4 hl (by decide) rfl (fun ls hl => ?_)
  refine lv_lload hx hb dX8_shared_6 (lv_at hl 0 rfl) ?_
  refine lv_lconst (v := 0) hx hb dX8_shared_8 (by decide +kernel) ?_
  refine W.lcmp hx hb dX8_shared_9 ?_
  refine mz_ti (y := 1) (by decide +kernel) ?_
  refine lv_if_eq (tgt := 31) hx hb dX8_shared_10 (by decide) (fun c_10 => absurd c_10 (by decide +kernel)) (fun _ => ?_)
  refine lv_lload hx hb dX8_shared_13 (lv_at hl 1 rfl) ?_
  refine lv_lload hx hb dX8_shared_15 (lv_at hl 0 rfl) ?_
  refine lv_lrem hx hb dX8_shared_17 (by decide +kernel) ?_
  refine mz_tl (y := 0) (by decide +kernel) ?_
  refine lv_lstore (lv' := [(8, .long 0), (6, .long 1), (4, .long 1), (0, .long 1), (2, .long 1)]) hx hb dX8_shared_18 hl (by decide) rfl (fun ls hl => ?_)
  refine lv_lload hx hb dX8_shared_20 (lv_at hl 1 rfl) ?_
  refine lv_lstore (lv' := [(4, .long 1), (8, .long 0), (6, .long 1), (0, .long 1), (2, .long 1)]) hx hb dX8_shared_22 hl (by decide) rfl (fun ls hl => ?_)
  refine lv_lload hx hb dX8_shared_24 (lv_at hl 1 rfl) ?_
  refine lv_lstore (lv' := [(6, .long 0), (4, .long 1), (8, .long 0), (0, .long 1), (2, .long 1)]) hx hb dX8_shared_26 hl (by decide) rfl (fun ls hl => ?_)
  refine lv_goto (tgt := 6) hx hb dX8_shared_28 (by decide) ?_
  refine lv_lload hx hb dX8_shared_6 (lv_at hl 0 rfl) ?_
  refine lv_lconst (v := 0) hx hb dX8_shared_8 (by decide +kernel) ?_
  refine W.lcmp hx hb dX8_shared_9 ?_
  refine mz_ti (y := 0) (by decide +kernel) ?_
  refine lv_if_eq (tgt := 31) hx hb dX8_shared_10 (by decide) (fun _ => ?_) (fun c_10 => absurd (by decide +kernel) c_10)
  refine lv_lload hx hb dX8_shared_31 (lv_at hl 1 rfl) ?_
  refine W.widen (k := 0) (n := 0) (Nat.le_of_ble_eq_true rfl) (Nat.le_of_ble_eq_true rfl) ?_
  exact W.lret (v := 1) hx hb hr (fun t ht hW => ⟨⟨1, (), rfl, rfl, ht⟩, hS.F ht⟩) hS.2.2 dX8_shared_33
set_option maxHeartbeats 1000000 in
set_option maxRecDepth 100000 in
theorem mz_M_barred0 (l : Launch) (dC : Nat → ClassId) (dI : Nat → Nat → Nat) (cI cJ cZ : ClassId) (mo : Nat) (m1 : Nat) (m2 : Nat) (m3 : Nat) (m6 : Nat) (m7 : Nat) (m8 : Nat) (m9 : Nat) (m10 : Nat) (m11 : Nat) (m12 : Nat) (m13 : Nat) (m14 : Nat) (m15 : Nat) (m16 : Nat) (Hq : Heap)  : Met l yX8_barred wsX8_barred ({ frames := 0, cells := 0, slots := 0, locals := 0 }) (va_Pc [.ref mo, .int 0, .int 0, .int 0, .int 0, .int 0] (fun U => U.heap = Hq ∧ va_P (dC, dI) vwCl [(mo, .inr (8, [.int 0, .ref m1, .ref m2, .ref m3, .long 0, .long 1, .ref m6, .ref m7, .ref m8, .ref m9, .ref m10, .ref m11, .ref m12, .ref m13, .ref m14, .ref m15, .ref m16]))] Hq ∧ va_K (dC, dI) vwCl [(cI, FieldType.int), (cJ, FieldType.long), (cZ, FieldType.boolean)] U ∧ mz_N U)) (va_Qi (fun (r : Int32) (_ : Unit) => r = 1) (fun _ t => t.heap = Hq) (fun _ : Nat => False)) 0 0 (fun _ : Nat => False) := by
  refine Met.ofW (cc := cX8_barred) (maxL := 8) (ret := (some .boolean)) (by decide) rfl ?_
  intro p e s m args below meth c s₁ B hml hv
  obtain ⟨rfl, hH, hP, hK, hN⟩ := hv
  subst hH
  have hx := B.exec
  have hb := B.bytes
  have hr := B.returns
  have hts := atoms_spec (ws := wsX8_barred) B.pre
  have hown : s.vm.findClass RX8 = some m.cls := findClass_of_methodNamed B.named
  have hlocks := B.notSynchronized
  have hS : va_S (fun _ : Nat => False) s.heap s.heap [] := va_S.rf
  have hiX8 : ∀ w ∈ u_ws RX8 TX8 17, w ∈ wsX8_barred := by decide +kernel
  have hl := lv_entry ([.ref mo, .int 0, .int 0, .int 0, .int 0, .int 0]) (n := 8) (Nat.le_of_ble_eq_true rfl)
  rw [lg_entry_eq]
  generalize (lg_sl ([.ref mo, .int 0, .int 0, .int 0, .int 0, .int 0]) ++ List.replicate (8 - (lg_sl ([.ref mo, .int 0, .int 0, .int 0, .int 0, .int 0])).length) Slot.unset).toArray = ls at hl ⊢
  have hl : lv_has ls 8 [(0, .ref mo), (1, .int 0), (2, .int 0), (3, .int 0), (4, .int 0), (5, .int 0)] := hl
  refine lv_iconst (v := 0) hx hb dX8_barred_0 (by decide +kernel) ?_
  refine lv_istore (lv' := [(6, .int 0), (0, .ref mo), (1, .int 0), (2, .int 0), (3, .int 0), (4, .int 0), (5, .int 0)]) hx hb dX8_barred_1 hl (by decide) rfl (fun ls hl => ?_)
  refine lv_iload hx hb dX8_barred_3 (lv_at hl 0 rfl) ?_
  refine lv_aload_n hx hb dX8_barred_5 rfl (lv_at hl 1 rfl) ?_
  refine va_get (D := (dC, dI)) (ci := 8) (v := .int 0) (C := RX8) (T := TX8) (N := 17) hx hb hts hiX8 hown hK hP 0 rfl rfl 0 (by decide) (hts (.fieldLink RX8 58 "MadeItSoModel" "many" "I") (by decide +kernel)) (fun _ h9 => h9) rfl dX8_barred_6 ?_
  refine lv_icmp_ge (tgt := 74) hx hb dX8_barred_9 (by decide) (fun _ => ?_) (fun c_9 => absurd (by decide +kernel) c_9)
  refine lv_iconst (v := 1) hx hb dX8_barred_74 (by decide +kernel) ?_
  refine W.widen (k := 0) (n := 0) (Nat.le_of_ble_eq_true rfl) (Nat.le_of_ble_eq_true rfl) ?_
  exact W.zret (v := 1) hx hb hr (mz_nz (by decide +kernel)) (fun t ht hW => ⟨⟨1, (), rfl, rfl, ht⟩, hS.F ht⟩) hS.2.2 dX8_barred_75
set_option maxHeartbeats 1000000 in
set_option maxRecDepth 100000 in
theorem mz_M_seen (l : Launch) (dC : Nat → ClassId) (dI : Nat → Nat → Nat) (cI cJ cZ : ClassId) (mo : Nat) (m1 : Nat) (m2 : Nat) (m3 : Nat) (m6 : Nat) (m7 : Nat) (m8 : Nat) (m9 : Nat) (m10 : Nat) (m11 : Nat) (m12 : Nat) (m13 : Nat) (m14 : Nat) (m15 : Nat) (m16 : Nat) (Hq : Heap)  : Met l yX8_seen wsX8_seen ({ frames := 0, cells := 0, slots := 0, locals := 0 }) (va_Pc [.ref mo] (fun U => U.heap = Hq ∧ va_P (dC, dI) vwCl [(mo, .inr (8, [.int 0, .ref m1, .ref m2, .ref m3, .long 0, .long 1, .ref m6, .ref m7, .ref m8, .ref m9, .ref m10, .ref m11, .ref m12, .ref m13, .ref m14, .ref m15, .ref m16]))] Hq ∧ va_K (dC, dI) vwCl [(cI, FieldType.int), (cJ, FieldType.long), (cZ, FieldType.boolean)] U ∧ mz_N U)) (va_Qi (fun (r : Int32) (_ : Unit) => r = 0) (fun _ t => t.heap = Hq) (fun _ : Nat => False)) 0 0 (fun _ : Nat => False) := by
  refine Met.ofW (cc := cX8_seen) (maxL := 3) (ret := (some .int)) (by decide) rfl ?_
  intro p e s m args below meth c s₁ B hml hv
  obtain ⟨rfl, hH, hP, hK, hN⟩ := hv
  subst hH
  have hx := B.exec
  have hb := B.bytes
  have hr := B.returns
  have hts := atoms_spec (ws := wsX8_seen) B.pre
  have hown : s.vm.findClass RX8 = some m.cls := findClass_of_methodNamed B.named
  have hlocks := B.notSynchronized
  have hS : va_S (fun _ : Nat => False) s.heap s.heap [] := va_S.rf
  have hiX8 : ∀ w ∈ u_ws RX8 TX8 17, w ∈ wsX8_seen := by decide +kernel
  have hl := lv_entry ([.ref mo]) (n := 3) (Nat.le_of_ble_eq_true rfl)
  rw [lg_entry_eq]
  generalize (lg_sl ([.ref mo]) ++ List.replicate (3 - (lg_sl ([.ref mo])).length) Slot.unset).toArray = ls at hl ⊢
  have hl : lv_has ls 3 [(0, .ref mo)] := hl
  refine lv_iconst (v := 0) hx hb dX8_seen_0 (by decide +kernel) ?_
  refine lv_istore_n (lv' := [(1, .int 0), (0, .ref mo)]) hx hb dX8_seen_1 rfl hl (by decide) rfl (fun ls hl => ?_)
  refine lv_iconst (v := 0) hx hb dX8_seen_2 (by decide +kernel) ?_
  refine lv_istore_n (lv' := [(2, .int 0), (1, .int 0), (0, .ref mo)]) hx hb dX8_seen_3 rfl hl (by decide) rfl (fun ls hl => ?_)
  refine lv_iload_n hx hb dX8_seen_4 rfl (lv_at hl 0 rfl) ?_
  refine lv_aload_n hx hb dX8_seen_5 rfl (lv_at hl 2 rfl) ?_
  refine va_get (D := (dC, dI)) (ci := 8) (v := .int 0) (C := RX8) (T := TX8) (N := 17) hx hb hts hiX8 hown hK hP 0 rfl rfl 0 (by decide) (hts (.fieldLink RX8 58 "MadeItSoModel" "many" "I") (by decide +kernel)) (fun _ h9 => h9) rfl dX8_seen_6 ?_
  refine lv_icmp_ge (tgt := 37) hx hb dX8_seen_9 (by decide) (fun _ => ?_) (fun c_9 => absurd (by decide +kernel) c_9)
  refine lv_iload_n hx hb dX8_seen_37 rfl (lv_at hl 1 rfl) ?_
  refine W.widen (k := 0) (n := 0) (Nat.le_of_ble_eq_true rfl) (Nat.le_of_ble_eq_true rfl) ?_
  exact W.iret (v := 0) hx hb hr (fun t ht hW => ⟨⟨0, (), rfl, rfl, ht⟩, hS.F ht⟩) hS.2.2 dX8_seen_38
set_option maxHeartbeats 1000000 in
set_option maxRecDepth 100000 in
theorem mz_M_works (l : Launch) (dC : Nat → ClassId) (dI : Nat → Nat → Nat) (cI cJ cZ : ClassId) (mo : Nat) (m1 : Nat) (m2 : Nat) (m3 : Nat) (m6 : Nat) (m7 : Nat) (m8 : Nat) (m9 : Nat) (m10 : Nat) (m11 : Nat) (m12 : Nat) (m13 : Nat) (m14 : Nat) (m15 : Nat) (m16 : Nat) (p0 : Int32) (p1 : Int32) (Hq : Heap)  : Met l yX8_works wsX8_works ({ frames := 1, cells := 0, slots := 0, locals := 21 }) (va_Pc [.ref mo, .int p0, .int p1] (fun U => U.heap = Hq ∧ va_P (dC, dI) vwCl [(mo, .inr (8, [.int 0, .ref m1, .ref m2, .ref m3, .long 0, .long 1, .ref m6, .ref m7, .ref m8, .ref m9, .ref m10, .ref m11, .ref m12, .ref m13, .ref m14, .ref m15, .ref m16]))] Hq ∧ va_K (dC, dI) vwCl [(cI, FieldType.int), (cJ, FieldType.long), (cZ, FieldType.boolean)] U ∧ mz_N U)) (va_Qi (fun (r : Int32) (_ : Unit) => r = 0) (fun _ t => t.heap = Hq) (fun _ : Nat => False)) 0 0 (fun _ : Nat => False) := by
  refine Met.ofW (cc := cX8_works) (maxL := 5) (ret := (some .boolean)) (by decide) rfl ?_
  intro p e s m args below meth c s₁ B hml hv
  obtain ⟨rfl, hH, hP, hK, hN⟩ := hv
  subst hH
  have hx := B.exec
  have hb := B.bytes
  have hr := B.returns
  have hts := atoms_spec (ws := wsX8_works) B.pre
  have hown : s.vm.findClass RX8 = some m.cls := findClass_of_methodNamed B.named
  have hlocks := B.notSynchronized
  have hS : va_S (fun _ : Nat => False) s.heap s.heap [] := va_S.rf
  have hl := lv_entry ([.ref mo, .int p0, .int p1]) (n := 5) (Nat.le_of_ble_eq_true rfl)
  rw [lg_entry_eq]
  generalize (lg_sl ([.ref mo, .int p0, .int p1]) ++ List.replicate (5 - (lg_sl ([.ref mo, .int p0, .int p1])).length) Slot.unset).toArray = ls at hl ⊢
  have hl : lv_has ls 5 [(0, .ref mo), (1, .int p0), (2, .int p1)] := hl
  refine lv_aload_n hx hb dX8_works_0 rfl (lv_at hl 0 rfl) ?_
  refine lv_iload_n hx hb dX8_works_1 rfl (lv_at hl 1 rfl) ?_
  have hPc := hP.sub (ws' := [(mo, .inr (8, [.int 0, .ref m1, .ref m2, .ref m3, .long 0, .long 1, .ref m6, .ref m7, .ref m8, .ref m9, .ref m10, .ref m11, .ref m12, .ref m13, .ref m14, .ref m15, .ref m16]))]) [0] rfl
  refine va_calli (va_runV (As := [.int p0]) (rest := []) ⟨hx, hb, hml, hown, hts⟩ (mz_M_isThing l dC dI cI cJ cZ mo m1 m2 m3 m6 m7 m8 m9 m10 m11 m12 m13 m14 m15 m16 p0 s.heap ) (cwV 1 hts gX8_works_X8_isThing rfl rfl rfl (by decide +kernel) ⟨Nat.le_of_ble_eq_true rfl, Nat.le_of_ble_eq_true rfl⟩) ⟨fun a U g mk q => mz_blP q, va_recv hK hPc (ci := 8) (q0 := 0) rfl rfl, fun U hU hW => ⟨rfl, hU, hPc, va_K.moved hW.alike hK, mz_nw hW hN⟩⟩ rfl rfl hl.1 rfl (lv_room (Nat.le_of_ble_eq_true rfl)) dX8_works_2 ⟨Nat.le_of_ble_eq_true rfl, Nat.le_of_ble_eq_true rfl⟩) hS (fun q _ h => h.elim) (fun q h => h.elim) (fun r u t H1 locs ht hvm hw hB hz1 hk1 hS => ?_)
  have hE : s.heap = H1 := hB.symm.trans ht
  subst hE
  obtain rfl : r = 0 := hw
  refine lv_if_eq (tgt := 21) hx hb dX8_works_5 (by decide) (fun _ => ?_) (fun c_5 => absurd (by decide +kernel) c_5)
  refine lv_iconst (v := 0) hx hb dX8_works_21 (by decide +kernel) ?_
  refine W.widen (k := 0) (n := 0) (Nat.le_of_ble_eq_true rfl) (Nat.le_of_ble_eq_true rfl) ?_
  exact W.zret (v := 0) hx hb hr (mz_nz (by decide +kernel)) (fun t ht hW => ⟨⟨0, (), rfl, rfl, ht⟩, hS.F ht⟩) hS.2.2 dX8_works_22
set_option maxHeartbeats 1000000 in
set_option maxRecDepth 100000 in
theorem mz_M_arrow (l : Launch) (dC : Nat → ClassId) (dI : Nat → Nat → Nat) (cI cJ cZ : ClassId) (mo : Nat) (m1 : Nat) (m2 : Nat) (m3 : Nat) (m6 : Nat) (m7 : Nat) (m8 : Nat) (m9 : Nat) (m10 : Nat) (m11 : Nat) (m12 : Nat) (m13 : Nat) (m14 : Nat) (m15 : Nat) (m16 : Nat) (p1 : Int32) (p2 : Int32) (Hq : Heap)  : Met l yX8_arrow wsX8_arrow ({ frames := 1, cells := 0, slots := 0, locals := 21 }) (va_Pc [.ref mo, .int p1, .int p2] (fun U => U.heap = Hq ∧ va_P (dC, dI) vwCl [(mo, .inr (8, [.int 0, .ref m1, .ref m2, .ref m3, .long 0, .long 1, .ref m6, .ref m7, .ref m8, .ref m9, .ref m10, .ref m11, .ref m12, .ref m13, .ref m14, .ref m15, .ref m16]))] Hq ∧ va_K (dC, dI) vwCl [(cI, FieldType.int), (cJ, FieldType.long), (cZ, FieldType.boolean)] U ∧ mz_N U)) (va_Qi (fun (r : Int32) (_ : Unit) => r = 0) (fun _ t => t.heap = Hq) (fun _ : Nat => False)) 0 0 (fun _ : Nat => False) := by
  refine Met.ofW (cc := cX8_arrow) (maxL := 3) (ret := (some .boolean)) (by decide) rfl ?_
  intro p e s m args below meth c s₁ B hml hv
  obtain ⟨rfl, hH, hP, hK, hN⟩ := hv
  subst hH
  have hx := B.exec
  have hb := B.bytes
  have hr := B.returns
  have hts := atoms_spec (ws := wsX8_arrow) B.pre
  have hown : s.vm.findClass RX8 = some m.cls := findClass_of_methodNamed B.named
  have hlocks := B.notSynchronized
  have hS : va_S (fun _ : Nat => False) s.heap s.heap [] := va_S.rf
  have hl := lv_entry ([.ref mo, .int p1, .int p2]) (n := 3) (Nat.le_of_ble_eq_true rfl)
  rw [lg_entry_eq]
  generalize (lg_sl ([.ref mo, .int p1, .int p2]) ++ List.replicate (3 - (lg_sl ([.ref mo, .int p1, .int p2])).length) Slot.unset).toArray = ls at hl ⊢
  have hl : lv_has ls 3 [(0, .ref mo), (1, .int p1), (2, .int p2)] := hl
  refine lv_aload_n hx hb dX8_arrow_0 rfl (lv_at hl 0 rfl) ?_
  refine lv_iload_n hx hb dX8_arrow_1 rfl (lv_at hl 1 rfl) ?_
  have hPc := hP.sub (ws' := [(mo, .inr (8, [.int 0, .ref m1, .ref m2, .ref m3, .long 0, .long 1, .ref m6, .ref m7, .ref m8, .ref m9, .ref m10, .ref m11, .ref m12, .ref m13, .ref m14, .ref m15, .ref m16]))]) [0] rfl
  refine va_calli (va_runV (As := [.int p1]) (rest := []) ⟨hx, hb, hml, hown, hts⟩ (mz_M_isThing l dC dI cI cJ cZ mo m1 m2 m3 m6 m7 m8 m9 m10 m11 m12 m13 m14 m15 m16 p1 s.heap ) (cwV 1 hts gX8_arrow_X8_isThing rfl rfl rfl (by decide +kernel) ⟨Nat.le_of_ble_eq_true rfl, Nat.le_of_ble_eq_true rfl⟩) ⟨fun a U g mk q => mz_blP q, va_recv hK hPc (ci := 8) (q0 := 0) rfl rfl, fun U hU hW => ⟨rfl, hU, hPc, va_K.moved hW.alike hK, mz_nw hW hN⟩⟩ rfl rfl hl.1 rfl (lv_room (Nat.le_of_ble_eq_true rfl)) dX8_arrow_2 ⟨Nat.le_of_ble_eq_true rfl, Nat.le_of_ble_eq_true rfl⟩) hS (fun q _ h => h.elim) (fun q h => h.elim) (fun r u t H1 locs ht hvm hw hB hz1 hk1 hS => ?_)
  have hE : s.heap = H1 := hB.symm.trans ht
  subst hE
  obtain rfl : r = 0 := hw
  refine lv_if_eq (tgt := 53) hx hb dX8_arrow_5 (by decide) (fun _ => ?_) (fun c_5 => absurd (by decide +kernel) c_5)
  refine lv_iconst (v := 0) hx hb dX8_arrow_53 (by decide +kernel) ?_
  refine W.widen (k := 0) (n := 0) (Nat.le_of_ble_eq_true rfl) (Nat.le_of_ble_eq_true rfl) ?_
  exact W.zret (v := 0) hx hb hr (mz_nz (by decide +kernel)) (fun t ht hW => ⟨⟨0, (), rfl, rfl, ht⟩, hS.F ht⟩) hS.2.2 dX8_arrow_54
set_option maxHeartbeats 1000000 in
set_option maxRecDepth 100000 in
theorem mz_M_cut (l : Launch) (dC : Nat → ClassId) (dI : Nat → Nat → Nat) (cI cJ cZ : ClassId) (mo : Nat) (m1 : Nat) (m2 : Nat) (m3 : Nat) (m6 : Nat) (m7 : Nat) (m8 : Nat) (m9 : Nat) (m10 : Nat) (m11 : Nat) (m12 : Nat) (m13 : Nat) (m14 : Nat) (m15 : Nat) (m16 : Nat) (p1 : Int32) (p2 : Int32) (Hq : Heap)  : Met l yX8_cut wsX8_cut ({ frames := 2, cells := 0, slots := 0, locals := 43 }) (va_Pc [.ref mo, .int p1, .int p2] (fun U => U.heap = Hq ∧ va_P (dC, dI) vwCl [(mo, .inr (8, [.int 0, .ref m1, .ref m2, .ref m3, .long 0, .long 1, .ref m6, .ref m7, .ref m8, .ref m9, .ref m10, .ref m11, .ref m12, .ref m13, .ref m14, .ref m15, .ref m16]))] Hq ∧ va_K (dC, dI) vwCl [(cI, FieldType.int), (cJ, FieldType.long), (cZ, FieldType.boolean)] U ∧ mz_N U)) (va_Qi (fun (r : Int32) (_ : Unit) => r = 0) (fun _ t => t.heap = Hq) (fun _ : Nat => False)) 0 0 (fun _ : Nat => False) := by
  refine Met.ofW (cc := cX8_cut) (maxL := 3) (ret := (some .boolean)) (by decide) rfl ?_
  intro p e s m args below meth c s₁ B hml hv
  obtain ⟨rfl, hH, hP, hK, hN⟩ := hv
  subst hH
  have hx := B.exec
  have hb := B.bytes
  have hr := B.returns
  have hts := atoms_spec (ws := wsX8_cut) B.pre
  have hown : s.vm.findClass RX8 = some m.cls := findClass_of_methodNamed B.named
  have hlocks := B.notSynchronized
  have hS : va_S (fun _ : Nat => False) s.heap s.heap [] := va_S.rf
  have hl := lv_entry ([.ref mo, .int p1, .int p2]) (n := 3) (Nat.le_of_ble_eq_true rfl)
  rw [lg_entry_eq]
  generalize (lg_sl ([.ref mo, .int p1, .int p2]) ++ List.replicate (3 - (lg_sl ([.ref mo, .int p1, .int p2])).length) Slot.unset).toArray = ls at hl ⊢
  have hl : lv_has ls 3 [(0, .ref mo), (1, .int p1), (2, .int p2)] := hl
  refine lv_aload_n hx hb dX8_cut_0 rfl (lv_at hl 0 rfl) ?_
  refine lv_iload_n hx hb dX8_cut_1 rfl (lv_at hl 1 rfl) ?_
  refine lv_iload_n hx hb dX8_cut_2 rfl (lv_at hl 2 rfl) ?_
  have hPc := hP.sub (ws' := [(mo, .inr (8, [.int 0, .ref m1, .ref m2, .ref m3, .long 0, .long 1, .ref m6, .ref m7, .ref m8, .ref m9, .ref m10, .ref m11, .ref m12, .ref m13, .ref m14, .ref m15, .ref m16]))]) [0] rfl
  refine va_calli (va_runV (As := [.int p1, .int p2]) (rest := []) ⟨hx, hb, hml, hown, hts⟩ (mz_M_has l dC dI cI cJ cZ mo m1 m2 m3 m6 m7 m8 m9 m10 m11 m12 m13 m14 m15 m16 p1 p2 s.heap ) (cwV 2 hts gX8_cut_X8_has rfl rfl rfl (by decide +kernel) ⟨Nat.le_of_ble_eq_true rfl, Nat.le_of_ble_eq_true rfl⟩) ⟨fun a U g mk q => mz_blP q, va_recv hK hPc (ci := 8) (q0 := 0) rfl rfl, fun U hU hW => ⟨rfl, hU, hPc, va_K.moved hW.alike hK, mz_nw hW hN⟩⟩ rfl rfl hl.1 rfl (lv_room (Nat.le_of_ble_eq_true rfl)) dX8_cut_3 ⟨Nat.le_of_ble_eq_true rfl, Nat.le_of_ble_eq_true rfl⟩) hS (fun q _ h => h.elim) (fun q h => h.elim) (fun r u t H1 locs ht hvm hw hB hz1 hk1 hS => ?_)
  have hE : s.heap = H1 := hB.symm.trans ht
  subst hE
  obtain rfl : r = 0 := hw
  refine lv_if_ne (tgt := 11) hx hb dX8_cut_6 (by decide) (fun c_6 => absurd (by decide +kernel) c_6) (fun _ => ?_)
  refine lv_iconst (v := 0) hx hb dX8_cut_9 (by decide +kernel) ?_
  refine W.widen (k := 0) (n := 0) (Nat.le_of_ble_eq_true rfl) (Nat.le_of_ble_eq_true rfl) ?_
  exact W.zret (v := 0) hx hb hr (mz_nz (by decide +kernel)) (fun t ht hW => ⟨⟨0, (), rfl, rfl, ht⟩, hS.F ht⟩) hS.2.2 dX8_cut_10
set_option maxHeartbeats 1000000 in
set_option maxRecDepth 100000 in
theorem mz_M_turn (l : Launch) (dC : Nat → ClassId) (dI : Nat → Nat → Nat) (cI cJ cZ : ClassId) (mo : Nat) (m1 : Nat) (m2 : Nat) (m3 : Nat) (m6 : Nat) (m7 : Nat) (m8 : Nat) (m9 : Nat) (m10 : Nat) (m11 : Nat) (m12 : Nat) (m13 : Nat) (m14 : Nat) (m15 : Nat) (m16 : Nat) (p1 : Int32) (p2 : Int32) (Hq : Heap)  : Met l yX8_turn wsX8_turn ({ frames := 2, cells := 0, slots := 0, locals := 43 }) (va_Pc [.ref mo, .int p1, .int p2] (fun U => U.heap = Hq ∧ va_P (dC, dI) vwCl [(mo, .inr (8, [.int 0, .ref m1, .ref m2, .ref m3, .long 0, .long 1, .ref m6, .ref m7, .ref m8, .ref m9, .ref m10, .ref m11, .ref m12, .ref m13, .ref m14, .ref m15, .ref m16]))] Hq ∧ va_K (dC, dI) vwCl [(cI, FieldType.int), (cJ, FieldType.long), (cZ, FieldType.boolean)] U ∧ mz_N U)) (va_Qi (fun (r : Int32) (_ : Unit) => r = 0) (fun _ t => t.heap = Hq) (fun _ : Nat => False)) 0 0 (fun _ : Nat => False) := by
  refine Met.ofW (cc := cX8_turn) (maxL := 4) (ret := (some .boolean)) (by decide) rfl ?_
  intro p e s m args below meth c s₁ B hml hv
  obtain ⟨rfl, hH, hP, hK, hN⟩ := hv
  subst hH
  have hx := B.exec
  have hb := B.bytes
  have hr := B.returns
  have hts := atoms_spec (ws := wsX8_turn) B.pre
  have hown : s.vm.findClass RX8 = some m.cls := findClass_of_methodNamed B.named
  have hlocks := B.notSynchronized
  have hS : va_S (fun _ : Nat => False) s.heap s.heap [] := va_S.rf
  have hl := lv_entry ([.ref mo, .int p1, .int p2]) (n := 4) (Nat.le_of_ble_eq_true rfl)
  rw [lg_entry_eq]
  generalize (lg_sl ([.ref mo, .int p1, .int p2]) ++ List.replicate (4 - (lg_sl ([.ref mo, .int p1, .int p2])).length) Slot.unset).toArray = ls at hl ⊢
  have hl : lv_has ls 4 [(0, .ref mo), (1, .int p1), (2, .int p2)] := hl
  refine lv_aload_n hx hb dX8_turn_0 rfl (lv_at hl 0 rfl) ?_
  refine lv_iload_n hx hb dX8_turn_1 rfl (lv_at hl 1 rfl) ?_
  refine lv_iload_n hx hb dX8_turn_2 rfl (lv_at hl 2 rfl) ?_
  have hPc := hP.sub (ws' := [(mo, .inr (8, [.int 0, .ref m1, .ref m2, .ref m3, .long 0, .long 1, .ref m6, .ref m7, .ref m8, .ref m9, .ref m10, .ref m11, .ref m12, .ref m13, .ref m14, .ref m15, .ref m16]))]) [0] rfl
  refine va_calli (va_runV (As := [.int p1, .int p2]) (rest := []) ⟨hx, hb, hml, hown, hts⟩ (mz_M_has l dC dI cI cJ cZ mo m1 m2 m3 m6 m7 m8 m9 m10 m11 m12 m13 m14 m15 m16 p1 p2 s.heap ) (cwV 2 hts gX8_turn_X8_has rfl rfl rfl (by decide +kernel) ⟨Nat.le_of_ble_eq_true rfl, Nat.le_of_ble_eq_true rfl⟩) ⟨fun a U g mk q => mz_blP q, va_recv hK hPc (ci := 8) (q0 := 0) rfl rfl, fun U hU hW => ⟨rfl, hU, hPc, va_K.moved hW.alike hK, mz_nw hW hN⟩⟩ rfl rfl hl.1 rfl (lv_room (Nat.le_of_ble_eq_true rfl)) dX8_turn_3 ⟨Nat.le_of_ble_eq_true rfl, Nat.le_of_ble_eq_true rfl⟩) hS (fun q _ h => h.elim) (fun q h => h.elim) (fun r u t H1 locs ht hvm hw hB hz1 hk1 hS => ?_)
  have hE : s.heap = H1 := hB.symm.trans ht
  subst hE
  obtain rfl : r = 0 := hw
  refine lv_if_ne (tgt := 11) hx hb dX8_turn_6 (by decide) (fun c_6 => absurd (by decide +kernel) c_6) (fun _ => ?_)
  refine lv_iconst (v := 0) hx hb dX8_turn_9 (by decide +kernel) ?_
  refine W.widen (k := 0) (n := 0) (Nat.le_of_ble_eq_true rfl) (Nat.le_of_ble_eq_true rfl) ?_
  exact W.zret (v := 0) hx hb hr (mz_nz (by decide +kernel)) (fun t ht hW => ⟨⟨0, (), rfl, rfl, ht⟩, hS.F ht⟩) hS.2.2 dX8_turn_10
set_option maxHeartbeats 1000000 in
set_option maxRecDepth 100000 in
theorem mz_M_book (l : Launch) (dC : Nat → ClassId) (dI : Nat → Nat → Nat) (cI cJ cZ : ClassId) (mo : Nat) (m1 : Nat) (m2 : Nat) (m3 : Nat) (m6 : Nat) (m7 : Nat) (m8 : Nat) (m9 : Nat) (m10 : Nat) (m11 : Nat) (m12 : Nat) (m13 : Nat) (m14 : Nat) (m15 : Nat) (m16 : Nat) (p1 : Int32) (p2 : Int32) (p3 : Int32) (Hq : Heap)  : Met l yX8_book wsX8_book ({ frames := 2, cells := 0, slots := 0, locals := 43 }) (va_Pc [.ref mo, .int p1, .int p2, .int p3] (fun U => U.heap = Hq ∧ va_P (dC, dI) vwCl [(mo, .inr (8, [.int 0, .ref m1, .ref m2, .ref m3, .long 0, .long 1, .ref m6, .ref m7, .ref m8, .ref m9, .ref m10, .ref m11, .ref m12, .ref m13, .ref m14, .ref m15, .ref m16]))] Hq ∧ va_K (dC, dI) vwCl [(cI, FieldType.int), (cJ, FieldType.long), (cZ, FieldType.boolean)] U ∧ mz_N U)) (va_Qi (fun (r : Int32) (_ : Unit) => r = 0) (fun _ t => t.heap = Hq) (fun _ : Nat => False)) 0 0 (fun _ : Nat => False) := by
  refine Met.ofW (cc := cX8_book) (maxL := 4) (ret := (some .boolean)) (by decide) rfl ?_
  intro p e s m args below meth c s₁ B hml hv
  obtain ⟨rfl, hH, hP, hK, hN⟩ := hv
  subst hH
  have hx := B.exec
  have hb := B.bytes
  have hr := B.returns
  have hts := atoms_spec (ws := wsX8_book) B.pre
  have hown : s.vm.findClass RX8 = some m.cls := findClass_of_methodNamed B.named
  have hlocks := B.notSynchronized
  have hS : va_S (fun _ : Nat => False) s.heap s.heap [] := va_S.rf
  have hl := lv_entry ([.ref mo, .int p1, .int p2, .int p3]) (n := 4) (Nat.le_of_ble_eq_true rfl)
  rw [lg_entry_eq]
  generalize (lg_sl ([.ref mo, .int p1, .int p2, .int p3]) ++ List.replicate (4 - (lg_sl ([.ref mo, .int p1, .int p2, .int p3])).length) Slot.unset).toArray = ls at hl ⊢
  have hl : lv_has ls 4 [(0, .ref mo), (1, .int p1), (2, .int p2), (3, .int p3)] := hl
  refine lv_aload_n hx hb dX8_book_0 rfl (lv_at hl 0 rfl) ?_
  refine lv_iload_n hx hb dX8_book_1 rfl (lv_at hl 1 rfl) ?_
  refine lv_iload_n hx hb dX8_book_2 rfl (lv_at hl 2 rfl) ?_
  have hPc := hP.sub (ws' := [(mo, .inr (8, [.int 0, .ref m1, .ref m2, .ref m3, .long 0, .long 1, .ref m6, .ref m7, .ref m8, .ref m9, .ref m10, .ref m11, .ref m12, .ref m13, .ref m14, .ref m15, .ref m16]))]) [0] rfl
  refine va_calli (va_runV (As := [.int p1, .int p2]) (rest := []) ⟨hx, hb, hml, hown, hts⟩ (mz_M_isRow l dC dI cI cJ cZ mo m1 m2 m3 m6 m7 m8 m9 m10 m11 m12 m13 m14 m15 m16 p1 p2 s.heap ) (cwV 2 hts gX8_book_X8_isRow rfl rfl rfl (by decide +kernel) ⟨Nat.le_of_ble_eq_true rfl, Nat.le_of_ble_eq_true rfl⟩) ⟨fun a U g mk q => mz_blP q, va_recv hK hPc (ci := 8) (q0 := 0) rfl rfl, fun U hU hW => ⟨rfl, hU, hPc, va_K.moved hW.alike hK, mz_nw hW hN⟩⟩ rfl rfl hl.1 rfl (lv_room (Nat.le_of_ble_eq_true rfl)) dX8_book_3 ⟨Nat.le_of_ble_eq_true rfl, Nat.le_of_ble_eq_true rfl⟩) hS (fun q _ h => h.elim) (fun q h => h.elim) (fun r u t H1 locs ht hvm hw hB hz1 hk1 hS => ?_)
  have hE : s.heap = H1 := hB.symm.trans ht
  subst hE
  obtain rfl : r = 0 := hw
  refine lv_if_eq (tgt := 19) hx hb dX8_book_6 (by decide) (fun _ => ?_) (fun c_6 => absurd (by decide +kernel) c_6)
  refine lv_iconst (v := 0) hx hb dX8_book_19 (by decide +kernel) ?_
  refine W.widen (k := 0) (n := 0) (Nat.le_of_ble_eq_true rfl) (Nat.le_of_ble_eq_true rfl) ?_
  exact W.zret (v := 0) hx hb hr (mz_nz (by decide +kernel)) (fun t ht hW => ⟨⟨0, (), rfl, rfl, ht⟩, hS.F ht⟩) hS.2.2 dX8_book_20
set_option maxHeartbeats 1000000 in
set_option maxRecDepth 100000 in
theorem mz_M_booked (l : Launch) (dC : Nat → ClassId) (dI : Nat → Nat → Nat) (cI cJ cZ : ClassId) (mo : Nat) (m1 : Nat) (m2 : Nat) (m3 : Nat) (m6 : Nat) (m7 : Nat) (m8 : Nat) (m9 : Nat) (m10 : Nat) (m11 : Nat) (m12 : Nat) (m13 : Nat) (m14 : Nat) (m15 : Nat) (m16 : Nat) (p1 : Int32) (p2 : Int32) (Hq : Heap)  : Met l yX8_booked wsX8_booked ({ frames := 2, cells := 0, slots := 0, locals := 43 }) (va_Pc [.ref mo, .int p1, .int p2] (fun U => U.heap = Hq ∧ va_P (dC, dI) vwCl [(mo, .inr (8, [.int 0, .ref m1, .ref m2, .ref m3, .long 0, .long 1, .ref m6, .ref m7, .ref m8, .ref m9, .ref m10, .ref m11, .ref m12, .ref m13, .ref m14, .ref m15, .ref m16]))] Hq ∧ va_K (dC, dI) vwCl [(cI, FieldType.int), (cJ, FieldType.long), (cZ, FieldType.boolean)] U ∧ mz_N U)) (va_Qi (fun (r : Int32) (_ : Unit) => r = (-1)) (fun _ t => t.heap = Hq) (fun _ : Nat => False)) 0 0 (fun _ : Nat => False) := by
  refine Met.ofW (cc := cX8_booked) (maxL := 3) (ret := (some .int)) (by decide) rfl ?_
  intro p e s m args below meth c s₁ B hml hv
  obtain ⟨rfl, hH, hP, hK, hN⟩ := hv
  subst hH
  have hx := B.exec
  have hb := B.bytes
  have hr := B.returns
  have hts := atoms_spec (ws := wsX8_booked) B.pre
  have hown : s.vm.findClass RX8 = some m.cls := findClass_of_methodNamed B.named
  have hlocks := B.notSynchronized
  have hS : va_S (fun _ : Nat => False) s.heap s.heap [] := va_S.rf
  have hl := lv_entry ([.ref mo, .int p1, .int p2]) (n := 3) (Nat.le_of_ble_eq_true rfl)
  rw [lg_entry_eq]
  generalize (lg_sl ([.ref mo, .int p1, .int p2]) ++ List.replicate (3 - (lg_sl ([.ref mo, .int p1, .int p2])).length) Slot.unset).toArray = ls at hl ⊢
  have hl : lv_has ls 3 [(0, .ref mo), (1, .int p1), (2, .int p2)] := hl
  refine lv_aload_n hx hb dX8_booked_0 rfl (lv_at hl 0 rfl) ?_
  refine lv_iload_n hx hb dX8_booked_1 rfl (lv_at hl 1 rfl) ?_
  refine lv_iload_n hx hb dX8_booked_2 rfl (lv_at hl 2 rfl) ?_
  have hPc := hP.sub (ws' := [(mo, .inr (8, [.int 0, .ref m1, .ref m2, .ref m3, .long 0, .long 1, .ref m6, .ref m7, .ref m8, .ref m9, .ref m10, .ref m11, .ref m12, .ref m13, .ref m14, .ref m15, .ref m16]))]) [0] rfl
  refine va_calli (va_runV (As := [.int p1, .int p2]) (rest := []) ⟨hx, hb, hml, hown, hts⟩ (mz_M_isRow l dC dI cI cJ cZ mo m1 m2 m3 m6 m7 m8 m9 m10 m11 m12 m13 m14 m15 m16 p1 p2 s.heap ) (cwV 2 hts gX8_booked_X8_isRow rfl rfl rfl (by decide +kernel) ⟨Nat.le_of_ble_eq_true rfl, Nat.le_of_ble_eq_true rfl⟩) ⟨fun a U g mk q => mz_blP q, va_recv hK hPc (ci := 8) (q0 := 0) rfl rfl, fun U hU hW => ⟨rfl, hU, hPc, va_K.moved hW.alike hK, mz_nw hW hN⟩⟩ rfl rfl hl.1 rfl (lv_room (Nat.le_of_ble_eq_true rfl)) dX8_booked_3 ⟨Nat.le_of_ble_eq_true rfl, Nat.le_of_ble_eq_true rfl⟩) hS (fun q _ h => h.elim) (fun q h => h.elim) (fun r u t H1 locs ht hvm hw hB hz1 hk1 hS => ?_)
  have hE : s.heap = H1 := hB.symm.trans ht
  subst hE
  obtain rfl : r = 0 := hw
  refine lv_if_eq (tgt := 24) hx hb dX8_booked_6 (by decide) (fun _ => ?_) (fun c_6 => absurd (by decide +kernel) c_6)
  refine lv_iconst (v := (-1)) hx hb dX8_booked_24 (by decide +kernel) ?_
  refine W.widen (k := 0) (n := 0) (Nat.le_of_ble_eq_true rfl) (Nat.le_of_ble_eq_true rfl) ?_
  exact W.iret (v := (-1)) hx hb hr (fun t ht hW => ⟨⟨(-1), (), rfl, rfl, ht⟩, hS.F ht⟩) hS.2.2 dX8_booked_25
set_option maxHeartbeats 1000000 in
set_option maxRecDepth 100000 in
theorem mz_M_told (l : Launch) (dC : Nat → ClassId) (dI : Nat → Nat → Nat) (cI cJ cZ : ClassId) (mo : Nat) (m1 : Nat) (m2 : Nat) (m3 : Nat) (m6 : Nat) (m7 : Nat) (m8 : Nat) (m9 : Nat) (m10 : Nat) (m11 : Nat) (m12 : Nat) (m13 : Nat) (m14 : Nat) (m15 : Nat) (m16 : Nat) (p1 : Int32) (p2 : Int32) (Hq : Heap)  : Met l yX8_told wsX8_told ({ frames := 1, cells := 0, slots := 0, locals := 21 }) (va_Pc [.ref mo, .int p1, .int p2] (fun U => U.heap = Hq ∧ va_P (dC, dI) vwCl [(mo, .inr (8, [.int 0, .ref m1, .ref m2, .ref m3, .long 0, .long 1, .ref m6, .ref m7, .ref m8, .ref m9, .ref m10, .ref m11, .ref m12, .ref m13, .ref m14, .ref m15, .ref m16]))] Hq ∧ va_K (dC, dI) vwCl [(cI, FieldType.int), (cJ, FieldType.long), (cZ, FieldType.boolean)] U ∧ mz_N U)) (va_Qi (fun (r : Int32) (_ : Unit) => r = (-1)) (fun _ t => t.heap = Hq) (fun _ : Nat => False)) 0 0 (fun _ : Nat => False) := by
  refine Met.ofW (cc := cX8_told) (maxL := 5) (ret := (some .int)) (by decide) rfl ?_
  intro p e s m args below meth c s₁ B hml hv
  obtain ⟨rfl, hH, hP, hK, hN⟩ := hv
  subst hH
  have hx := B.exec
  have hb := B.bytes
  have hr := B.returns
  have hts := atoms_spec (ws := wsX8_told) B.pre
  have hown : s.vm.findClass RX8 = some m.cls := findClass_of_methodNamed B.named
  have hlocks := B.notSynchronized
  have hS : va_S (fun _ : Nat => False) s.heap s.heap [] := va_S.rf
  have hl := lv_entry ([.ref mo, .int p1, .int p2]) (n := 5) (Nat.le_of_ble_eq_true rfl)
  rw [lg_entry_eq]
  generalize (lg_sl ([.ref mo, .int p1, .int p2]) ++ List.replicate (5 - (lg_sl ([.ref mo, .int p1, .int p2])).length) Slot.unset).toArray = ls at hl ⊢
  have hl : lv_has ls 5 [(0, .ref mo), (1, .int p1), (2, .int p2)] := hl
  refine lv_aload_n hx hb dX8_told_0 rfl (lv_at hl 0 rfl) ?_
  refine lv_iload_n hx hb dX8_told_1 rfl (lv_at hl 1 rfl) ?_
  have hPc := hP.sub (ws' := [(mo, .inr (8, [.int 0, .ref m1, .ref m2, .ref m3, .long 0, .long 1, .ref m6, .ref m7, .ref m8, .ref m9, .ref m10, .ref m11, .ref m12, .ref m13, .ref m14, .ref m15, .ref m16]))]) [0] rfl
  refine va_calli (va_runV (As := [.int p1]) (rest := []) ⟨hx, hb, hml, hown, hts⟩ (mz_M_isThing l dC dI cI cJ cZ mo m1 m2 m3 m6 m7 m8 m9 m10 m11 m12 m13 m14 m15 m16 p1 s.heap ) (cwV 1 hts gX8_told_X8_isThing rfl rfl rfl (by decide +kernel) ⟨Nat.le_of_ble_eq_true rfl, Nat.le_of_ble_eq_true rfl⟩) ⟨fun a U g mk q => mz_blP q, va_recv hK hPc (ci := 8) (q0 := 0) rfl rfl, fun U hU hW => ⟨rfl, hU, hPc, va_K.moved hW.alike hK, mz_nw hW hN⟩⟩ rfl rfl hl.1 rfl (lv_room (Nat.le_of_ble_eq_true rfl)) dX8_told_2 ⟨Nat.le_of_ble_eq_true rfl, Nat.le_of_ble_eq_true rfl⟩) hS (fun q _ h => h.elim) (fun q h => h.elim) (fun r u t H1 locs ht hvm hw hB hz1 hk1 hS => ?_)
  have hE : s.heap = H1 := hB.symm.trans ht
  subst hE
  obtain rfl : r = 0 := hw
  refine lv_if_ne (tgt := 10) hx hb dX8_told_5 (by decide) (fun c_5 => absurd (by decide +kernel) c_5) (fun _ => ?_)
  refine lv_iconst (v := (-1)) hx hb dX8_told_8 (by decide +kernel) ?_
  refine W.widen (k := 0) (n := 0) (Nat.le_of_ble_eq_true rfl) (Nat.le_of_ble_eq_true rfl) ?_
  exact W.iret (v := (-1)) hx hb hr (fun t ht hW => ⟨⟨(-1), (), rfl, rfl, ht⟩, hS.F ht⟩) hS.2.2 dX8_told_9
set_option maxHeartbeats 1000000 in
set_option maxRecDepth 100000 in
theorem mz_M_least (l : Launch) (dC : Nat → ClassId) (dI : Nat → Nat → Nat) (cI cJ cZ : ClassId) (mo : Nat) (m1 : Nat) (m2 : Nat) (m3 : Nat) (m6 : Nat) (m7 : Nat) (m8 : Nat) (m9 : Nat) (m10 : Nat) (m11 : Nat) (m12 : Nat) (m13 : Nat) (m14 : Nat) (m15 : Nat) (m16 : Nat) (p1 : Int32) (p2 : Int32) (Hq : Heap)  : Met l yX8_least wsX8_least ({ frames := 2, cells := 0, slots := 0, locals := 45 }) (va_Pc [.ref mo, .int p1, .int p2] (fun U => U.heap = Hq ∧ va_P (dC, dI) vwCl [(mo, .inr (8, [.int 0, .ref m1, .ref m2, .ref m3, .long 0, .long 1, .ref m6, .ref m7, .ref m8, .ref m9, .ref m10, .ref m11, .ref m12, .ref m13, .ref m14, .ref m15, .ref m16]))] Hq ∧ va_K (dC, dI) vwCl [(cI, FieldType.int), (cJ, FieldType.long), (cZ, FieldType.boolean)] U ∧ mz_N U)) (va_Qi (fun (r : Int32) (_ : Unit) => r = (-1)) (fun _ t => t.heap = Hq) (fun _ : Nat => False)) 0 0 (fun _ : Nat => False) := by
  refine Met.ofW (cc := cX8_least) (maxL := 5) (ret := (some .int)) (by decide) rfl ?_
  intro p e s m args below meth c s₁ B hml hv
  obtain ⟨rfl, hH, hP, hK, hN⟩ := hv
  subst hH
  have hx := B.exec
  have hb := B.bytes
  have hr := B.returns
  have hts := atoms_spec (ws := wsX8_least) B.pre
  have hown : s.vm.findClass RX8 = some m.cls := findClass_of_methodNamed B.named
  have hlocks := B.notSynchronized
  have hS : va_S (fun _ : Nat => False) s.heap s.heap [] := va_S.rf
  have hl := lv_entry ([.ref mo, .int p1, .int p2]) (n := 5) (Nat.le_of_ble_eq_true rfl)
  rw [lg_entry_eq]
  generalize (lg_sl ([.ref mo, .int p1, .int p2]) ++ List.replicate (5 - (lg_sl ([.ref mo, .int p1, .int p2])).length) Slot.unset).toArray = ls at hl ⊢
  have hl : lv_has ls 5 [(0, .ref mo), (1, .int p1), (2, .int p2)] := hl
  refine lv_aload_n hx hb dX8_least_0 rfl (lv_at hl 0 rfl) ?_
  refine lv_iload_n hx hb dX8_least_1 rfl (lv_at hl 1 rfl) ?_
  refine lv_iload_n hx hb dX8_least_2 rfl (lv_at hl 2 rfl) ?_
  have hPc := hP.sub (ws' := [(mo, .inr (8, [.int 0, .ref m1, .ref m2, .ref m3, .long 0, .long 1, .ref m6, .ref m7, .ref m8, .ref m9, .ref m10, .ref m11, .ref m12, .ref m13, .ref m14, .ref m15, .ref m16]))]) [0] rfl
  refine va_calli (va_runV (As := [.int p1, .int p2]) (rest := []) ⟨hx, hb, hml, hown, hts⟩ (mz_M_works l dC dI cI cJ cZ mo m1 m2 m3 m6 m7 m8 m9 m10 m11 m12 m13 m14 m15 m16 p1 p2 s.heap ) (cwV 2 hts gX8_least_X8_works rfl rfl rfl (by decide +kernel) ⟨Nat.le_of_ble_eq_true rfl, Nat.le_of_ble_eq_true rfl⟩) ⟨fun a U g mk q => mz_blP q, va_recv hK hPc (ci := 8) (q0 := 0) rfl rfl, fun U hU hW => ⟨rfl, hU, hPc, va_K.moved hW.alike hK, mz_nw hW hN⟩⟩ rfl rfl hl.1 rfl (lv_room (Nat.le_of_ble_eq_true rfl)) dX8_least_3 ⟨Nat.le_of_ble_eq_true rfl, Nat.le_of_ble_eq_true rfl⟩) hS (fun q _ h => h.elim) (fun q h => h.elim) (fun r u t H1 locs ht hvm hw hB hz1 hk1 hS => ?_)
  have hE : s.heap = H1 := hB.symm.trans ht
  subst hE
  obtain rfl : r = 0 := hw
  refine lv_if_ne (tgt := 11) hx hb dX8_least_6 (by decide) (fun c_6 => absurd (by decide +kernel) c_6) (fun _ => ?_)
  refine lv_iconst (v := (-1)) hx hb dX8_least_9 (by decide +kernel) ?_
  refine W.widen (k := 0) (n := 0) (Nat.le_of_ble_eq_true rfl) (Nat.le_of_ble_eq_true rfl) ?_
  exact W.iret (v := (-1)) hx hb hr (fun t ht hW => ⟨⟨(-1), (), rfl, rfl, ht⟩, hS.F ht⟩) hS.2.2 dX8_least_10
set_option maxHeartbeats 1000000 in
set_option maxRecDepth 100000 in
theorem mz_M_leastAt (l : Launch) (dC : Nat → ClassId) (dI : Nat → Nat → Nat) (cI cJ cZ : ClassId) (mo : Nat) (m1 : Nat) (m2 : Nat) (m3 : Nat) (m6 : Nat) (m7 : Nat) (m8 : Nat) (m9 : Nat) (m10 : Nat) (m11 : Nat) (m12 : Nat) (m13 : Nat) (m14 : Nat) (m15 : Nat) (m16 : Nat) (p1 : Int32) (p2 : Int32) (p3 : Int32) (Hq : Heap)  : Met l yX8_leastAt wsX8_leastAt ({ frames := 2, cells := 0, slots := 0, locals := 45 }) (va_Pc [.ref mo, .int p1, .int p2, .int p3] (fun U => U.heap = Hq ∧ va_P (dC, dI) vwCl [(mo, .inr (8, [.int 0, .ref m1, .ref m2, .ref m3, .long 0, .long 1, .ref m6, .ref m7, .ref m8, .ref m9, .ref m10, .ref m11, .ref m12, .ref m13, .ref m14, .ref m15, .ref m16]))] Hq ∧ va_K (dC, dI) vwCl [(cI, FieldType.int), (cJ, FieldType.long), (cZ, FieldType.boolean)] U ∧ mz_N U)) (va_Qi (fun (r : Int32) (_ : Unit) => r = (-1)) (fun _ t => t.heap = Hq) (fun _ : Nat => False)) 0 0 (fun _ : Nat => False) := by
  refine Met.ofW (cc := cX8_leastAt) (maxL := 6) (ret := (some .int)) (by decide) rfl ?_
  intro p e s m args below meth c s₁ B hml hv
  obtain ⟨rfl, hH, hP, hK, hN⟩ := hv
  subst hH
  have hx := B.exec
  have hb := B.bytes
  have hr := B.returns
  have hts := atoms_spec (ws := wsX8_leastAt) B.pre
  have hown : s.vm.findClass RX8 = some m.cls := findClass_of_methodNamed B.named
  have hlocks := B.notSynchronized
  have hS : va_S (fun _ : Nat => False) s.heap s.heap [] := va_S.rf
  have hl := lv_entry ([.ref mo, .int p1, .int p2, .int p3]) (n := 6) (Nat.le_of_ble_eq_true rfl)
  rw [lg_entry_eq]
  generalize (lg_sl ([.ref mo, .int p1, .int p2, .int p3]) ++ List.replicate (6 - (lg_sl ([.ref mo, .int p1, .int p2, .int p3])).length) Slot.unset).toArray = ls at hl ⊢
  have hl : lv_has ls 6 [(0, .ref mo), (1, .int p1), (2, .int p2), (3, .int p3)] := hl
  refine lv_iload_n hx hb dX8_leastAt_0 rfl (lv_at hl 3 rfl) ?_
  refine lv_if_lt (tgt := 13) hx hb dX8_leastAt_1 (by decide) (fun c_1 => ?_) (fun c_1 => ?_)
  · skip
    refine lv_iconst (v := (-1)) hx hb dX8_leastAt_13 (by decide +kernel) ?_
    refine W.widen (k := 0) (n := 0) (Nat.le_of_ble_eq_true rfl) (Nat.le_of_ble_eq_true rfl) ?_
    exact W.iret (v := (-1)) hx hb hr (fun t ht hW => ⟨⟨(-1), (), rfl, rfl, ht⟩, hS.F ht⟩) hS.2.2 dX8_leastAt_14
  · skip
    refine lv_aload_n hx hb dX8_leastAt_4 rfl (lv_at hl 0 rfl) ?_
    refine lv_iload_n hx hb dX8_leastAt_5 rfl (lv_at hl 1 rfl) ?_
    refine lv_iload_n hx hb dX8_leastAt_6 rfl (lv_at hl 2 rfl) ?_
    have hPc := hP.sub (ws' := [(mo, .inr (8, [.int 0, .ref m1, .ref m2, .ref m3, .long 0, .long 1, .ref m6, .ref m7, .ref m8, .ref m9, .ref m10, .ref m11, .ref m12, .ref m13, .ref m14, .ref m15, .ref m16]))]) [0] rfl
    refine va_calli (va_runV (As := [.int p1, .int p2]) (rest := []) ⟨hx, hb, hml, hown, hts⟩ (mz_M_works l dC dI cI cJ cZ mo m1 m2 m3 m6 m7 m8 m9 m10 m11 m12 m13 m14 m15 m16 p1 p2 s.heap ) (cwV 2 hts gX8_leastAt_X8_works rfl rfl rfl (by decide +kernel) ⟨Nat.le_of_ble_eq_true rfl, Nat.le_of_ble_eq_true rfl⟩) ⟨fun a U g mk q => mz_blP q, va_recv hK hPc (ci := 8) (q0 := 0) rfl rfl, fun U hU hW => ⟨rfl, hU, hPc, va_K.moved hW.alike hK, mz_nw hW hN⟩⟩ rfl rfl hl.1 rfl (lv_room (Nat.le_of_ble_eq_true rfl)) dX8_leastAt_7 ⟨Nat.le_of_ble_eq_true rfl, Nat.le_of_ble_eq_true rfl⟩) hS (fun q _ h => h.elim) (fun q h => h.elim) (fun r u t H1 locs ht hvm hw hB hz1 hk1 hS => ?_)
    have hE : s.heap = H1 := hB.symm.trans ht
    subst hE
    obtain rfl : r = 0 := hw
    refine lv_if_ne (tgt := 15) hx hb dX8_leastAt_10 (by decide) (fun c_10 => absurd (by decide +kernel) c_10) (fun _ => ?_)
    refine lv_iconst (v := (-1)) hx hb dX8_leastAt_13 (by decide +kernel) ?_
    refine W.widen (k := 0) (n := 0) (Nat.le_of_ble_eq_true rfl) (Nat.le_of_ble_eq_true rfl) ?_
    exact W.iret (v := (-1)) hx hb hr (fun t ht hW => ⟨⟨(-1), (), rfl, rfl, ht⟩, hS.F ht⟩) hS.2.2 dX8_leastAt_14
set_option maxHeartbeats 1000000 in
set_option maxRecDepth 100000 in
theorem mz_M_fit (l : Launch) (dC : Nat → ClassId) (dI : Nat → Nat → Nat) (cI cJ cZ : ClassId) (mo : Nat) (m1 : Nat) (m2 : Nat) (m3 : Nat) (m6 : Nat) (m7 : Nat) (m8 : Nat) (m9 : Nat) (m10 : Nat) (m11 : Nat) (m12 : Nat) (m13 : Nat) (m14 : Nat) (m15 : Nat) (m16 : Nat) (p1 : Int32) (p2 : Int32) (p3 : Int32) (Hq : Heap)  : Met l yX8_fit wsX8_fit ({ frames := 1, cells := 0, slots := 0, locals := 21 }) (va_Pc [.ref mo, .int p1, .int p2, .int p3] (fun U => U.heap = Hq ∧ va_P (dC, dI) vwCl [(mo, .inr (8, [.int 0, .ref m1, .ref m2, .ref m3, .long 0, .long 1, .ref m6, .ref m7, .ref m8, .ref m9, .ref m10, .ref m11, .ref m12, .ref m13, .ref m14, .ref m15, .ref m16]))] Hq ∧ va_K (dC, dI) vwCl [(cI, FieldType.int), (cJ, FieldType.long), (cZ, FieldType.boolean)] U ∧ mz_N U)) (va_Qi (fun (r : Int32) (_ : Unit) => r = 0) (fun _ t => t.heap = Hq) (fun _ : Nat => False)) 0 0 (fun _ : Nat => False) := by
  refine Met.ofW (cc := cX8_fit) (maxL := 7) (ret := (some .boolean)) (by decide) rfl ?_
  intro p e s m args below meth c s₁ B hml hv
  obtain ⟨rfl, hH, hP, hK, hN⟩ := hv
  subst hH
  have hx := B.exec
  have hb := B.bytes
  have hr := B.returns
  have hts := atoms_spec (ws := wsX8_fit) B.pre
  have hown : s.vm.findClass RX8 = some m.cls := findClass_of_methodNamed B.named
  have hlocks := B.notSynchronized
  have hS : va_S (fun _ : Nat => False) s.heap s.heap [] := va_S.rf
  have hl := lv_entry ([.ref mo, .int p1, .int p2, .int p3]) (n := 7) (Nat.le_of_ble_eq_true rfl)
  rw [lg_entry_eq]
  generalize (lg_sl ([.ref mo, .int p1, .int p2, .int p3]) ++ List.replicate (7 - (lg_sl ([.ref mo, .int p1, .int p2, .int p3])).length) Slot.unset).toArray = ls at hl ⊢
  have hl : lv_has ls 7 [(0, .ref mo), (1, .int p1), (2, .int p2), (3, .int p3)] := hl
  refine lv_aload_n hx hb dX8_fit_0 rfl (lv_at hl 0 rfl) ?_
  refine lv_iload_n hx hb dX8_fit_1 rfl (lv_at hl 1 rfl) ?_
  have hPc := hP.sub (ws' := [(mo, .inr (8, [.int 0, .ref m1, .ref m2, .ref m3, .long 0, .long 1, .ref m6, .ref m7, .ref m8, .ref m9, .ref m10, .ref m11, .ref m12, .ref m13, .ref m14, .ref m15, .ref m16]))]) [0] rfl
  refine va_calli (va_runV (As := [.int p1]) (rest := []) ⟨hx, hb, hml, hown, hts⟩ (mz_M_isThing l dC dI cI cJ cZ mo m1 m2 m3 m6 m7 m8 m9 m10 m11 m12 m13 m14 m15 m16 p1 s.heap ) (cwV 1 hts gX8_fit_X8_isThing rfl rfl rfl (by decide +kernel) ⟨Nat.le_of_ble_eq_true rfl, Nat.le_of_ble_eq_true rfl⟩) ⟨fun a U g mk q => mz_blP q, va_recv hK hPc (ci := 8) (q0 := 0) rfl rfl, fun U hU hW => ⟨rfl, hU, hPc, va_K.moved hW.alike hK, mz_nw hW hN⟩⟩ rfl rfl hl.1 rfl (lv_room (Nat.le_of_ble_eq_true rfl)) dX8_fit_2 ⟨Nat.le_of_ble_eq_true rfl, Nat.le_of_ble_eq_true rfl⟩) hS (fun q _ h => h.elim) (fun q h => h.elim) (fun r u t H1 locs ht hvm hw hB hz1 hk1 hS => ?_)
  have hE : s.heap = H1 := hB.symm.trans ht
  subst hE
  obtain rfl : r = 0 := hw
  refine lv_if_eq (tgt := 58) hx hb dX8_fit_5 (by decide) (fun _ => ?_) (fun c_5 => absurd (by decide +kernel) c_5)
  refine lv_iconst (v := 0) hx hb dX8_fit_58 (by decide +kernel) ?_
  refine W.widen (k := 0) (n := 0) (Nat.le_of_ble_eq_true rfl) (Nat.le_of_ble_eq_true rfl) ?_
  exact W.zret (v := 0) hx hb hr (mz_nz (by decide +kernel)) (fun t ht hW => ⟨⟨0, (), rfl, rfl, ht⟩, hS.F ht⟩) hS.2.2 dX8_fit_59
set_option maxHeartbeats 1000000 in
set_option maxRecDepth 100000 in
theorem mz_M_agrees (l : Launch) (dC : Nat → ClassId) (dI : Nat → Nat → Nat) (cI cJ cZ : ClassId) (mo : Nat) (m1 : Nat) (m2 : Nat) (m3 : Nat) (m6 : Nat) (m7 : Nat) (m8 : Nat) (m9 : Nat) (m10 : Nat) (m11 : Nat) (m12 : Nat) (m13 : Nat) (m14 : Nat) (m15 : Nat) (m16 : Nat) (p1 : Int32) (p2 : Int32) (p3 : Int32) (p4 : Int32) (p5 : Int32) (Hq : Heap)  : Met l yX8_agrees wsX8_agrees ({ frames := 1, cells := 0, slots := 0, locals := 21 }) (va_Pc [.ref mo, .int p1, .int p2, .int p3, .int p4, .int p5] (fun U => U.heap = Hq ∧ va_P (dC, dI) vwCl [(mo, .inr (8, [.int 0, .ref m1, .ref m2, .ref m3, .long 0, .long 1, .ref m6, .ref m7, .ref m8, .ref m9, .ref m10, .ref m11, .ref m12, .ref m13, .ref m14, .ref m15, .ref m16]))] Hq ∧ va_K (dC, dI) vwCl [(cI, FieldType.int), (cJ, FieldType.long), (cZ, FieldType.boolean)] U ∧ mz_N U)) (va_Qi (fun (r : Int32) (_ : Unit) => r = (-1)) (fun _ t => t.heap = Hq) (fun _ : Nat => False)) 0 0 (fun _ : Nat => False) := by
  refine Met.ofW (cc := cX8_agrees) (maxL := 24) (ret := (some .int)) (by decide) rfl ?_
  intro p e s m args below meth c s₁ B hml hv
  obtain ⟨rfl, hH, hP, hK, hN⟩ := hv
  subst hH
  have hx := B.exec
  have hb := B.bytes
  have hr := B.returns
  have hts := atoms_spec (ws := wsX8_agrees) B.pre
  have hown : s.vm.findClass RX8 = some m.cls := findClass_of_methodNamed B.named
  have hlocks := B.notSynchronized
  have hS : va_S (fun _ : Nat => False) s.heap s.heap [] := va_S.rf
  have hl := lv_entry ([.ref mo, .int p1, .int p2, .int p3, .int p4, .int p5]) (n := 24) (Nat.le_of_ble_eq_true rfl)
  rw [lg_entry_eq]
  generalize (lg_sl ([.ref mo, .int p1, .int p2, .int p3, .int p4, .int p5]) ++ List.replicate (24 - (lg_sl ([.ref mo, .int p1, .int p2, .int p3, .int p4, .int p5])).length) Slot.unset).toArray = ls at hl ⊢
  have hl : lv_has ls 24 [(0, .ref mo), (1, .int p1), (2, .int p2), (3, .int p3), (4, .int p4), (5, .int p5)] := hl
  refine lv_aload_n hx hb dX8_agrees_0 rfl (lv_at hl 0 rfl) ?_
  refine lv_iload_n hx hb dX8_agrees_1 rfl (lv_at hl 1 rfl) ?_
  have hPc := hP.sub (ws' := [(mo, .inr (8, [.int 0, .ref m1, .ref m2, .ref m3, .long 0, .long 1, .ref m6, .ref m7, .ref m8, .ref m9, .ref m10, .ref m11, .ref m12, .ref m13, .ref m14, .ref m15, .ref m16]))]) [0] rfl
  refine va_calli (va_runV (As := [.int p1]) (rest := []) ⟨hx, hb, hml, hown, hts⟩ (mz_M_isThing l dC dI cI cJ cZ mo m1 m2 m3 m6 m7 m8 m9 m10 m11 m12 m13 m14 m15 m16 p1 s.heap ) (cwV 1 hts gX8_agrees_X8_isThing rfl rfl rfl (by decide +kernel) ⟨Nat.le_of_ble_eq_true rfl, Nat.le_of_ble_eq_true rfl⟩) ⟨fun a U g mk q => mz_blP q, va_recv hK hPc (ci := 8) (q0 := 0) rfl rfl, fun U hU hW => ⟨rfl, hU, hPc, va_K.moved hW.alike hK, mz_nw hW hN⟩⟩ rfl rfl hl.1 rfl (lv_room (Nat.le_of_ble_eq_true rfl)) dX8_agrees_2 ⟨Nat.le_of_ble_eq_true rfl, Nat.le_of_ble_eq_true rfl⟩) hS (fun q _ h => h.elim) (fun q h => h.elim) (fun r u t H1 locs ht hvm hw hB hz1 hk1 hS => ?_)
  have hE : s.heap = H1 := hB.symm.trans ht
  subst hE
  obtain rfl : r = 0 := hw
  refine lv_if_eq (tgt := 69) hx hb dX8_agrees_5 (by decide) (fun _ => ?_) (fun c_5 => absurd (by decide +kernel) c_5)
  refine lv_iconst (v := (-1)) hx hb dX8_agrees_69 (by decide +kernel) ?_
  refine W.widen (k := 0) (n := 0) (Nat.le_of_ble_eq_true rfl) (Nat.le_of_ble_eq_true rfl) ?_
  exact W.iret (v := (-1)) hx hb hr (fun t ht hW => ⟨⟨(-1), (), rfl, rfl, ht⟩, hS.F ht⟩) hS.2.2 dX8_agrees_70
set_option maxHeartbeats 1000000 in
set_option maxRecDepth 100000 in
theorem mz_M_fixed (l : Launch) (dC : Nat → ClassId) (dI : Nat → Nat → Nat) (cI cJ cZ : ClassId) (mo : Nat) (m1 : Nat) (m2 : Nat) (m3 : Nat) (m6 : Nat) (m7 : Nat) (m8 : Nat) (m9 : Nat) (m10 : Nat) (m11 : Nat) (m12 : Nat) (m13 : Nat) (m14 : Nat) (m15 : Nat) (m16 : Nat) (p1 : Int32) (p2 : Int32) (Hq : Heap)  : Met l yX8_fixed wsX8_fixed ({ frames := 2, cells := 0, slots := 0, locals := 43 }) (va_Pc [.ref mo, .int p1, .int p2] (fun U => U.heap = Hq ∧ va_P (dC, dI) vwCl [(mo, .inr (8, [.int 0, .ref m1, .ref m2, .ref m3, .long 0, .long 1, .ref m6, .ref m7, .ref m8, .ref m9, .ref m10, .ref m11, .ref m12, .ref m13, .ref m14, .ref m15, .ref m16]))] Hq ∧ va_K (dC, dI) vwCl [(cI, FieldType.int), (cJ, FieldType.long), (cZ, FieldType.boolean)] U ∧ mz_N U)) (va_Qi (fun (r : Int32) (_ : Unit) => r = 0) (fun _ t => t.heap = Hq) (fun _ : Nat => False)) 0 0 (fun _ : Nat => False) := by
  refine Met.ofW (cc := cX8_fixed) (maxL := 3) (ret := (some .boolean)) (by decide) rfl ?_
  intro p e s m args below meth c s₁ B hml hv
  obtain ⟨rfl, hH, hP, hK, hN⟩ := hv
  subst hH
  have hx := B.exec
  have hb := B.bytes
  have hr := B.returns
  have hts := atoms_spec (ws := wsX8_fixed) B.pre
  have hown : s.vm.findClass RX8 = some m.cls := findClass_of_methodNamed B.named
  have hlocks := B.notSynchronized
  have hS : va_S (fun _ : Nat => False) s.heap s.heap [] := va_S.rf
  have hl := lv_entry ([.ref mo, .int p1, .int p2]) (n := 3) (Nat.le_of_ble_eq_true rfl)
  rw [lg_entry_eq]
  generalize (lg_sl ([.ref mo, .int p1, .int p2]) ++ List.replicate (3 - (lg_sl ([.ref mo, .int p1, .int p2])).length) Slot.unset).toArray = ls at hl ⊢
  have hl : lv_has ls 3 [(0, .ref mo), (1, .int p1), (2, .int p2)] := hl
  refine lv_aload_n hx hb dX8_fixed_0 rfl (lv_at hl 0 rfl) ?_
  refine lv_iload_n hx hb dX8_fixed_1 rfl (lv_at hl 1 rfl) ?_
  refine lv_iload_n hx hb dX8_fixed_2 rfl (lv_at hl 2 rfl) ?_
  have hPc := hP.sub (ws' := [(mo, .inr (8, [.int 0, .ref m1, .ref m2, .ref m3, .long 0, .long 1, .ref m6, .ref m7, .ref m8, .ref m9, .ref m10, .ref m11, .ref m12, .ref m13, .ref m14, .ref m15, .ref m16]))]) [0] rfl
  refine va_calli (va_runV (As := [.int p1, .int p2]) (rest := []) ⟨hx, hb, hml, hown, hts⟩ (mz_M_has l dC dI cI cJ cZ mo m1 m2 m3 m6 m7 m8 m9 m10 m11 m12 m13 m14 m15 m16 p1 p2 s.heap ) (cwV 2 hts gX8_fixed_X8_has rfl rfl rfl (by decide +kernel) ⟨Nat.le_of_ble_eq_true rfl, Nat.le_of_ble_eq_true rfl⟩) ⟨fun a U g mk q => mz_blP q, va_recv hK hPc (ci := 8) (q0 := 0) rfl rfl, fun U hU hW => ⟨rfl, hU, hPc, va_K.moved hW.alike hK, mz_nw hW hN⟩⟩ rfl rfl hl.1 rfl (lv_room (Nat.le_of_ble_eq_true rfl)) dX8_fixed_3 ⟨Nat.le_of_ble_eq_true rfl, Nat.le_of_ble_eq_true rfl⟩) hS (fun q _ h => h.elim) (fun q h => h.elim) (fun r u t H1 locs ht hvm hw hB hz1 hk1 hS => ?_)
  have hE : s.heap = H1 := hB.symm.trans ht
  subst hE
  obtain rfl : r = 0 := hw
  refine lv_if_ne (tgt := 11) hx hb dX8_fixed_6 (by decide) (fun c_6 => absurd (by decide +kernel) c_6) (fun _ => ?_)
  refine lv_iconst (v := 0) hx hb dX8_fixed_9 (by decide +kernel) ?_
  refine W.widen (k := 0) (n := 0) (Nat.le_of_ble_eq_true rfl) (Nat.le_of_ble_eq_true rfl) ?_
  exact W.zret (v := 0) hx hb hr (mz_nz (by decide +kernel)) (fun t ht hW => ⟨⟨0, (), rfl, rfl, ht⟩, hS.F ht⟩) hS.2.2 dX8_fixed_10
set_option maxHeartbeats 1000000 in
set_option maxRecDepth 100000 in
theorem mz_M_otherwise (l : Launch) (dC : Nat → ClassId) (dI : Nat → Nat → Nat) (cI cJ cZ : ClassId) (mo : Nat) (m1 : Nat) (m2 : Nat) (m3 : Nat) (m6 : Nat) (m7 : Nat) (m8 : Nat) (m9 : Nat) (m10 : Nat) (m11 : Nat) (m12 : Nat) (m13 : Nat) (m14 : Nat) (m15 : Nat) (m16 : Nat) (p1 : Int32) (p2 : Int32) (p3 : Int32) (Hq : Heap)  : Met l yX8_otherwise wsX8_otherwise ({ frames := 1, cells := 0, slots := 0, locals := 21 }) (va_Pc [.ref mo, .int p1, .int p2, .int p3] (fun U => U.heap = Hq ∧ va_P (dC, dI) vwCl [(mo, .inr (8, [.int 0, .ref m1, .ref m2, .ref m3, .long 0, .long 1, .ref m6, .ref m7, .ref m8, .ref m9, .ref m10, .ref m11, .ref m12, .ref m13, .ref m14, .ref m15, .ref m16]))] Hq ∧ va_K (dC, dI) vwCl [(cI, FieldType.int), (cJ, FieldType.long), (cZ, FieldType.boolean)] U ∧ mz_N U)) (va_Ql (fun (r : Int64) (_ : Unit) => r = (-1)) (fun _ t => t.heap = Hq) (fun _ : Nat => False)) 0 0 (fun _ : Nat => False) := by
  refine Met.ofW (cc := cX8_otherwise) (maxL := 20) (ret := (some .long)) (by decide) rfl ?_
  intro p e s m args below meth c s₁ B hml hv
  obtain ⟨rfl, hH, hP, hK, hN⟩ := hv
  subst hH
  have hx := B.exec
  have hb := B.bytes
  have hr := B.returns
  have hts := atoms_spec (ws := wsX8_otherwise) B.pre
  have hown : s.vm.findClass RX8 = some m.cls := findClass_of_methodNamed B.named
  have hlocks := B.notSynchronized
  have hS : va_S (fun _ : Nat => False) s.heap s.heap [] := va_S.rf
  have hl := lv_entry ([.ref mo, .int p1, .int p2, .int p3]) (n := 20) (Nat.le_of_ble_eq_true rfl)
  rw [lg_entry_eq]
  generalize (lg_sl ([.ref mo, .int p1, .int p2, .int p3]) ++ List.replicate (20 - (lg_sl ([.ref mo, .int p1, .int p2, .int p3])).length) Slot.unset).toArray = ls at hl ⊢
  have hl : lv_has ls 20 [(0, .ref mo), (1, .int p1), (2, .int p2), (3, .int p3)] := hl
  refine lv_aload_n hx hb dX8_otherwise_0 rfl (lv_at hl 0 rfl) ?_
  refine lv_iload_n hx hb dX8_otherwise_1 rfl (lv_at hl 1 rfl) ?_
  have hPc := hP.sub (ws' := [(mo, .inr (8, [.int 0, .ref m1, .ref m2, .ref m3, .long 0, .long 1, .ref m6, .ref m7, .ref m8, .ref m9, .ref m10, .ref m11, .ref m12, .ref m13, .ref m14, .ref m15, .ref m16]))]) [0] rfl
  refine va_calli (va_runV (As := [.int p1]) (rest := []) ⟨hx, hb, hml, hown, hts⟩ (mz_M_isThing l dC dI cI cJ cZ mo m1 m2 m3 m6 m7 m8 m9 m10 m11 m12 m13 m14 m15 m16 p1 s.heap ) (cwV 1 hts gX8_otherwise_X8_isThing rfl rfl rfl (by decide +kernel) ⟨Nat.le_of_ble_eq_true rfl, Nat.le_of_ble_eq_true rfl⟩) ⟨fun a U g mk q => mz_blP q, va_recv hK hPc (ci := 8) (q0 := 0) rfl rfl, fun U hU hW => ⟨rfl, hU, hPc, va_K.moved hW.alike hK, mz_nw hW hN⟩⟩ rfl rfl hl.1 rfl (lv_room (Nat.le_of_ble_eq_true rfl)) dX8_otherwise_2 ⟨Nat.le_of_ble_eq_true rfl, Nat.le_of_ble_eq_true rfl⟩) hS (fun q _ h => h.elim) (fun q h => h.elim) (fun r u t H1 locs ht hvm hw hB hz1 hk1 hS => ?_)
  have hE : s.heap = H1 := hB.symm.trans ht
  subst hE
  obtain rfl : r = 0 := hw
  refine lv_if_eq (tgt := 30) hx hb dX8_otherwise_5 (by decide) (fun _ => ?_) (fun c_5 => absurd (by decide +kernel) c_5)
  refine lv_ldc2 hx hb hown (hts (.constantLong RX8 108 (-1)) (by decide +kernel)) dX8_otherwise_30 ?_
  refine W.widen (k := 0) (n := 0) (Nat.le_of_ble_eq_true rfl) (Nat.le_of_ble_eq_true rfl) ?_
  exact W.lret (v := (-1)) hx hb hr (fun t ht hW => ⟨⟨(-1), (), rfl, rfl, ht⟩, hS.F ht⟩) hS.2.2 dX8_otherwise_33
set_option maxHeartbeats 1000000 in
set_option maxRecDepth 100000 in
theorem mz_M_above (l : Launch) (dC : Nat → ClassId) (dI : Nat → Nat → Nat) (cI cJ cZ : ClassId) (mo : Nat) (m1 : Nat) (m2 : Nat) (m3 : Nat) (m6 : Nat) (m7 : Nat) (m8 : Nat) (m9 : Nat) (m10 : Nat) (m11 : Nat) (m12 : Nat) (m13 : Nat) (m14 : Nat) (m15 : Nat) (m16 : Nat) (Hq : Heap)  : Met l yX8_above wsX8_above ({ frames := 0, cells := 0, slots := 0, locals := 0 }) (va_Pc [.ref mo] (fun U => U.heap = Hq ∧ va_P (dC, dI) vwCl [(mo, .inr (8, [.int 0, .ref m1, .ref m2, .ref m3, .long 0, .long 1, .ref m6, .ref m7, .ref m8, .ref m9, .ref m10, .ref m11, .ref m12, .ref m13, .ref m14, .ref m15, .ref m16]))] Hq ∧ va_K (dC, dI) vwCl [(cI, FieldType.int), (cJ, FieldType.long), (cZ, FieldType.boolean)] U ∧ mz_N U)) (va_Ql (fun (r : Int64) (_ : Unit) => r = 0) (fun _ t => t.heap = Hq) (fun _ : Nat => False)) 0 0 (fun _ : Nat => False) := by
  refine Met.ofW (cc := cX8_above) (maxL := 1) (ret := (some .long)) (by decide) rfl ?_
  intro p e s m args below meth c s₁ B hml hv
  obtain ⟨rfl, hH, hP, hK, hN⟩ := hv
  subst hH
  have hx := B.exec
  have hb := B.bytes
  have hr := B.returns
  have hts := atoms_spec (ws := wsX8_above) B.pre
  have hown : s.vm.findClass RX8 = some m.cls := findClass_of_methodNamed B.named
  have hlocks := B.notSynchronized
  have hS : va_S (fun _ : Nat => False) s.heap s.heap [] := va_S.rf
  have hiX8 : ∀ w ∈ u_ws RX8 TX8 17, w ∈ wsX8_above := by decide +kernel
  have hl := lv_entry ([.ref mo]) (n := 1) (Nat.le_of_ble_eq_true rfl)
  rw [lg_entry_eq]
  generalize (lg_sl ([.ref mo]) ++ List.replicate (1 - (lg_sl ([.ref mo])).length) Slot.unset).toArray = ls at hl ⊢
  have hl : lv_has ls 1 [(0, .ref mo)] := hl
  refine lv_aload_n hx hb dX8_above_0 rfl (lv_at hl 0 rfl) ?_
  refine va_get (D := (dC, dI)) (ci := 8) (v := .long 0) (C := RX8) (T := TX8) (N := 17) hx hb hts hiX8 hown hK hP 0 rfl rfl 4 (by decide) (hts (.fieldLink RX8 110 "MadeItSoModel" "above" "J") (by decide +kernel)) (fun _ h9 => h9) rfl dX8_above_1 ?_
  refine W.widen (k := 0) (n := 0) (Nat.le_of_ble_eq_true rfl) (Nat.le_of_ble_eq_true rfl) ?_
  exact W.lret (v := 0) hx hb hr (fun t ht hW => ⟨⟨0, (), rfl, rfl, ht⟩, hS.F ht⟩) hS.2.2 dX8_above_4
set_option maxHeartbeats 1000000 in
set_option maxRecDepth 100000 in
theorem mz_M_below (l : Launch) (dC : Nat → ClassId) (dI : Nat → Nat → Nat) (cI cJ cZ : ClassId) (mo : Nat) (m1 : Nat) (m2 : Nat) (m3 : Nat) (m6 : Nat) (m7 : Nat) (m8 : Nat) (m9 : Nat) (m10 : Nat) (m11 : Nat) (m12 : Nat) (m13 : Nat) (m14 : Nat) (m15 : Nat) (m16 : Nat) (Hq : Heap)  : Met l yX8_below wsX8_below ({ frames := 0, cells := 0, slots := 0, locals := 0 }) (va_Pc [.ref mo] (fun U => U.heap = Hq ∧ va_P (dC, dI) vwCl [(mo, .inr (8, [.int 0, .ref m1, .ref m2, .ref m3, .long 0, .long 1, .ref m6, .ref m7, .ref m8, .ref m9, .ref m10, .ref m11, .ref m12, .ref m13, .ref m14, .ref m15, .ref m16]))] Hq ∧ va_K (dC, dI) vwCl [(cI, FieldType.int), (cJ, FieldType.long), (cZ, FieldType.boolean)] U ∧ mz_N U)) (va_Ql (fun (r : Int64) (_ : Unit) => r = 1) (fun _ t => t.heap = Hq) (fun _ : Nat => False)) 0 0 (fun _ : Nat => False) := by
  refine Met.ofW (cc := cX8_below) (maxL := 1) (ret := (some .long)) (by decide) rfl ?_
  intro p e s m args below meth c s₁ B hml hv
  obtain ⟨rfl, hH, hP, hK, hN⟩ := hv
  subst hH
  have hx := B.exec
  have hb := B.bytes
  have hr := B.returns
  have hts := atoms_spec (ws := wsX8_below) B.pre
  have hown : s.vm.findClass RX8 = some m.cls := findClass_of_methodNamed B.named
  have hlocks := B.notSynchronized
  have hS : va_S (fun _ : Nat => False) s.heap s.heap [] := va_S.rf
  have hiX8 : ∀ w ∈ u_ws RX8 TX8 17, w ∈ wsX8_below := by decide +kernel
  have hl := lv_entry ([.ref mo]) (n := 1) (Nat.le_of_ble_eq_true rfl)
  rw [lg_entry_eq]
  generalize (lg_sl ([.ref mo]) ++ List.replicate (1 - (lg_sl ([.ref mo])).length) Slot.unset).toArray = ls at hl ⊢
  have hl : lv_has ls 1 [(0, .ref mo)] := hl
  refine lv_aload_n hx hb dX8_below_0 rfl (lv_at hl 0 rfl) ?_
  refine va_get (D := (dC, dI)) (ci := 8) (v := .long 1) (C := RX8) (T := TX8) (N := 17) hx hb hts hiX8 hown hK hP 0 rfl rfl 5 (by decide) (hts (.fieldLink RX8 20 "MadeItSoModel" "below" "J") (by decide +kernel)) (fun _ h9 => h9) rfl dX8_below_1 ?_
  refine W.widen (k := 0) (n := 0) (Nat.le_of_ble_eq_true rfl) (Nat.le_of_ble_eq_true rfl) ?_
  exact W.lret (v := 1) hx hb hr (fun t ht hW => ⟨⟨1, (), rfl, rfl, ht⟩, hS.F ht⟩) hS.2.2 dX8_below_4
set_option maxHeartbeats 1000000 in
set_option maxRecDepth 100000 in
theorem mz_M_draw (l : Launch) (dC : Nat → ClassId) (dI : Nat → Nat → Nat) (cI cJ cZ : ClassId) (mo : Nat) (m1 : Nat) (m2 : Nat) (m3 : Nat) (m6 : Nat) (m7 : Nat) (m8 : Nat) (m9 : Nat) (m10 : Nat) (m11 : Nat) (m12 : Nat) (m13 : Nat) (m14 : Nat) (m15 : Nat) (m16 : Nat) (p1 : Int32) (p2 : Int32) (Hq : Heap)  : Met l yX8_draw wsX8_draw ({ frames := 2, cells := 0, slots := 0, locals := 42 }) (va_Pc [.ref mo, .int p1, .int p2] (fun U => U.heap = Hq ∧ va_P (dC, dI) vwCl [(mo, .inr (8, [.int 0, .ref m1, .ref m2, .ref m3, .long 0, .long 1, .ref m6, .ref m7, .ref m8, .ref m9, .ref m10, .ref m11, .ref m12, .ref m13, .ref m14, .ref m15, .ref m16]))] Hq ∧ va_K (dC, dI) vwCl [(cI, FieldType.int), (cJ, FieldType.long), (cZ, FieldType.boolean)] U ∧ mz_N U)) (va_Qi (fun (r : Int32) (_ : Unit) => r = (if p2 = 0 then 0 else (-1))) (fun _ t => t.heap = Hq) (fun _ : Nat => False)) 0 0 (fun _ : Nat => False) := by
  refine Met.ofW (cc := cX8_draw) (maxL := 9) (ret := (some .int)) (by decide) rfl ?_
  intro p e s m args below meth c s₁ B hml hv
  obtain ⟨rfl, hH, hP, hK, hN⟩ := hv
  subst hH
  have hx := B.exec
  have hb := B.bytes
  have hr := B.returns
  have hts := atoms_spec (ws := wsX8_draw) B.pre
  have hown : s.vm.findClass RX8 = some m.cls := findClass_of_methodNamed B.named
  have hlocks := B.notSynchronized
  have hS : va_S (fun _ : Nat => False) s.heap s.heap [] := va_S.rf
  have hiX8 : ∀ w ∈ u_ws RX8 TX8 17, w ∈ wsX8_draw := by decide +kernel
  have hl := lv_entry ([.ref mo, .int p1, .int p2]) (n := 9) (Nat.le_of_ble_eq_true rfl)
  rw [lg_entry_eq]
  generalize (lg_sl ([.ref mo, .int p1, .int p2]) ++ List.replicate (9 - (lg_sl ([.ref mo, .int p1, .int p2])).length) Slot.unset).toArray = ls at hl ⊢
  have hl : lv_has ls 9 [(0, .ref mo), (1, .int p1), (2, .int p2)] := hl
  refine lv_aload_n hx hb dX8_draw_0 rfl (lv_at hl 0 rfl) ?_
  refine lv_iload_n hx hb dX8_draw_1 rfl (lv_at hl 2 rfl) ?_
  by_cases hz_2 : p2 = 0
  · subst hz_2
    have hPc := hP.sub (ws' := [(mo, .inr (8, [.int 0, .ref m1, .ref m2, .ref m3, .long 0, .long 1, .ref m6, .ref m7, .ref m8, .ref m9, .ref m10, .ref m11, .ref m12, .ref m13, .ref m14, .ref m15, .ref m16]))]) [0] rfl
    refine va_calli (va_runV (As := [.int 0]) (rest := []) ⟨hx, hb, hml, hown, hts⟩ (mz_M_isSetting_0 l dC dI cI cJ cZ mo m1 m2 m3 m6 m7 m8 m9 m10 m11 m12 m13 m14 m15 m16 0 1 s.heap ) (cwV 1 hts gX8_draw_X8_isSetting rfl rfl rfl (by decide +kernel) ⟨Nat.le_of_ble_eq_true rfl, Nat.le_of_ble_eq_true rfl⟩) ⟨fun a U g mk q => mz_blP q, va_recv hK hPc (ci := 8) (q0 := 0) rfl rfl, fun U hU hW => ⟨rfl, hU, hPc, va_K.moved hW.alike hK, mz_nw hW hN⟩⟩ rfl rfl hl.1 rfl (lv_room (Nat.le_of_ble_eq_true rfl)) dX8_draw_2 ⟨Nat.le_of_ble_eq_true rfl, Nat.le_of_ble_eq_true rfl⟩) hS (fun q _ h => h.elim) (fun q h => h.elim) (fun r u t H1 locs ht hvm hw hB hz1 hk1 hS => ?_)
    have hE : s.heap = H1 := hB.symm.trans ht
    subst hE
    obtain rfl : r = 1 := hw
    refine lv_if_ne (tgt := 10) hx hb dX8_draw_5 (by decide) (fun _ => ?_) (fun c_5 => absurd c_5 (by decide +kernel))
    refine lv_iload_n hx hb dX8_draw_10 rfl (lv_at hl 1 rfl) ?_
    refine lv_istore_n (lv' := [(3, .int p1), (0, .ref mo), (1, .int p1), (2, .int 0)]) hx hb dX8_draw_11 rfl hl (by decide) rfl (fun ls hl => ?_)
    refine lv_iconst (v := 0) hx hb dX8_draw_12 (by decide +kernel) ?_
    refine lv_istore (lv' := [(4, .int 0), (3, .int p1), (0, .ref mo), (1, .int p1), (2, .int 0)]) hx hb dX8_draw_13 hl (by decide) rfl (fun ls hl => ?_)
    refine lv_iconst (v := 0) hx hb dX8_draw_15 (by decide +kernel) ?_
    refine lv_istore (lv' := [(5, .int 0), (4, .int 0), (3, .int p1), (0, .ref mo), (1, .int p1), (2, .int 0)]) hx hb dX8_draw_16 hl (by decide) rfl (fun ls hl => ?_)
    refine lv_iconst (v := 0) hx hb dX8_draw_18 (by decide +kernel) ?_
    refine lv_istore (lv' := [(6, .int 0), (5, .int 0), (4, .int 0), (3, .int p1), (0, .ref mo), (1, .int p1), (2, .int 0)]) hx hb dX8_draw_19 hl (by decide) rfl (fun ls hl => ?_)
    refine lv_iload hx hb dX8_draw_21 (lv_at hl 0 rfl) ?_
    refine lv_aload_n hx hb dX8_draw_23 rfl (lv_at hl 4 rfl) ?_
    refine va_get (D := (dC, dI)) (ci := 8) (v := .int 0) (C := RX8) (T := TX8) (N := 17) hx hb hts hiX8 hown hK hP 0 rfl rfl 0 (by decide) (hts (.fieldLink RX8 58 "MadeItSoModel" "many" "I") (by decide +kernel)) (fun _ h9 => h9) rfl dX8_draw_24 ?_
    refine lv_icmp_ge (tgt := 162) hx hb dX8_draw_27 (by decide) (fun _ => ?_) (fun c_27 => absurd (by decide +kernel) c_27)
    refine lv_iload hx hb dX8_draw_162 (lv_at hl 1 rfl) ?_
    refine W.widen (k := 0) (n := 0) (Nat.le_of_ble_eq_true rfl) (Nat.le_of_ble_eq_true rfl) ?_
    exact W.iret (v := 0) hx hb hr (fun t ht hW => ⟨⟨0, (), rfl, by simp [*], ht⟩, hS.F ht⟩) hS.2.2 dX8_draw_164
  · skip
    have hPc := hP.sub (ws' := [(mo, .inr (8, [.int 0, .ref m1, .ref m2, .ref m3, .long 0, .long 1, .ref m6, .ref m7, .ref m8, .ref m9, .ref m10, .ref m11, .ref m12, .ref m13, .ref m14, .ref m15, .ref m16]))]) [0] rfl
    refine va_calli (va_runV (As := [.int p2]) (rest := []) ⟨hx, hb, hml, hown, hts⟩ (mz_M_isSetting_n l dC dI cI cJ cZ mo m1 m2 m3 m6 m7 m8 m9 m10 m11 m12 m13 m14 m15 m16 0 1 p2 s.heap hz_2) (cwV 1 hts gX8_draw_X8_isSetting rfl rfl rfl (by decide +kernel) ⟨Nat.le_of_ble_eq_true rfl, Nat.le_of_ble_eq_true rfl⟩) ⟨fun a U g mk q => mz_blP q, va_recv hK hPc (ci := 8) (q0 := 0) rfl rfl, fun U hU hW => ⟨rfl, hU, hPc, va_K.moved hW.alike hK, mz_nw hW hN⟩⟩ rfl rfl hl.1 rfl (lv_room (Nat.le_of_ble_eq_true rfl)) dX8_draw_2 ⟨Nat.le_of_ble_eq_true rfl, Nat.le_of_ble_eq_true rfl⟩) hS (fun q _ h => h.elim) (fun q h => h.elim) (fun r u t H1 locs ht hvm hw hB hz1 hk1 hS => ?_)
    have hE : s.heap = H1 := hB.symm.trans ht
    subst hE
    obtain rfl : r = 0 := hw
    refine lv_if_ne (tgt := 10) hx hb dX8_draw_5 (by decide) (fun c_5 => absurd (by decide +kernel) c_5) (fun _ => ?_)
    refine lv_iconst (v := (-1)) hx hb dX8_draw_8 (by decide +kernel) ?_
    refine W.widen (k := 0) (n := 0) (Nat.le_of_ble_eq_true rfl) (Nat.le_of_ble_eq_true rfl) ?_
    exact W.iret (v := (-1)) hx hb hr (fun t ht hW => ⟨⟨(-1), (), rfl, by simp [*], ht⟩, hS.F ht⟩) hS.2.2 dX8_draw_9
set_option maxHeartbeats 1000000 in
set_option maxRecDepth 100000 in
theorem mz_M_count (l : Launch) (dC : Nat → ClassId) (dI : Nat → Nat → Nat) (cI cJ cZ : ClassId) (mo : Nat) (m1 : Nat) (m2 : Nat) (m3 : Nat) (m6 : Nat) (m7 : Nat) (m8 : Nat) (m9 : Nat) (m10 : Nat) (m11 : Nat) (m12 : Nat) (m13 : Nat) (m14 : Nat) (m15 : Nat) (m16 : Nat) (p1 : Int32) (Hq : Heap)  : Met l yX8_count wsX8_count ({ frames := 1, cells := 0, slots := 0, locals := 22 }) (va_Pc [.ref mo, .int p1] (fun U => U.heap = Hq ∧ va_P (dC, dI) vwCl [(mo, .inr (8, [.int 0, .ref m1, .ref m2, .ref m3, .long 0, .long 1, .ref m6, .ref m7, .ref m8, .ref m9, .ref m10, .ref m11, .ref m12, .ref m13, .ref m14, .ref m15, .ref m16]))] Hq ∧ va_K (dC, dI) vwCl [(cI, FieldType.int), (cJ, FieldType.long), (cZ, FieldType.boolean)] U ∧ mz_N U)) (va_Qi (fun (r : Int32) (_ : Unit) => r = (if p1 = 0 then 0 else if p1 = 1 then 0 else if p1 = 2 then 0 else (-1))) (fun _ t => t.heap = Hq) (fun _ : Nat => False)) 0 0 (fun _ : Nat => False) := by
  refine Met.ofW (cc := cX8_count) (maxL := 4) (ret := (some .int)) (by decide) rfl ?_
  intro p e s m args below meth c s₁ B hml hv
  obtain ⟨rfl, hH, hP, hK, hN⟩ := hv
  subst hH
  have hx := B.exec
  have hb := B.bytes
  have hr := B.returns
  have hts := atoms_spec (ws := wsX8_count) B.pre
  have hown : s.vm.findClass RX8 = some m.cls := findClass_of_methodNamed B.named
  have hlocks := B.notSynchronized
  have hS : va_S (fun _ : Nat => False) s.heap s.heap [] := va_S.rf
  have hiX8 : ∀ w ∈ u_ws RX8 TX8 17, w ∈ wsX8_count := by decide +kernel
  have hl := lv_entry ([.ref mo, .int p1]) (n := 4) (Nat.le_of_ble_eq_true rfl)
  rw [lg_entry_eq]
  generalize (lg_sl ([.ref mo, .int p1]) ++ List.replicate (4 - (lg_sl ([.ref mo, .int p1])).length) Slot.unset).toArray = ls at hl ⊢
  have hl : lv_has ls 4 [(0, .ref mo), (1, .int p1)] := hl
  refine lv_iconst (v := 0) hx hb dX8_count_0 (by decide +kernel) ?_
  refine lv_istore_n (lv' := [(2, .int 0), (0, .ref mo), (1, .int p1)]) hx hb dX8_count_1 rfl hl (by decide) rfl (fun ls hl => ?_)
  refine lv_iload_n hx hb dX8_count_2 rfl (lv_at hl 2 rfl) ?_
  by_cases hs_0 : p1 = 0
  · subst hs_0
    refine lv_tableIn (tgt := 28) (off := 25) hx hb dX8_count_3 (by decide +kernel) (by decide +kernel) (by decide +kernel) (by decide) ?_
    refine lv_aload_n hx hb dX8_count_28 rfl (lv_at hl 1 rfl) ?_
    refine va_get (D := (dC, dI)) (ci := 8) (v := .int 0) (C := RX8) (T := TX8) (N := 17) hx hb hts hiX8 hown hK hP 0 rfl rfl 0 (by decide) (hts (.fieldLink RX8 58 "MadeItSoModel" "many" "I") (by decide +kernel)) (fun _ h9 => h9) rfl dX8_count_29 ?_
    refine W.widen (k := 0) (n := 0) (Nat.le_of_ble_eq_true rfl) (Nat.le_of_ble_eq_true rfl) ?_
    exact W.iret (v := 0) hx hb hr (fun t ht hW => ⟨⟨0, (), rfl, by simp [*], ht⟩, hS.F ht⟩) hS.2.2 dX8_count_32
  by_cases hs_1 : p1 = 1
  · subst hs_1
    refine lv_tableIn (tgt := 33) (off := 30) hx hb dX8_count_3 (by decide +kernel) (by decide +kernel) (by decide +kernel) (by decide) ?_
    refine lv_iconst (v := 0) hx hb dX8_count_33 (by decide +kernel) ?_
    refine lv_istore_n (lv' := [(3, .int 0), (2, .int 0), (0, .ref mo), (1, .int 1)]) hx hb dX8_count_34 rfl hl (by decide) rfl (fun ls hl => ?_)
    refine lv_iload_n hx hb dX8_count_35 rfl (lv_at hl 0 rfl) ?_
    refine lv_aload_n hx hb dX8_count_36 rfl (lv_at hl 2 rfl) ?_
    refine va_get (D := (dC, dI)) (ci := 8) (v := .int 0) (C := RX8) (T := TX8) (N := 17) hx hb hts hiX8 hown hK hP 0 rfl rfl 0 (by decide) (hts (.fieldLink RX8 58 "MadeItSoModel" "many" "I") (by decide +kernel)) (fun _ h9 => h9) rfl dX8_count_37 ?_
    refine lv_icmp_ge (tgt := 61) hx hb dX8_count_40 (by decide) (fun _ => ?_) (fun c_40 => absurd (by decide +kernel) c_40)
    refine lv_iload_n hx hb dX8_count_61 rfl (lv_at hl 1 rfl) ?_
    refine W.widen (k := 0) (n := 0) (Nat.le_of_ble_eq_true rfl) (Nat.le_of_ble_eq_true rfl) ?_
    exact W.iret (v := 0) hx hb hr (fun t ht hW => ⟨⟨0, (), rfl, by simp [*], ht⟩, hS.F ht⟩) hS.2.2 dX8_count_62
  by_cases hs_2 : p1 = 2
  · subst hs_2
    refine lv_tableIn (tgt := 63) (off := 60) hx hb dX8_count_3 (by decide +kernel) (by decide +kernel) (by decide +kernel) (by decide) ?_
    refine lv_aload_n hx hb dX8_count_63 rfl (lv_at hl 1 rfl) ?_
    have hPc := hP.sub (ws' := [(mo, .inr (8, [.int 0, .ref m1, .ref m2, .ref m3, .long 0, .long 1, .ref m6, .ref m7, .ref m8, .ref m9, .ref m10, .ref m11, .ref m12, .ref m13, .ref m14, .ref m15, .ref m16]))]) [0] rfl
    refine va_calli (va_runV (As := []) (rest := []) ⟨hx, hb, hml, hown, hts⟩ (mz_M_seen l dC dI cI cJ cZ mo m1 m2 m3 m6 m7 m8 m9 m10 m11 m12 m13 m14 m15 m16 s.heap ) (cwV 0 hts gX8_count_X8_seen rfl rfl rfl (by decide +kernel) ⟨Nat.le_of_ble_eq_true rfl, Nat.le_of_ble_eq_true rfl⟩) ⟨fun a U g mk q => mz_blP q, va_recv hK hPc (ci := 8) (q0 := 0) rfl rfl, fun U hU hW => ⟨rfl, hU, hPc, va_K.moved hW.alike hK, mz_nw hW hN⟩⟩ rfl rfl hl.1 rfl (lv_room (Nat.le_of_ble_eq_true rfl)) dX8_count_64 ⟨Nat.le_of_ble_eq_true rfl, Nat.le_of_ble_eq_true rfl⟩) hS (fun q _ h => h.elim) (fun q h => h.elim) (fun r u t H1 locs ht hvm hw hB hz1 hk1 hS => ?_)
    have hE : s.heap = H1 := hB.symm.trans ht
    subst hE
    obtain rfl : r = 0 := hw
    refine W.widen (k := 0) (n := 0) (Nat.le_of_ble_eq_true rfl) (Nat.le_of_ble_eq_true rfl) ?_
    exact W.iret (v := 0) hx hb hr (fun t ht hW => ⟨⟨0, (), rfl, by simp [*], ht⟩, hS.F ht⟩) hS.2.2 dX8_count_67
  refine lv_tableOut (tgt := 68) hx hb dX8_count_3 (mz_sw hs_0 hs_1 hs_2) (by decide) ?_
  refine lv_iconst (v := (-1)) hx hb dX8_count_68 (by decide +kernel) ?_
  refine W.widen (k := 0) (n := 0) (Nat.le_of_ble_eq_true rfl) (Nat.le_of_ble_eq_true rfl) ?_
  exact W.iret (v := (-1)) hx hb hr (fun t ht hW => ⟨⟨(-1), (), rfl, by simp [*], ht⟩, hS.F ht⟩) hS.2.2 dX8_count_69
set_option maxHeartbeats 1000000 in
set_option maxRecDepth 100000 in
theorem mz_M_bars (l : Launch) (dC : Nat → ClassId) (dI : Nat → Nat → Nat) (cI cJ cZ : ClassId) (mo : Nat) (m1 : Nat) (m2 : Nat) (m3 : Nat) (m6 : Nat) (m7 : Nat) (m8 : Nat) (m9 : Nat) (m10 : Nat) (m11 : Nat) (m12 : Nat) (m13 : Nat) (m14 : Nat) (m15 : Nat) (m16 : Nat) (p1 : Int32) (p2 : Int32) (p3 : Int32) (Hq : Heap)  : Met l yX8_bars wsX8_bars ({ frames := 1, cells := 0, slots := 0, locals := 27 }) (va_Pc [.ref mo, .int p1, .int p2, .int p3] (fun U => U.heap = Hq ∧ va_P (dC, dI) vwCl [(mo, .inr (8, [.int 0, .ref m1, .ref m2, .ref m3, .long 0, .long 1, .ref m6, .ref m7, .ref m8, .ref m9, .ref m10, .ref m11, .ref m12, .ref m13, .ref m14, .ref m15, .ref m16]))] Hq ∧ va_K (dC, dI) vwCl [(cI, FieldType.int), (cJ, FieldType.long), (cZ, FieldType.boolean)] U ∧ mz_N U)) (va_Qi (fun (r : Int32) (_ : Unit) => r = (if p1 = 0 ∧ p2 = 0 ∧ p3 = 0 then 1 else 0)) (fun _ t => t.heap = Hq) (fun _ : Nat => False)) 0 0 (fun _ : Nat => False) := by
  refine Met.ofW (cc := cX8_bars) (maxL := 4) (ret := (some .boolean)) (by decide) rfl ?_
  intro p e s m args below meth c s₁ B hml hv
  obtain ⟨rfl, hH, hP, hK, hN⟩ := hv
  subst hH
  have hx := B.exec
  have hb := B.bytes
  have hr := B.returns
  have hts := atoms_spec (ws := wsX8_bars) B.pre
  have hown : s.vm.findClass RX8 = some m.cls := findClass_of_methodNamed B.named
  have hlocks := B.notSynchronized
  have hS : va_S (fun _ : Nat => False) s.heap s.heap [] := va_S.rf
  have hl := lv_entry ([.ref mo, .int p1, .int p2, .int p3]) (n := 4) (Nat.le_of_ble_eq_true rfl)
  rw [lg_entry_eq]
  generalize (lg_sl ([.ref mo, .int p1, .int p2, .int p3]) ++ List.replicate (4 - (lg_sl ([.ref mo, .int p1, .int p2, .int p3])).length) Slot.unset).toArray = ls at hl ⊢
  have hl : lv_has ls 4 [(0, .ref mo), (1, .int p1), (2, .int p2), (3, .int p3)] := hl
  refine lv_aload_n hx hb dX8_bars_0 rfl (lv_at hl 0 rfl) ?_
  refine lv_iload_n hx hb dX8_bars_1 rfl (lv_at hl 1 rfl) ?_
  by_cases hz_2 : p1 = 0
  · subst hz_2
    have hPc := hP.sub (ws' := [(mo, .inr (8, [.int 0, .ref m1, .ref m2, .ref m3, .long 0, .long 1, .ref m6, .ref m7, .ref m8, .ref m9, .ref m10, .ref m11, .ref m12, .ref m13, .ref m14, .ref m15, .ref m16]))]) [0] rfl
    refine va_calli (va_runV (As := [.int 0]) (rest := []) ⟨hx, hb, hml, hown, hts⟩ (mz_M_isHeap_0 l dC dI cI cJ cZ mo m1 m2 m3 m6 m7 m8 m9 m10 m11 m12 m13 m14 m15 m16 0 1 s.heap ) (cwV 1 hts gX8_bars_X8_isHeap rfl rfl rfl (by decide +kernel) ⟨Nat.le_of_ble_eq_true rfl, Nat.le_of_ble_eq_true rfl⟩) ⟨fun a U g mk q => mz_blP q, va_recv hK hPc (ci := 8) (q0 := 0) rfl rfl, fun U hU hW => ⟨rfl, hU, hPc, va_K.moved hW.alike hK, mz_nw hW hN⟩⟩ rfl rfl hl.1 rfl (lv_room (Nat.le_of_ble_eq_true rfl)) dX8_bars_2 ⟨Nat.le_of_ble_eq_true rfl, Nat.le_of_ble_eq_true rfl⟩) hS (fun q _ h => h.elim) (fun q h => h.elim) (fun r u t H1 locs ht hvm hw hB hz1 hk1 hS => ?_)
    have hE : s.heap = H1 := hB.symm.trans ht
    subst hE
    obtain rfl : r = 1 := hw
    refine lv_if_eq (tgt := 42) hx hb dX8_bars_5 (by decide) (fun c_5 => absurd c_5 (by decide +kernel)) (fun _ => ?_)
    refine lv_aload_n hx hb dX8_bars_8 rfl (lv_at hl 0 rfl) ?_
    refine lv_iload_n hx hb dX8_bars_9 rfl (lv_at hl 2 rfl) ?_
    by_cases hz_10 : p2 = 0
    · subst hz_10
      have hPc := hP.sub (ws' := [(mo, .inr (8, [.int 0, .ref m1, .ref m2, .ref m3, .long 0, .long 1, .ref m6, .ref m7, .ref m8, .ref m9, .ref m10, .ref m11, .ref m12, .ref m13, .ref m14, .ref m15, .ref m16]))]) [0] rfl
      refine va_calli (va_runV (As := [.int 0]) (rest := []) ⟨hx, hb, hml, hown, hts⟩ (mz_M_isHeap_0 l dC dI cI cJ cZ mo m1 m2 m3 m6 m7 m8 m9 m10 m11 m12 m13 m14 m15 m16 0 1 s.heap ) (cwV 1 hts gX8_bars_X8_isHeap rfl rfl rfl (by decide +kernel) ⟨Nat.le_of_ble_eq_true rfl, Nat.le_of_ble_eq_true rfl⟩) ⟨fun a U g mk q => mz_blP q, va_recv hK hPc (ci := 8) (q0 := 0) rfl rfl, fun U hU hW => ⟨rfl, hU, hPc, va_K.moved hW.alike hK, mz_nw hW hN⟩⟩ rfl rfl hl.1 rfl (lv_room (Nat.le_of_ble_eq_true rfl)) dX8_bars_10 ⟨Nat.le_of_ble_eq_true rfl, Nat.le_of_ble_eq_true rfl⟩) hS (fun q _ h => h.elim) (fun q h => h.elim) (fun r u t H1 locs ht hvm hw hB hz1 hk1 hS => ?_)
      have hE : s.heap = H1 := hB.symm.trans ht
      subst hE
      obtain rfl : r = 1 := hw
      refine lv_if_eq (tgt := 42) hx hb dX8_bars_13 (by decide) (fun c_13 => absurd c_13 (by decide +kernel)) (fun _ => ?_)
      refine lv_aload_n hx hb dX8_bars_16 rfl (lv_at hl 0 rfl) ?_
      refine lv_iload_n hx hb dX8_bars_17 rfl (lv_at hl 3 rfl) ?_
      by_cases hz_18 : p3 = 0
      · subst hz_18
        have hPc := hP.sub (ws' := [(mo, .inr (8, [.int 0, .ref m1, .ref m2, .ref m3, .long 0, .long 1, .ref m6, .ref m7, .ref m8, .ref m9, .ref m10, .ref m11, .ref m12, .ref m13, .ref m14, .ref m15, .ref m16]))]) [0] rfl
        refine va_calli (va_runV (As := [.int 0]) (rest := []) ⟨hx, hb, hml, hown, hts⟩ (mz_M_isHeap_0 l dC dI cI cJ cZ mo m1 m2 m3 m6 m7 m8 m9 m10 m11 m12 m13 m14 m15 m16 0 1 s.heap ) (cwV 1 hts gX8_bars_X8_isHeap rfl rfl rfl (by decide +kernel) ⟨Nat.le_of_ble_eq_true rfl, Nat.le_of_ble_eq_true rfl⟩) ⟨fun a U g mk q => mz_blP q, va_recv hK hPc (ci := 8) (q0 := 0) rfl rfl, fun U hU hW => ⟨rfl, hU, hPc, va_K.moved hW.alike hK, mz_nw hW hN⟩⟩ rfl rfl hl.1 rfl (lv_room (Nat.le_of_ble_eq_true rfl)) dX8_bars_18 ⟨Nat.le_of_ble_eq_true rfl, Nat.le_of_ble_eq_true rfl⟩) hS (fun q _ h => h.elim) (fun q h => h.elim) (fun r u t H1 locs ht hvm hw hB hz1 hk1 hS => ?_)
        have hE : s.heap = H1 := hB.symm.trans ht
        subst hE
        obtain rfl : r = 1 := hw
        refine lv_if_eq (tgt := 42) hx hb dX8_bars_21 (by decide) (fun c_21 => absurd c_21 (by decide +kernel)) (fun _ => ?_)
        refine lv_iload_n hx hb dX8_bars_24 rfl (lv_at hl 1 rfl) ?_
        refine lv_iload_n hx hb dX8_bars_25 rfl (lv_at hl 2 rfl) ?_
        refine lv_iand hx hb dX8_bars_26 ?_
        refine mz_ti (y := 0) (by decide +kernel) ?_
        refine lv_if_ne (tgt := 42) hx hb dX8_bars_27 (by decide) (fun c_27 => absurd (by decide +kernel) c_27) (fun _ => ?_)
        refine lv_iload_n hx hb dX8_bars_30 rfl (lv_at hl 1 rfl) ?_
        refine lv_iload_n hx hb dX8_bars_31 rfl (lv_at hl 3 rfl) ?_
        refine lv_iand hx hb dX8_bars_32 ?_
        refine mz_ti (y := 0) (by decide +kernel) ?_
        refine lv_if_ne (tgt := 42) hx hb dX8_bars_33 (by decide) (fun c_33 => absurd (by decide +kernel) c_33) (fun _ => ?_)
        refine lv_iload_n hx hb dX8_bars_36 rfl (lv_at hl 2 rfl) ?_
        refine lv_iload_n hx hb dX8_bars_37 rfl (lv_at hl 3 rfl) ?_
        refine lv_iand hx hb dX8_bars_38 ?_
        refine mz_ti (y := 0) (by decide +kernel) ?_
        refine lv_if_eq (tgt := 44) hx hb dX8_bars_39 (by decide) (fun _ => ?_) (fun c_39 => absurd (by decide +kernel) c_39)
        refine lv_aload_n hx hb dX8_bars_44 rfl (lv_at hl 0 rfl) ?_
        refine lv_iload_n hx hb dX8_bars_45 rfl (lv_at hl 1 rfl) ?_
        refine lv_iload_n hx hb dX8_bars_46 rfl (lv_at hl 2 rfl) ?_
        refine lv_iload_n hx hb dX8_bars_47 rfl (lv_at hl 3 rfl) ?_
        refine lv_iconst (v := 0) hx hb dX8_bars_48 (by decide +kernel) ?_
        refine lv_iconst (v := 0) hx hb dX8_bars_49 (by decide +kernel) ?_
        have hPc := hP.sub (ws' := [(mo, .inr (8, [.int 0, .ref m1, .ref m2, .ref m3, .long 0, .long 1, .ref m6, .ref m7, .ref m8, .ref m9, .ref m10, .ref m11, .ref m12, .ref m13, .ref m14, .ref m15, .ref m16]))]) [0] rfl
        refine va_calli (va_runV (As := [.int 0, .int 0, .int 0, .int 0, .int 0]) (rest := []) ⟨hx, hb, hml, hown, hts⟩ (mz_M_barred0 l dC dI cI cJ cZ mo m1 m2 m3 m6 m7 m8 m9 m10 m11 m12 m13 m14 m15 m16 s.heap ) (cwV 5 hts gX8_bars_X8_barred rfl rfl rfl (by decide +kernel) ⟨Nat.le_of_ble_eq_true rfl, Nat.le_of_ble_eq_true rfl⟩) ⟨fun a U g mk q => mz_blP q, va_recv hK hPc (ci := 8) (q0 := 0) rfl rfl, fun U hU hW => ⟨rfl, hU, hPc, va_K.moved hW.alike hK, mz_nw hW hN⟩⟩ rfl rfl hl.1 rfl (lv_room (Nat.le_of_ble_eq_true rfl)) dX8_bars_50 ⟨Nat.le_of_ble_eq_true rfl, Nat.le_of_ble_eq_true rfl⟩) hS (fun q _ h => h.elim) (fun q h => h.elim) (fun r u t H1 locs ht hvm hw hB hz1 hk1 hS => ?_)
        have hE : s.heap = H1 := hB.symm.trans ht
        subst hE
        obtain rfl : r = 1 := hw
        refine W.widen (k := 0) (n := 0) (Nat.le_of_ble_eq_true rfl) (Nat.le_of_ble_eq_true rfl) ?_
        exact W.zret (v := 1) hx hb hr (mz_nz (by decide +kernel)) (fun t ht hW => ⟨⟨1, (), rfl, by simp [*], ht⟩, hS.F ht⟩) hS.2.2 dX8_bars_53
      · skip
        have hPc := hP.sub (ws' := [(mo, .inr (8, [.int 0, .ref m1, .ref m2, .ref m3, .long 0, .long 1, .ref m6, .ref m7, .ref m8, .ref m9, .ref m10, .ref m11, .ref m12, .ref m13, .ref m14, .ref m15, .ref m16]))]) [0] rfl
        refine va_calli (va_runV (As := [.int p3]) (rest := []) ⟨hx, hb, hml, hown, hts⟩ (mz_M_isHeap_n l dC dI cI cJ cZ mo m1 m2 m3 m6 m7 m8 m9 m10 m11 m12 m13 m14 m15 m16 0 1 p3 s.heap hz_18) (cwV 1 hts gX8_bars_X8_isHeap rfl rfl rfl (by decide +kernel) ⟨Nat.le_of_ble_eq_true rfl, Nat.le_of_ble_eq_true rfl⟩) ⟨fun a U g mk q => mz_blP q, va_recv hK hPc (ci := 8) (q0 := 0) rfl rfl, fun U hU hW => ⟨rfl, hU, hPc, va_K.moved hW.alike hK, mz_nw hW hN⟩⟩ rfl rfl hl.1 rfl (lv_room (Nat.le_of_ble_eq_true rfl)) dX8_bars_18 ⟨Nat.le_of_ble_eq_true rfl, Nat.le_of_ble_eq_true rfl⟩) hS (fun q _ h => h.elim) (fun q h => h.elim) (fun r u t H1 locs ht hvm hw hB hz1 hk1 hS => ?_)
        have hE : s.heap = H1 := hB.symm.trans ht
        subst hE
        obtain rfl : r = 0 := hw
        refine lv_if_eq (tgt := 42) hx hb dX8_bars_21 (by decide) (fun _ => ?_) (fun c_21 => absurd (by decide +kernel) c_21)
        refine lv_iconst (v := 0) hx hb dX8_bars_42 (by decide +kernel) ?_
        refine W.widen (k := 0) (n := 0) (Nat.le_of_ble_eq_true rfl) (Nat.le_of_ble_eq_true rfl) ?_
        exact W.zret (v := 0) hx hb hr (mz_nz (by decide +kernel)) (fun t ht hW => ⟨⟨0, (), rfl, by simp [*], ht⟩, hS.F ht⟩) hS.2.2 dX8_bars_43
    · skip
      have hPc := hP.sub (ws' := [(mo, .inr (8, [.int 0, .ref m1, .ref m2, .ref m3, .long 0, .long 1, .ref m6, .ref m7, .ref m8, .ref m9, .ref m10, .ref m11, .ref m12, .ref m13, .ref m14, .ref m15, .ref m16]))]) [0] rfl
      refine va_calli (va_runV (As := [.int p2]) (rest := []) ⟨hx, hb, hml, hown, hts⟩ (mz_M_isHeap_n l dC dI cI cJ cZ mo m1 m2 m3 m6 m7 m8 m9 m10 m11 m12 m13 m14 m15 m16 0 1 p2 s.heap hz_10) (cwV 1 hts gX8_bars_X8_isHeap rfl rfl rfl (by decide +kernel) ⟨Nat.le_of_ble_eq_true rfl, Nat.le_of_ble_eq_true rfl⟩) ⟨fun a U g mk q => mz_blP q, va_recv hK hPc (ci := 8) (q0 := 0) rfl rfl, fun U hU hW => ⟨rfl, hU, hPc, va_K.moved hW.alike hK, mz_nw hW hN⟩⟩ rfl rfl hl.1 rfl (lv_room (Nat.le_of_ble_eq_true rfl)) dX8_bars_10 ⟨Nat.le_of_ble_eq_true rfl, Nat.le_of_ble_eq_true rfl⟩) hS (fun q _ h => h.elim) (fun q h => h.elim) (fun r u t H1 locs ht hvm hw hB hz1 hk1 hS => ?_)
      have hE : s.heap = H1 := hB.symm.trans ht
      subst hE
      obtain rfl : r = 0 := hw
      refine lv_if_eq (tgt := 42) hx hb dX8_bars_13 (by decide) (fun _ => ?_) (fun c_13 => absurd (by decide +kernel) c_13)
      refine lv_iconst (v := 0) hx hb dX8_bars_42 (by decide +kernel) ?_
      refine W.widen (k := 0) (n := 0) (Nat.le_of_ble_eq_true rfl) (Nat.le_of_ble_eq_true rfl) ?_
      exact W.zret (v := 0) hx hb hr (mz_nz (by decide +kernel)) (fun t ht hW => ⟨⟨0, (), rfl, by simp [*], ht⟩, hS.F ht⟩) hS.2.2 dX8_bars_43
  · skip
    have hPc := hP.sub (ws' := [(mo, .inr (8, [.int 0, .ref m1, .ref m2, .ref m3, .long 0, .long 1, .ref m6, .ref m7, .ref m8, .ref m9, .ref m10, .ref m11, .ref m12, .ref m13, .ref m14, .ref m15, .ref m16]))]) [0] rfl
    refine va_calli (va_runV (As := [.int p1]) (rest := []) ⟨hx, hb, hml, hown, hts⟩ (mz_M_isHeap_n l dC dI cI cJ cZ mo m1 m2 m3 m6 m7 m8 m9 m10 m11 m12 m13 m14 m15 m16 0 1 p1 s.heap hz_2) (cwV 1 hts gX8_bars_X8_isHeap rfl rfl rfl (by decide +kernel) ⟨Nat.le_of_ble_eq_true rfl, Nat.le_of_ble_eq_true rfl⟩) ⟨fun a U g mk q => mz_blP q, va_recv hK hPc (ci := 8) (q0 := 0) rfl rfl, fun U hU hW => ⟨rfl, hU, hPc, va_K.moved hW.alike hK, mz_nw hW hN⟩⟩ rfl rfl hl.1 rfl (lv_room (Nat.le_of_ble_eq_true rfl)) dX8_bars_2 ⟨Nat.le_of_ble_eq_true rfl, Nat.le_of_ble_eq_true rfl⟩) hS (fun q _ h => h.elim) (fun q h => h.elim) (fun r u t H1 locs ht hvm hw hB hz1 hk1 hS => ?_)
    have hE : s.heap = H1 := hB.symm.trans ht
    subst hE
    obtain rfl : r = 0 := hw
    refine lv_if_eq (tgt := 42) hx hb dX8_bars_5 (by decide) (fun _ => ?_) (fun c_5 => absurd (by decide +kernel) c_5)
    refine lv_iconst (v := 0) hx hb dX8_bars_42 (by decide +kernel) ?_
    refine W.widen (k := 0) (n := 0) (Nat.le_of_ble_eq_true rfl) (Nat.le_of_ble_eq_true rfl) ?_
    exact W.zret (v := 0) hx hb hr (mz_nz (by decide +kernel)) (fun t ht hW => ⟨⟨0, (), rfl, by simp [*], ht⟩, hS.F ht⟩) hS.2.2 dX8_bars_43
set_option maxHeartbeats 1000000 in
set_option maxRecDepth 100000 in
theorem mz_M_weight (l : Launch) (dC : Nat → ClassId) (dI : Nat → Nat → Nat) (cI cJ cZ : ClassId) (mo : Nat) (m1 : Nat) (m2 : Nat) (m3 : Nat) (m6 : Nat) (m7 : Nat) (m8 : Nat) (m9 : Nat) (m10 : Nat) (m11 : Nat) (m12 : Nat) (m13 : Nat) (m14 : Nat) (m15 : Nat) (m16 : Nat) (p1 : Int32) (p2 : Int32) (Hq : Heap)  : Met l yX8_weight wsX8_weight ({ frames := 2, cells := 0, slots := 0, locals := 51 }) (va_Pc [.ref mo, .int p1, .int p2] (fun U => U.heap = Hq ∧ va_P (dC, dI) vwCl [(mo, .inr (8, [.int 0, .ref m1, .ref m2, .ref m3, .long 0, .long 1, .ref m6, .ref m7, .ref m8, .ref m9, .ref m10, .ref m11, .ref m12, .ref m13, .ref m14, .ref m15, .ref m16]))] Hq ∧ va_K (dC, dI) vwCl [(cI, FieldType.int), (cJ, FieldType.long), (cZ, FieldType.boolean)] U ∧ mz_N U)) (va_Ql (fun (r : Int64) (_ : Unit) => r = (if p1 = 0 ∧ p2 = 0 then 1 else (-1))) (fun _ t => t.heap = Hq) (fun _ : Nat => False)) 0 0 (fun _ : Nat => False) := by
  refine Met.ofW (cc := cX8_weight) (maxL := 3) (ret := (some .long)) (by decide) rfl ?_
  intro p e s m args below meth c s₁ B hml hv
  obtain ⟨rfl, hH, hP, hK, hN⟩ := hv
  subst hH
  have hx := B.exec
  have hb := B.bytes
  have hr := B.returns
  have hts := atoms_spec (ws := wsX8_weight) B.pre
  have hown : s.vm.findClass RX8 = some m.cls := findClass_of_methodNamed B.named
  have hlocks := B.notSynchronized
  have hS : va_S (fun _ : Nat => False) s.heap s.heap [] := va_S.rf
  have hl := lv_entry ([.ref mo, .int p1, .int p2]) (n := 3) (Nat.le_of_ble_eq_true rfl)
  rw [lg_entry_eq]
  generalize (lg_sl ([.ref mo, .int p1, .int p2]) ++ List.replicate (3 - (lg_sl ([.ref mo, .int p1, .int p2])).length) Slot.unset).toArray = ls at hl ⊢
  have hl : lv_has ls 3 [(0, .ref mo), (1, .int p1), (2, .int p2)] := hl
  refine lv_aload_n hx hb dX8_weight_0 rfl (lv_at hl 0 rfl) ?_
  refine lv_iload_n hx hb dX8_weight_1 rfl (lv_at hl 1 rfl) ?_
  by_cases hz_2 : p1 = 0
  · subst hz_2
    have hPc := hP.sub (ws' := [(mo, .inr (8, [.int 0, .ref m1, .ref m2, .ref m3, .long 0, .long 1, .ref m6, .ref m7, .ref m8, .ref m9, .ref m10, .ref m11, .ref m12, .ref m13, .ref m14, .ref m15, .ref m16]))]) [0] rfl
    refine va_calli (va_runV (As := [.int 0]) (rest := []) ⟨hx, hb, hml, hown, hts⟩ (mz_M_isSetting_0 l dC dI cI cJ cZ mo m1 m2 m3 m6 m7 m8 m9 m10 m11 m12 m13 m14 m15 m16 0 1 s.heap ) (cwV 1 hts gX8_weight_X8_isSetting rfl rfl rfl (by decide +kernel) ⟨Nat.le_of_ble_eq_true rfl, Nat.le_of_ble_eq_true rfl⟩) ⟨fun a U g mk q => mz_blP q, va_recv hK hPc (ci := 8) (q0 := 0) rfl rfl, fun U hU hW => ⟨rfl, hU, hPc, va_K.moved hW.alike hK, mz_nw hW hN⟩⟩ rfl rfl hl.1 rfl (lv_room (Nat.le_of_ble_eq_true rfl)) dX8_weight_2 ⟨Nat.le_of_ble_eq_true rfl, Nat.le_of_ble_eq_true rfl⟩) hS (fun q _ h => h.elim) (fun q h => h.elim) (fun r u t H1 locs ht hvm hw hB hz1 hk1 hS => ?_)
    have hE : s.heap = H1 := hB.symm.trans ht
    subst hE
    obtain rfl : r = 1 := hw
    refine lv_if_eq (tgt := 25) hx hb dX8_weight_5 (by decide) (fun c_5 => absurd c_5 (by decide +kernel)) (fun _ => ?_)
    refine lv_aload_n hx hb dX8_weight_8 rfl (lv_at hl 0 rfl) ?_
    refine lv_iload_n hx hb dX8_weight_9 rfl (lv_at hl 2 rfl) ?_
    by_cases hz_10 : p2 = 0
    · subst hz_10
      have hPc := hP.sub (ws' := [(mo, .inr (8, [.int 0, .ref m1, .ref m2, .ref m3, .long 0, .long 1, .ref m6, .ref m7, .ref m8, .ref m9, .ref m10, .ref m11, .ref m12, .ref m13, .ref m14, .ref m15, .ref m16]))]) [0] rfl
      refine va_calli (va_runV (As := [.int 0]) (rest := []) ⟨hx, hb, hml, hown, hts⟩ (mz_M_isSetting_0 l dC dI cI cJ cZ mo m1 m2 m3 m6 m7 m8 m9 m10 m11 m12 m13 m14 m15 m16 0 1 s.heap ) (cwV 1 hts gX8_weight_X8_isSetting rfl rfl rfl (by decide +kernel) ⟨Nat.le_of_ble_eq_true rfl, Nat.le_of_ble_eq_true rfl⟩) ⟨fun a U g mk q => mz_blP q, va_recv hK hPc (ci := 8) (q0 := 0) rfl rfl, fun U hU hW => ⟨rfl, hU, hPc, va_K.moved hW.alike hK, mz_nw hW hN⟩⟩ rfl rfl hl.1 rfl (lv_room (Nat.le_of_ble_eq_true rfl)) dX8_weight_10 ⟨Nat.le_of_ble_eq_true rfl, Nat.le_of_ble_eq_true rfl⟩) hS (fun q _ h => h.elim) (fun q h => h.elim) (fun r u t H1 locs ht hvm hw hB hz1 hk1 hS => ?_)
      have hE : s.heap = H1 := hB.symm.trans ht
      subst hE
      obtain rfl : r = 1 := hw
      refine lv_if_eq (tgt := 25) hx hb dX8_weight_13 (by decide) (fun c_13 => absurd c_13 (by decide +kernel)) (fun _ => ?_)
      refine lv_aload_n hx hb dX8_weight_16 rfl (lv_at hl 0 rfl) ?_
      refine lv_iload_n hx hb dX8_weight_17 rfl (lv_at hl 1 rfl) ?_
      refine lv_iload_n hx hb dX8_weight_18 rfl (lv_at hl 2 rfl) ?_
      have hPc := hP.sub (ws' := [(mo, .inr (8, [.int 0, .ref m1, .ref m2, .ref m3, .long 0, .long 1, .ref m6, .ref m7, .ref m8, .ref m9, .ref m10, .ref m11, .ref m12, .ref m13, .ref m14, .ref m15, .ref m16]))]) [0] rfl
      refine va_calll (va_runV (As := [.int 0, .int 0]) (rest := []) ⟨hx, hb, hml, hown, hts⟩ (mz_M_sum0 l dC dI cI cJ cZ mo m1 m2 m3 m6 m7 m8 m9 m10 m11 m12 m13 m14 m15 m16 0 1 s.heap ) (cwV 2 hts gX8_weight_X8_sum rfl rfl rfl (by decide +kernel) ⟨Nat.le_of_ble_eq_true rfl, Nat.le_of_ble_eq_true rfl⟩) ⟨fun a U g mk q => mz_blP q, va_recv hK hPc (ci := 8) (q0 := 0) rfl rfl, fun U hU hW => ⟨rfl, hU, hPc, va_K.moved hW.alike hK, mz_nw hW hN⟩⟩ rfl rfl hl.1 rfl (lv_room (Nat.le_of_ble_eq_true rfl)) dX8_weight_19 ⟨Nat.le_of_ble_eq_true rfl, Nat.le_of_ble_eq_true rfl⟩) hS (fun q _ h => h.elim) (fun q h => h.elim) (fun r u t H1 locs ht hvm hw hB hz1 hk1 hS => ?_)
      have hE : s.heap = H1 := hB.symm.trans ht
      subst hE
      obtain rfl : r = 1 := hw
      refine lv_goto (tgt := 28) hx hb dX8_weight_22 (by decide) ?_
      refine W.widen (k := 0) (n := 0) (Nat.le_of_ble_eq_true rfl) (Nat.le_of_ble_eq_true rfl) ?_
      exact W.lret (v := 1) hx hb hr (fun t ht hW => ⟨⟨1, (), rfl, by simp [*], ht⟩, hS.F ht⟩) hS.2.2 dX8_weight_28
    · skip
      have hPc := hP.sub (ws' := [(mo, .inr (8, [.int 0, .ref m1, .ref m2, .ref m3, .long 0, .long 1, .ref m6, .ref m7, .ref m8, .ref m9, .ref m10, .ref m11, .ref m12, .ref m13, .ref m14, .ref m15, .ref m16]))]) [0] rfl
      refine va_calli (va_runV (As := [.int p2]) (rest := []) ⟨hx, hb, hml, hown, hts⟩ (mz_M_isSetting_n l dC dI cI cJ cZ mo m1 m2 m3 m6 m7 m8 m9 m10 m11 m12 m13 m14 m15 m16 0 1 p2 s.heap hz_10) (cwV 1 hts gX8_weight_X8_isSetting rfl rfl rfl (by decide +kernel) ⟨Nat.le_of_ble_eq_true rfl, Nat.le_of_ble_eq_true rfl⟩) ⟨fun a U g mk q => mz_blP q, va_recv hK hPc (ci := 8) (q0 := 0) rfl rfl, fun U hU hW => ⟨rfl, hU, hPc, va_K.moved hW.alike hK, mz_nw hW hN⟩⟩ rfl rfl hl.1 rfl (lv_room (Nat.le_of_ble_eq_true rfl)) dX8_weight_10 ⟨Nat.le_of_ble_eq_true rfl, Nat.le_of_ble_eq_true rfl⟩) hS (fun q _ h => h.elim) (fun q h => h.elim) (fun r u t H1 locs ht hvm hw hB hz1 hk1 hS => ?_)
      have hE : s.heap = H1 := hB.symm.trans ht
      subst hE
      obtain rfl : r = 0 := hw
      refine lv_if_eq (tgt := 25) hx hb dX8_weight_13 (by decide) (fun _ => ?_) (fun c_13 => absurd (by decide +kernel) c_13)
      refine lv_ldc2 hx hb hown (hts (.constantLong RX8 108 (-1)) (by decide +kernel)) dX8_weight_25 ?_
      refine W.widen (k := 0) (n := 0) (Nat.le_of_ble_eq_true rfl) (Nat.le_of_ble_eq_true rfl) ?_
      exact W.lret (v := (-1)) hx hb hr (fun t ht hW => ⟨⟨(-1), (), rfl, by simp [*], ht⟩, hS.F ht⟩) hS.2.2 dX8_weight_28
  · skip
    have hPc := hP.sub (ws' := [(mo, .inr (8, [.int 0, .ref m1, .ref m2, .ref m3, .long 0, .long 1, .ref m6, .ref m7, .ref m8, .ref m9, .ref m10, .ref m11, .ref m12, .ref m13, .ref m14, .ref m15, .ref m16]))]) [0] rfl
    refine va_calli (va_runV (As := [.int p1]) (rest := []) ⟨hx, hb, hml, hown, hts⟩ (mz_M_isSetting_n l dC dI cI cJ cZ mo m1 m2 m3 m6 m7 m8 m9 m10 m11 m12 m13 m14 m15 m16 0 1 p1 s.heap hz_2) (cwV 1 hts gX8_weight_X8_isSetting rfl rfl rfl (by decide +kernel) ⟨Nat.le_of_ble_eq_true rfl, Nat.le_of_ble_eq_true rfl⟩) ⟨fun a U g mk q => mz_blP q, va_recv hK hPc (ci := 8) (q0 := 0) rfl rfl, fun U hU hW => ⟨rfl, hU, hPc, va_K.moved hW.alike hK, mz_nw hW hN⟩⟩ rfl rfl hl.1 rfl (lv_room (Nat.le_of_ble_eq_true rfl)) dX8_weight_2 ⟨Nat.le_of_ble_eq_true rfl, Nat.le_of_ble_eq_true rfl⟩) hS (fun q _ h => h.elim) (fun q h => h.elim) (fun r u t H1 locs ht hvm hw hB hz1 hk1 hS => ?_)
    have hE : s.heap = H1 := hB.symm.trans ht
    subst hE
    obtain rfl : r = 0 := hw
    refine lv_if_eq (tgt := 25) hx hb dX8_weight_5 (by decide) (fun _ => ?_) (fun c_5 => absurd (by decide +kernel) c_5)
    refine lv_ldc2 hx hb hown (hts (.constantLong RX8 108 (-1)) (by decide +kernel)) dX8_weight_25 ?_
    refine W.widen (k := 0) (n := 0) (Nat.le_of_ble_eq_true rfl) (Nat.le_of_ble_eq_true rfl) ?_
    exact W.lret (v := (-1)) hx hb hr (fun t ht hW => ⟨⟨(-1), (), rfl, by simp [*], ht⟩, hS.F ht⟩) hS.2.2 dX8_weight_28
set_option maxHeartbeats 1000000 in
set_option maxRecDepth 100000 in
theorem mz_M_fresh0 (l : Launch) (dC : Nat → ClassId) (dI : Nat → Nat → Nat) (cI cJ cZ : ClassId) (mo : Nat) (m1 : Nat) (m2 : Nat) (m3 : Nat) (m6 : Nat) (m7 : Nat) (m8 : Nat) (m9 : Nat) (m10 : Nat) (m11 : Nat) (m12 : Nat) (m13 : Nat) (m14 : Nat) (m15 : Nat) (m16 : Nat) (fb : Nat → Int32) (sz : Nat)  : Met l yX8_fresh wsX8_fresh ({ frames := 0, cells := 0, slots := 0, locals := 0 }) (va_Pc [.ref mo, .int 0] (fun U => U.heap.size = sz ∧ va_P (dC, dI) vwCl [(mo, .inr (8, [.int 0, .ref m1, .ref m2, .ref m3, .long 0, .long 1, .ref m6, .ref m7, .ref m8, .ref m9, .ref m10, .ref m11, .ref m12, .ref m13, .ref m14, .ref m15, .ref m16])), (m3, .inl (cI, 1024, .inl fb))] U.heap ∧ va_K (dC, dI) vwCl [(cI, FieldType.int), (cJ, FieldType.long), (cZ, FieldType.boolean)] U ∧ va_D (fun _ => True) [(mo, .inr (8, [.int 0, .ref m1, .ref m2, .ref m3, .long 0, .long 1, .ref m6, .ref m7, .ref m8, .ref m9, .ref m10, .ref m11, .ref m12, .ref m13, .ref m14, .ref m15, .ref m16])), (m3, .inl (cI, 1024, .inl fb))] ∧ mz_N U)) (va_Qv (fun (_ : Unit) => True) (fun _ t => ∃ (fx : Nat → Int32), va_P (dC, dI) vwCl [(mo, .inr (8, [.int 0, .ref m1, .ref m2, .ref m3, .long 0, .long 1, .ref m6, .ref m7, .ref m8, .ref m9, .ref m10, .ref m11, .ref m12, .ref m13, .ref m14, .ref m15, .ref m16])), (m3, .inl (cI, 1024, .inl fx))] t.heap ∧ va_D (va_A [(mo, .inr (8, [.int 0, .ref m1, .ref m2, .ref m3, .long 0, .long 1, .ref m6, .ref m7, .ref m8, .ref m9, .ref m10, .ref m11, .ref m12, .ref m13, .ref m14, .ref m15, .ref m16])), (m3, .inl (cI, 1024, .inl fb))] sz) [(mo, .inr (8, [.int 0, .ref m1, .ref m2, .ref m3, .long 0, .long 1, .ref m6, .ref m7, .ref m8, .ref m9, .ref m10, .ref m11, .ref m12, .ref m13, .ref m14, .ref m15, .ref m16])), (m3, .inl (cI, 1024, .inl fx))]) (va_A [(mo, .inr (8, [.int 0, .ref m1, .ref m2, .ref m3, .long 0, .long 1, .ref m6, .ref m7, .ref m8, .ref m9, .ref m10, .ref m11, .ref m12, .ref m13, .ref m14, .ref m15, .ref m16])), (m3, .inl (cI, 1024, .inl fb))] sz)) 0 0 (va_A [(mo, .inr (8, [.int 0, .ref m1, .ref m2, .ref m3, .long 0, .long 1, .ref m6, .ref m7, .ref m8, .ref m9, .ref m10, .ref m11, .ref m12, .ref m13, .ref m14, .ref m15, .ref m16])), (m3, .inl (cI, 1024, .inl fb))] sz) := by
  refine Met.ofW (cc := cX8_fresh) (maxL := 3) (ret := none) (by decide) rfl ?_
  intro p e s m args below meth c s₁ B hml hv
  obtain ⟨rfl, hsz, hP, hK, hD0, hN⟩ := hv
  subst hsz
  have hx := B.exec
  have hb := B.bytes
  have hr := B.returns
  have hts := atoms_spec (ws := wsX8_fresh) B.pre
  have hown : s.vm.findClass RX8 = some m.cls := findClass_of_methodNamed B.named
  have hlocks := B.notSynchronized
  have hD := hD0.self (sz := s.heap.size)
  generalize hAe : va_A [(mo, .inr (8, [.int 0, .ref m1, .ref m2, .ref m3, .long 0, .long 1, .ref m6, .ref m7, .ref m8, .ref m9, .ref m10, .ref m11, .ref m12, .ref m13, .ref m14, .ref m15, .ref m16])), (m3, .inl (cI, 1024, .inl fb))] s.heap.size = A at hD ⊢
  have hA : ∀ q : Nat, s.heap.size ≤ q → A q := fun q h => by rw [← hAe]; exact Or.inr h
  have hS : va_S A s.heap s.heap [] := va_S.rf
  have hiX8 : ∀ w ∈ u_ws RX8 TX8 17, w ∈ wsX8_fresh := by decide +kernel
  have hl := lv_entry ([.ref mo, .int 0]) (n := 3) (Nat.le_of_ble_eq_true rfl)
  rw [lg_entry_eq]
  generalize (lg_sl ([.ref mo, .int 0]) ++ List.replicate (3 - (lg_sl ([.ref mo, .int 0])).length) Slot.unset).toArray = ls at hl ⊢
  have hl : lv_has ls 3 [(0, .ref mo), (1, .int 0)] := hl
  refine lv_iconst (v := 0) hx hb dX8_fresh_0 (by decide +kernel) ?_
  refine lv_istore_n (lv' := [(2, .int 0), (0, .ref mo), (1, .int 0)]) hx hb dX8_fresh_1 rfl hl (by decide) rfl (fun ls hl => ?_)
  refine mz_loop 128 (fun i H locs ls => ∃ f : Nat → Int32, va_P (dC, dI) vwCl [(mo, .inr (8, [.int 0, .ref m1, .ref m2, .ref m3, .long 0, .long 1, .ref m6, .ref m7, .ref m8, .ref m9, .ref m10, .ref m11, .ref m12, .ref m13, .ref m14, .ref m15, .ref m16])), (m3, .inl (cI, 1024, .inl f))] H ∧ va_D A [(mo, .inr (8, [.int 0, .ref m1, .ref m2, .ref m3, .long 0, .long 1, .ref m6, .ref m7, .ref m8, .ref m9, .ref m10, .ref m11, .ref m12, .ref m13, .ref m14, .ref m15, .ref m16])), (m3, .inl (cI, 1024, .inl f))] ∧ va_S A s.heap H locs ∧ lv_has ls 3 [(2, .int (nI i)), (0, .ref mo), (1, .int 0)]) ?_ ?_ 0 (Nat.zero_le _) _ _ _ ⟨_, hP, hD, hS, hl⟩
  · intro i H locs ls hi_ hI kk
    obtain ⟨f, hP, hD, hS, hl⟩ := hI
    refine lv_iload_n hx hb dX8_fresh_2 rfl (lv_at hl 0 rfl) ?_
    refine lv_sipush (v := 128) hx hb dX8_fresh_3 (by decide +kernel) ?_
    refine lv_icmp_ge (tgt := 29) hx hb dX8_fresh_6 (by decide) (fun c_6 => absurd c_6 (nI_ge hi_ (by decide))) (fun _ => ?_)
    refine lv_aload_n hx hb dX8_fresh_9 rfl (lv_at hl 1 rfl) ?_
    refine va_get (D := (dC, dI)) (ci := 8) (v := .ref m3) (C := RX8) (T := TX8) (N := 17) hx hb hts hiX8 hown hK hP 0 rfl rfl 3 (by decide) (hts (.fieldLink RX8 17 "MadeItSoModel" "books" "[I") (by decide +kernel)) (fun _ h9 => h9) rfl dX8_fresh_10 ?_
    refine lv_sipush (v := 128) hx hb dX8_fresh_13 (by decide +kernel) ?_
    refine lv_iload_n hx hb dX8_fresh_16 rfl (lv_at hl 2 rfl) ?_
    refine lv_imul hx hb dX8_fresh_17 ?_
    refine mz_ti (y := 0) (by decide +kernel) ?_
    refine lv_iload_n hx hb dX8_fresh_18 rfl (lv_at hl 0 rfl) ?_
    refine lv_iadd hx hb dX8_fresh_19 ?_
    refine mz_ti (y := (nI i)) (mz_z0 _) ?_
    refine lv_bipush (v := 50) hx hb dX8_fresh_20 (by decide +kernel) ?_
    refine va_iast hx hb hK hP hD hS 1 0 rfl rfl (vp_in_nI (Nat.lt_of_lt_of_le hi_ (by decide)) (by decide)) dX8_fresh_22 (fun H locs hP hD hS => ?_)
    have hP : va_P (dC, dI) vwCl [(mo, .inr (8, [.int 0, .ref m1, .ref m2, .ref m3, .long 0, .long 1, .ref m6, .ref m7, .ref m8, .ref m9, .ref m10, .ref m11, .ref m12, .ref m13, .ref m14, .ref m15, .ref m16])), (m3, .inl (cI, 1024, .inl (upd f ((nI i) : Int32).toNatClampNeg 50)))] H := hP
    have hD : va_D A [(mo, .inr (8, [.int 0, .ref m1, .ref m2, .ref m3, .long 0, .long 1, .ref m6, .ref m7, .ref m8, .ref m9, .ref m10, .ref m11, .ref m12, .ref m13, .ref m14, .ref m15, .ref m16])), (m3, .inl (cI, 1024, .inl (upd f ((nI i) : Int32).toNatClampNeg 50)))] := hD
    refine lv_iinc (v := (nI (i + 1))) (lv' := [(2, .int (nI (i + 1))), (0, .ref mo), (1, .int 0)]) hx hb dX8_fresh_23 hl (k := 0) rfl (nI_1 i) (by decide) rfl (fun ls hl => ?_)
    refine lv_goto (tgt := 2) hx hb dX8_fresh_26 (by decide) ?_
    exact kk _ _ _ ⟨_, hP, hD, hS, lv_sub hl [0, 1, 2] rfl⟩
  · intro H locs ls hI
    obtain ⟨f, hP, hD, hS, hl⟩ := hI
    have hl : lv_has ls 3 [(2, .int 128), (0, .ref mo), (1, .int 0)] := hl
    refine lv_iload_n hx hb dX8_fresh_2 rfl (lv_at hl 0 rfl) ?_
    refine lv_sipush (v := 128) hx hb dX8_fresh_3 (by decide +kernel) ?_
    refine lv_icmp_ge (tgt := 29) hx hb dX8_fresh_6 (by decide) (fun _ => ?_) (fun c_6 => absurd (by decide +kernel) c_6)
    have hP9 := hP.sub (ws' := [(mo, .inr (8, [.int 0, .ref m1, .ref m2, .ref m3, .long 0, .long 1, .ref m6, .ref m7, .ref m8, .ref m9, .ref m10, .ref m11, .ref m12, .ref m13, .ref m14, .ref m15, .ref m16])), (m3, .inl (cI, 1024, .inl f))]) [0, 1] rfl
    have hD9 := hD.sub (ws' := [(mo, .inr (8, [.int 0, .ref m1, .ref m2, .ref m3, .long 0, .long 1, .ref m6, .ref m7, .ref m8, .ref m9, .ref m10, .ref m11, .ref m12, .ref m13, .ref m14, .ref m15, .ref m16])), (m3, .inl (cI, 1024, .inl f))]) [0, 1] (by decide) rfl
    refine W.widen (k := 0) (n := 0) (Nat.le_of_ble_eq_true rfl) (Nat.le_of_ble_eq_true rfl) ?_
    exact W.vret hx hb hr (fun t ht hW => ⟨⟨(), rfl, trivial, f, by rw [ht]; exact hP9, hD9⟩, hS.F ht⟩) hS.2.2 dX8_fresh_29
set_option maxHeartbeats 1000000 in
set_option maxRecDepth 100000 in
theorem mz_M_thing (l : Launch) (dC : Nat → ClassId) (dI : Nat → Nat → Nat) (cI cJ cZ : ClassId) (mo : Nat) (m1 : Nat) (m2 : Nat) (m3 : Nat) (m6 : Nat) (m7 : Nat) (m8 : Nat) (m9 : Nat) (m10 : Nat) (m11 : Nat) (m12 : Nat) (m13 : Nat) (m14 : Nat) (m15 : Nat) (m16 : Nat) (fs : Nat → Int32) (fp : Nat → Int32) (fb : Nat → Int32) (p1 : Int32) (sz : Nat)  : Met l yX8_thing wsX8_thing ({ frames := 1, cells := 0, slots := 0, locals := 22 }) (va_Pc [.ref mo, .int p1] (fun U => U.heap.size = sz ∧ va_P (dC, dI) vwCl [(mo, .inr (8, [.int 0, .ref m1, .ref m2, .ref m3, .long 0, .long 1, .ref m6, .ref m7, .ref m8, .ref m9, .ref m10, .ref m11, .ref m12, .ref m13, .ref m14, .ref m15, .ref m16])), (m1, .inl (cZ, 8, .inl fs)), (m2, .inl (cI, 8, .inl fp)), (m3, .inl (cI, 1024, .inl fb))] U.heap ∧ va_K (dC, dI) vwCl [(cI, FieldType.int), (cJ, FieldType.long), (cZ, FieldType.boolean)] U ∧ va_D (fun _ => True) [(mo, .inr (8, [.int 0, .ref m1, .ref m2, .ref m3, .long 0, .long 1, .ref m6, .ref m7, .ref m8, .ref m9, .ref m10, .ref m11, .ref m12, .ref m13, .ref m14, .ref m15, .ref m16])), (m1, .inl (cZ, 8, .inl fs)), (m2, .inl (cI, 8, .inl fp)), (m3, .inl (cI, 1024, .inl fb))] ∧ mz_N U)) (va_Qi (fun (r : Int32) (_ : Unit) => r = 0) (fun _ t => va_P (dC, dI) vwCl [] t.heap ∧ va_D (va_A [(mo, .inr (8, [.int 0, .ref m1, .ref m2, .ref m3, .long 0, .long 1, .ref m6, .ref m7, .ref m8, .ref m9, .ref m10, .ref m11, .ref m12, .ref m13, .ref m14, .ref m15, .ref m16])), (m1, .inl (cZ, 8, .inl fs)), (m2, .inl (cI, 8, .inl fp)), (m3, .inl (cI, 1024, .inl fb))] sz) []) (va_A [(mo, .inr (8, [.int 0, .ref m1, .ref m2, .ref m3, .long 0, .long 1, .ref m6, .ref m7, .ref m8, .ref m9, .ref m10, .ref m11, .ref m12, .ref m13, .ref m14, .ref m15, .ref m16])), (m1, .inl (cZ, 8, .inl fs)), (m2, .inl (cI, 8, .inl fp)), (m3, .inl (cI, 1024, .inl fb))] sz)) 0 0 (va_A [(mo, .inr (8, [.int 0, .ref m1, .ref m2, .ref m3, .long 0, .long 1, .ref m6, .ref m7, .ref m8, .ref m9, .ref m10, .ref m11, .ref m12, .ref m13, .ref m14, .ref m15, .ref m16])), (m1, .inl (cZ, 8, .inl fs)), (m2, .inl (cI, 8, .inl fp)), (m3, .inl (cI, 1024, .inl fb))] sz) := by
  refine Met.ofW (cc := cX8_thing) (maxL := 2) (ret := (some .int)) (by decide) rfl ?_
  intro p e s m args below meth c s₁ B hml hv
  obtain ⟨rfl, hsz, hP, hK, hD0, hN⟩ := hv
  subst hsz
  have hx := B.exec
  have hb := B.bytes
  have hr := B.returns
  have hts := atoms_spec (ws := wsX8_thing) B.pre
  have hown : s.vm.findClass RX8 = some m.cls := findClass_of_methodNamed B.named
  have hlocks := B.notSynchronized
  have hD := hD0.self (sz := s.heap.size)
  generalize hAe : va_A [(mo, .inr (8, [.int 0, .ref m1, .ref m2, .ref m3, .long 0, .long 1, .ref m6, .ref m7, .ref m8, .ref m9, .ref m10, .ref m11, .ref m12, .ref m13, .ref m14, .ref m15, .ref m16])), (m1, .inl (cZ, 8, .inl fs)), (m2, .inl (cI, 8, .inl fp)), (m3, .inl (cI, 1024, .inl fb))] s.heap.size = A at hD ⊢
  have hA : ∀ q : Nat, s.heap.size ≤ q → A q := fun q h => by rw [← hAe]; exact Or.inr h
  have hS : va_S A s.heap s.heap [] := va_S.rf
  have hiX8 : ∀ w ∈ u_ws RX8 TX8 17, w ∈ wsX8_thing := by decide +kernel
  have hl := lv_entry ([.ref mo, .int p1]) (n := 2) (Nat.le_of_ble_eq_true rfl)
  rw [lg_entry_eq]
  generalize (lg_sl ([.ref mo, .int p1]) ++ List.replicate (2 - (lg_sl ([.ref mo, .int p1])).length) Slot.unset).toArray = ls at hl ⊢
  have hl : lv_has ls 2 [(0, .ref mo), (1, .int p1)] := hl
  refine lv_aload_n hx hb dX8_thing_0 rfl (lv_at hl 0 rfl) ?_
  refine va_get (D := (dC, dI)) (ci := 8) (v := .int 0) (C := RX8) (T := TX8) (N := 17) hx hb hts hiX8 hown hK hP 0 rfl rfl 0 (by decide) (hts (.fieldLink RX8 58 "MadeItSoModel" "many" "I") (by decide +kernel)) (fun _ h9 => h9) rfl dX8_thing_1 ?_
  refine lv_bipush (v := 8) hx hb dX8_thing_4 (by decide +kernel) ?_
  refine lv_icmp_ne (tgt := 11) hx hb dX8_thing_6 (by decide) (fun _ => ?_) (fun c_6 => absurd c_6 (by decide +kernel))
  refine lv_aload_n hx hb dX8_thing_11 rfl (lv_at hl 0 rfl) ?_
  refine va_get (D := (dC, dI)) (ci := 8) (v := .ref m1) (C := RX8) (T := TX8) (N := 17) hx hb hts hiX8 hown hK hP 0 rfl rfl 1 (by decide) (hts (.fieldLink RX8 9 "MadeItSoModel" "isSeen" "[Z") (by decide +kernel)) (fun _ h9 => h9) rfl dX8_thing_12 ?_
  refine lv_aload_n hx hb dX8_thing_15 rfl (lv_at hl 0 rfl) ?_
  refine va_get (D := (dC, dI)) (ci := 8) (v := .int 0) (C := RX8) (T := TX8) (N := 17) hx hb hts hiX8 hown hK hP 0 rfl rfl 0 (by decide) (hts (.fieldLink RX8 58 "MadeItSoModel" "many" "I") (by decide +kernel)) (fun _ h9 => h9) rfl dX8_thing_16 ?_
  refine lv_iload_n hx hb dX8_thing_19 rfl (lv_at hl 1 rfl) ?_
  refine va_zast hx hb hK hP hD hS 1 2 rfl rfl (mz_in (by decide +kernel)) dX8_thing_20 (fun H locs hP hD hS => ?_)
  have hP : va_P (dC, dI) vwCl [(mo, .inr (8, [.int 0, .ref m1, .ref m2, .ref m3, .long 0, .long 1, .ref m6, .ref m7, .ref m8, .ref m9, .ref m10, .ref m11, .ref m12, .ref m13, .ref m14, .ref m15, .ref m16])), (m1, .inl (cZ, 8, .inl (upd fs (0 : Int32).toNatClampNeg (vp_nar .boolean p1)))), (m2, .inl (cI, 8, .inl fp)), (m3, .inl (cI, 1024, .inl fb))] H := hP
  have hD : va_D A [(mo, .inr (8, [.int 0, .ref m1, .ref m2, .ref m3, .long 0, .long 1, .ref m6, .ref m7, .ref m8, .ref m9, .ref m10, .ref m11, .ref m12, .ref m13, .ref m14, .ref m15, .ref m16])), (m1, .inl (cZ, 8, .inl (upd fs (0 : Int32).toNatClampNeg (vp_nar .boolean p1)))), (m2, .inl (cI, 8, .inl fp)), (m3, .inl (cI, 1024, .inl fb))] := hD
  refine lv_aload_n hx hb dX8_thing_21 rfl (lv_at hl 0 rfl) ?_
  refine va_get (D := (dC, dI)) (ci := 8) (v := .ref m2) (C := RX8) (T := TX8) (N := 17) hx hb hts hiX8 hown hK hP 0 rfl rfl 2 (by decide) (hts (.fieldLink RX8 13 "MadeItSoModel" "parents" "[I") (by decide +kernel)) (fun _ h9 => h9) rfl dX8_thing_22 ?_
  refine lv_aload_n hx hb dX8_thing_25 rfl (lv_at hl 0 rfl) ?_
  refine va_get (D := (dC, dI)) (ci := 8) (v := .int 0) (C := RX8) (T := TX8) (N := 17) hx hb hts hiX8 hown hK hP 0 rfl rfl 0 (by decide) (hts (.fieldLink RX8 58 "MadeItSoModel" "many" "I") (by decide +kernel)) (fun _ h9 => h9) rfl dX8_thing_26 ?_
  refine lv_iconst (v := 0) hx hb dX8_thing_29 (by decide +kernel) ?_
  refine va_iast hx hb hK hP hD hS 2 0 rfl rfl (mz_in (by decide +kernel)) dX8_thing_30 (fun H locs hP hD hS => ?_)
  have hP : va_P (dC, dI) vwCl [(mo, .inr (8, [.int 0, .ref m1, .ref m2, .ref m3, .long 0, .long 1, .ref m6, .ref m7, .ref m8, .ref m9, .ref m10, .ref m11, .ref m12, .ref m13, .ref m14, .ref m15, .ref m16])), (m1, .inl (cZ, 8, .inl (upd fs (0 : Int32).toNatClampNeg (vp_nar .boolean p1)))), (m2, .inl (cI, 8, .inl (upd fp (0 : Int32).toNatClampNeg 0))), (m3, .inl (cI, 1024, .inl fb))] H := hP
  have hD : va_D A [(mo, .inr (8, [.int 0, .ref m1, .ref m2, .ref m3, .long 0, .long 1, .ref m6, .ref m7, .ref m8, .ref m9, .ref m10, .ref m11, .ref m12, .ref m13, .ref m14, .ref m15, .ref m16])), (m1, .inl (cZ, 8, .inl (upd fs (0 : Int32).toNatClampNeg (vp_nar .boolean p1)))), (m2, .inl (cI, 8, .inl (upd fp (0 : Int32).toNatClampNeg 0))), (m3, .inl (cI, 1024, .inl fb))] := hD
  refine lv_aload_n hx hb dX8_thing_31 rfl (lv_at hl 0 rfl) ?_
  refine lv_aload_n hx hb dX8_thing_32 rfl (lv_at hl 0 rfl) ?_
  refine va_get (D := (dC, dI)) (ci := 8) (v := .int 0) (C := RX8) (T := TX8) (N := 17) hx hb hts hiX8 hown hK hP 0 rfl rfl 0 (by decide) (hts (.fieldLink RX8 58 "MadeItSoModel" "many" "I") (by decide +kernel)) (fun _ h9 => h9) rfl dX8_thing_33 ?_
  have hPc := hP.sub (ws' := [(mo, .inr (8, [.int 0, .ref m1, .ref m2, .ref m3, .long 0, .long 1, .ref m6, .ref m7, .ref m8, .ref m9, .ref m10, .ref m11, .ref m12, .ref m13, .ref m14, .ref m15, .ref m16])), (m3, .inl (cI, 1024, .inl fb))]) [0, 3] rfl
  have hDc := hD.sub (ws' := [(mo, .inr (8, [.int 0, .ref m1, .ref m2, .ref m3, .long 0, .long 1, .ref m6, .ref m7, .ref m8, .ref m9, .ref m10, .ref m11, .ref m12, .ref m13, .ref m14, .ref m15, .ref m16])), (m3, .inl (cI, 1024, .inl fb))]) [0, 3] (by decide) rfl
  have hFc := va_free (wc := [(mo, .inr (8, [.int 0, .ref m1, .ref m2, .ref m3, .long 0, .long 1, .ref m6, .ref m7, .ref m8, .ref m9, .ref m10, .ref m11, .ref m12, .ref m13, .ref m14, .ref m15, .ref m16])), (m3, .inl (cI, 1024, .inl fb))]) hD hS hA [0, 3] rfl
  refine va_callv (va_runV (As := [.int 0]) (rest := []) ⟨hx, hb, hml, hown, hts⟩ (mz_M_fresh0 l dC dI cI cJ cZ mo m1 m2 m3 m6 m7 m8 m9 m10 m11 m12 m13 m14 m15 m16 fb H.size ) (cwV 1 hts gX8_thing_X8_fresh rfl rfl rfl (by decide +kernel) ⟨Nat.le_of_ble_eq_true rfl, Nat.le_of_ble_eq_true rfl⟩) ⟨fun a U g mk q => mz_blI q, va_recv hK hPc (ci := 8) (q0 := 0) rfl rfl, fun U hU hW => ⟨rfl, by rw [hU], by rw [hU]; exact hPc, va_K.moved hW.alike hK, hDc.weaken (fun _ _ _ _ => trivial), mz_nw hW hN⟩⟩ rfl rfl hl.1 rfl (lv_room (Nat.le_of_ble_eq_true rfl)) dX8_thing_36 ⟨Nat.le_of_ble_eq_true rfl, Nat.le_of_ble_eq_true rfl⟩) hS (fun q _ h => hFc q h) hFc (fun u t H1 locs ht hvm hw hB hz1 hk1 hS => ?_)
  obtain ⟨fx1, hP1, hD1⟩ := hB
  rw [ht] at hP1
  obtain ⟨hP, hD⟩ := va_join (wr := [(m1, .inl (cZ, 8, .inl (upd fs (0 : Int32).toNatClampNeg (vp_nar .boolean p1)))), (m2, .inl (cI, 8, .inl (upd fp (0 : Int32).toNatClampNeg 0)))]) (w1 := [(mo, .inr (8, [.int 0, .ref m1, .ref m2, .ref m3, .long 0, .long 1, .ref m6, .ref m7, .ref m8, .ref m9, .ref m10, .ref m11, .ref m12, .ref m13, .ref m14, .ref m15, .ref m16])), (m3, .inl (cI, 1024, .inl fx1))]) hP hD [0, 3] [1, 2] rfl rfl (by decide) (by decide) hk1 hFc hP1 hD1
  generalize H1 = H at hP hS ⊢
  have hP : va_P (dC, dI) vwCl [(m1, .inl (cZ, 8, .inl (upd fs (0 : Int32).toNatClampNeg (vp_nar .boolean p1)))), (m2, .inl (cI, 8, .inl (upd fp (0 : Int32).toNatClampNeg 0))), (mo, .inr (8, [.int 0, .ref m1, .ref m2, .ref m3, .long 0, .long 1, .ref m6, .ref m7, .ref m8, .ref m9, .ref m10, .ref m11, .ref m12, .ref m13, .ref m14, .ref m15, .ref m16])), (m3, .inl (cI, 1024, .inl fx1))] H := hP
  have hD : va_D A [(m1, .inl (cZ, 8, .inl (upd fs (0 : Int32).toNatClampNeg (vp_nar .boolean p1)))), (m2, .inl (cI, 8, .inl (upd fp (0 : Int32).toNatClampNeg 0))), (mo, .inr (8, [.int 0, .ref m1, .ref m2, .ref m3, .long 0, .long 1, .ref m6, .ref m7, .ref m8, .ref m9, .ref m10, .ref m11, .ref m12, .ref m13, .ref m14, .ref m15, .ref m16])), (m3, .inl (cI, 1024, .inl fx1))] := hD
  refine lv_aload_n hx hb dX8_thing_39 rfl (lv_at hl 0 rfl) ?_
  refine lv_dup hx hb dX8_thing_40 rfl ?_
  refine va_get (D := (dC, dI)) (ci := 8) (v := .int 0) (C := RX8) (T := TX8) (N := 17) hx hb hts hiX8 hown hK hP 2 rfl rfl 0 (by decide) (hts (.fieldLink RX8 58 "MadeItSoModel" "many" "I") (by decide +kernel)) (fun _ h9 => h9) rfl dX8_thing_41 ?_
  refine lv_iconst (v := 1) hx hb dX8_thing_44 (by decide +kernel) ?_
  refine lv_iadd hx hb dX8_thing_45 ?_
  refine mz_ti (y := 1) (by decide +kernel) ?_
  refine va_put (D := (dC, dI)) (ci := 8) (v := .int 1) (ty := .int) (C := RX8) (T := TX8) (N := 17) hx hb hts hiX8 tyX8 tyX8_ok nmX8 hown hK hP hD hS 2 rfl rfl 0 (by decide) (hts (.fieldLink RX8 58 "MadeItSoModel" "many" "I") (by decide +kernel)) (fun _ h9 => h9) rfl (by decide +kernel) rfl rfl (Nat.le_of_ble_eq_true rfl) dX8_thing_46 (fun H locs hP hD hS => ?_)
  have hP : va_P (dC, dI) vwCl [(m1, .inl (cZ, 8, .inl (upd fs (0 : Int32).toNatClampNeg (vp_nar .boolean p1)))), (m2, .inl (cI, 8, .inl (upd fp (0 : Int32).toNatClampNeg 0))), (mo, .inr (8, [.int 1, .ref m1, .ref m2, .ref m3, .long 0, .long 1, .ref m6, .ref m7, .ref m8, .ref m9, .ref m10, .ref m11, .ref m12, .ref m13, .ref m14, .ref m15, .ref m16])), (m3, .inl (cI, 1024, .inl fx1))] H := hP
  have hD : va_D A [(m1, .inl (cZ, 8, .inl (upd fs (0 : Int32).toNatClampNeg (vp_nar .boolean p1)))), (m2, .inl (cI, 8, .inl (upd fp (0 : Int32).toNatClampNeg 0))), (mo, .inr (8, [.int 1, .ref m1, .ref m2, .ref m3, .long 0, .long 1, .ref m6, .ref m7, .ref m8, .ref m9, .ref m10, .ref m11, .ref m12, .ref m13, .ref m14, .ref m15, .ref m16])), (m3, .inl (cI, 1024, .inl fx1))] := hD
  refine lv_aload_n hx hb dX8_thing_49 rfl (lv_at hl 0 rfl) ?_
  refine va_get (D := (dC, dI)) (ci := 8) (v := .int 1) (C := RX8) (T := TX8) (N := 17) hx hb hts hiX8 hown hK hP 2 rfl rfl 0 (by decide) (hts (.fieldLink RX8 58 "MadeItSoModel" "many" "I") (by decide +kernel)) (fun _ h9 => h9) rfl dX8_thing_50 ?_
  refine lv_iconst (v := 1) hx hb dX8_thing_53 (by decide +kernel) ?_
  refine lv_isub hx hb dX8_thing_54 ?_
  refine mz_ti (y := 0) (by decide +kernel) ?_
  have hP9 := hP.sub (ws' := []) [] rfl
  have hD9 := hD.sub (ws' := []) [] (by decide) rfl
  refine W.widen (k := 0) (n := 0) (Nat.le_of_ble_eq_true rfl) (Nat.le_of_ble_eq_true rfl) ?_
  exact W.iret (v := 0) hx hb hr (fun t ht hW => ⟨⟨0, (), rfl, rfl, by rw [ht]; exact hP9, hD9⟩, hS.F ht⟩) hS.2.2 dX8_thing_55
set_option maxHeartbeats 1000000 in
set_option maxRecDepth 100000 in
theorem mz_M_chance (l : Launch) (dC : Nat → ClassId) (dI : Nat → Nat → Nat) (cI cJ cZ : ClassId) (mo : Nat) (m1 : Nat) (m2 : Nat) (m3 : Nat) (m6 : Nat) (m7 : Nat) (m8 : Nat) (m9 : Nat) (m10 : Nat) (m11 : Nat) (m12 : Nat) (m13 : Nat) (m14 : Nat) (m15 : Nat) (m16 : Nat) (p1 : Int32) (p2 : Int32) (p3 : Int32) (sz : Nat)  : Met l yX8_chance wsX8_chance ({ frames := 2, cells := 0, slots := 0, locals := 51 }) (va_Pc [.ref mo, .int p1, .int p2, .int p3] (fun U => U.heap.size = sz ∧ va_P (dC, dI) vwCl [(mo, .inr (8, [.int 0, .ref m1, .ref m2, .ref m3, .long 0, .long 1, .ref m6, .ref m7, .ref m8, .ref m9, .ref m10, .ref m11, .ref m12, .ref m13, .ref m14, .ref m15, .ref m16]))] U.heap ∧ va_K (dC, dI) vwCl [(cI, FieldType.int), (cJ, FieldType.long), (cZ, FieldType.boolean)] U ∧ va_D (fun _ => True) [(mo, .inr (8, [.int 0, .ref m1, .ref m2, .ref m3, .long 0, .long 1, .ref m6, .ref m7, .ref m8, .ref m9, .ref m10, .ref m11, .ref m12, .ref m13, .ref m14, .ref m15, .ref m16]))] ∧ mz_N U)) (va_Qi (fun (r : Int32) (_ : Unit) => r = (if p1 = 0 ∧ p2 = 0 ∧ p3 = 0 then 1 else (-1))) (fun _ t => va_P (dC, dI) vwCl [] t.heap ∧ va_D (va_A [(mo, .inr (8, [.int 0, .ref m1, .ref m2, .ref m3, .long 0, .long 1, .ref m6, .ref m7, .ref m8, .ref m9, .ref m10, .ref m11, .ref m12, .ref m13, .ref m14, .ref m15, .ref m16]))] sz) []) (va_A [(mo, .inr (8, [.int 0, .ref m1, .ref m2, .ref m3, .long 0, .long 1, .ref m6, .ref m7, .ref m8, .ref m9, .ref m10, .ref m11, .ref m12, .ref m13, .ref m14, .ref m15, .ref m16]))] sz)) 0 0 (va_A [(mo, .inr (8, [.int 0, .ref m1, .ref m2, .ref m3, .long 0, .long 1, .ref m6, .ref m7, .ref m8, .ref m9, .ref m10, .ref m11, .ref m12, .ref m13, .ref m14, .ref m15, .ref m16]))] sz) := by
  refine Met.ofW (cc := cX8_chance) (maxL := 10) (ret := (some .int)) (by decide) rfl ?_
  intro p e s m args below meth c s₁ B hml hv
  obtain ⟨rfl, hsz, hP, hK, hD0, hN⟩ := hv
  subst hsz
  have hx := B.exec
  have hb := B.bytes
  have hr := B.returns
  have hts := atoms_spec (ws := wsX8_chance) B.pre
  have hown : s.vm.findClass RX8 = some m.cls := findClass_of_methodNamed B.named
  have hlocks := B.notSynchronized
  have hD := hD0.self (sz := s.heap.size)
  generalize hAe : va_A [(mo, .inr (8, [.int 0, .ref m1, .ref m2, .ref m3, .long 0, .long 1, .ref m6, .ref m7, .ref m8, .ref m9, .ref m10, .ref m11, .ref m12, .ref m13, .ref m14, .ref m15, .ref m16]))] s.heap.size = A at hD ⊢
  have hA : ∀ q : Nat, s.heap.size ≤ q → A q := fun q h => by rw [← hAe]; exact Or.inr h
  have hS : va_S A s.heap s.heap [] := va_S.rf
  have hiX8 : ∀ w ∈ u_ws RX8 TX8 17, w ∈ wsX8_chance := by decide +kernel
  have hl := lv_entry ([.ref mo, .int p1, .int p2, .int p3]) (n := 10) (Nat.le_of_ble_eq_true rfl)
  rw [lg_entry_eq]
  generalize (lg_sl ([.ref mo, .int p1, .int p2, .int p3]) ++ List.replicate (10 - (lg_sl ([.ref mo, .int p1, .int p2, .int p3])).length) Slot.unset).toArray = ls at hl ⊢
  have hl : lv_has ls 10 [(0, .ref mo), (1, .int p1), (2, .int p2), (3, .int p3)] := hl
  refine lv_aload_n hx hb dX8_chance_0 rfl (lv_at hl 0 rfl) ?_
  refine lv_lconst (v := 0) hx hb dX8_chance_1 (by decide +kernel) ?_
  refine va_put (D := (dC, dI)) (ci := 8) (v := .long 0) (ty := .long) (C := RX8) (T := TX8) (N := 17) hx hb hts hiX8 tyX8 tyX8_ok nmX8 hown hK hP hD hS 0 rfl rfl 4 (by decide) (hts (.fieldLink RX8 110 "MadeItSoModel" "above" "J") (by decide +kernel)) (fun _ h9 => h9) rfl (by decide +kernel) rfl rfl (Nat.le_of_ble_eq_true rfl) dX8_chance_2 (fun H locs hP hD hS => ?_)
  have hP : va_P (dC, dI) vwCl [(mo, .inr (8, [.int 0, .ref m1, .ref m2, .ref m3, .long 0, .long 1, .ref m6, .ref m7, .ref m8, .ref m9, .ref m10, .ref m11, .ref m12, .ref m13, .ref m14, .ref m15, .ref m16]))] H := hP
  have hD : va_D A [(mo, .inr (8, [.int 0, .ref m1, .ref m2, .ref m3, .long 0, .long 1, .ref m6, .ref m7, .ref m8, .ref m9, .ref m10, .ref m11, .ref m12, .ref m13, .ref m14, .ref m15, .ref m16]))] := hD
  refine lv_aload_n hx hb dX8_chance_5 rfl (lv_at hl 0 rfl) ?_
  refine lv_lconst (v := 1) hx hb dX8_chance_6 (by decide +kernel) ?_
  refine va_put (D := (dC, dI)) (ci := 8) (v := .long 1) (ty := .long) (C := RX8) (T := TX8) (N := 17) hx hb hts hiX8 tyX8 tyX8_ok nmX8 hown hK hP hD hS 0 rfl rfl 5 (by decide) (hts (.fieldLink RX8 20 "MadeItSoModel" "below" "J") (by decide +kernel)) (fun _ h9 => h9) rfl (by decide +kernel) rfl rfl (Nat.le_of_ble_eq_true rfl) dX8_chance_7 (fun H locs hP hD hS => ?_)
  have hP : va_P (dC, dI) vwCl [(mo, .inr (8, [.int 0, .ref m1, .ref m2, .ref m3, .long 0, .long 1, .ref m6, .ref m7, .ref m8, .ref m9, .ref m10, .ref m11, .ref m12, .ref m13, .ref m14, .ref m15, .ref m16]))] H := hP
  have hD : va_D A [(mo, .inr (8, [.int 0, .ref m1, .ref m2, .ref m3, .long 0, .long 1, .ref m6, .ref m7, .ref m8, .ref m9, .ref m10, .ref m11, .ref m12, .ref m13, .ref m14, .ref m15, .ref m16]))] := hD
  refine lv_aload_n hx hb dX8_chance_10 rfl (lv_at hl 0 rfl) ?_
  refine lv_iload_n hx hb dX8_chance_11 rfl (lv_at hl 1 rfl) ?_
  by_cases hz_12 : p1 = 0
  · subst hz_12
    have hPc := hP.sub (ws' := [(mo, .inr (8, [.int 0, .ref m1, .ref m2, .ref m3, .long 0, .long 1, .ref m6, .ref m7, .ref m8, .ref m9, .ref m10, .ref m11, .ref m12, .ref m13, .ref m14, .ref m15, .ref m16]))]) [0] rfl
    refine va_calli (va_runV (As := [.int 0]) (rest := []) ⟨hx, hb, hml, hown, hts⟩ (mz_M_isSetting_0 l dC dI cI cJ cZ mo m1 m2 m3 m6 m7 m8 m9 m10 m11 m12 m13 m14 m15 m16 0 1 H ) (cwV 1 hts gX8_chance_X8_isSetting rfl rfl rfl (by decide +kernel) ⟨Nat.le_of_ble_eq_true rfl, Nat.le_of_ble_eq_true rfl⟩) ⟨fun a U g mk q => mz_blP q, va_recv hK hPc (ci := 8) (q0 := 0) rfl rfl, fun U hU hW => ⟨rfl, hU, hPc, va_K.moved hW.alike hK, mz_nw hW hN⟩⟩ rfl rfl hl.1 rfl (lv_room (Nat.le_of_ble_eq_true rfl)) dX8_chance_12 ⟨Nat.le_of_ble_eq_true rfl, Nat.le_of_ble_eq_true rfl⟩) hS (fun q _ h => h.elim) (fun q h => h.elim) (fun r u t H1 locs ht hvm hw hB hz1 hk1 hS => ?_)
    have hE : H = H1 := hB.symm.trans ht
    subst hE
    obtain rfl : r = 1 := hw
    refine lv_if_eq (tgt := 34) hx hb dX8_chance_15 (by decide) (fun c_15 => absurd c_15 (by decide +kernel)) (fun _ => ?_)
    refine lv_aload_n hx hb dX8_chance_18 rfl (lv_at hl 0 rfl) ?_
    refine lv_iload_n hx hb dX8_chance_19 rfl (lv_at hl 2 rfl) ?_
    by_cases hz_20 : p2 = 0
    · subst hz_20
      have hPc := hP.sub (ws' := [(mo, .inr (8, [.int 0, .ref m1, .ref m2, .ref m3, .long 0, .long 1, .ref m6, .ref m7, .ref m8, .ref m9, .ref m10, .ref m11, .ref m12, .ref m13, .ref m14, .ref m15, .ref m16]))]) [0] rfl
      refine va_calli (va_runV (As := [.int 0]) (rest := []) ⟨hx, hb, hml, hown, hts⟩ (mz_M_isSetting_0 l dC dI cI cJ cZ mo m1 m2 m3 m6 m7 m8 m9 m10 m11 m12 m13 m14 m15 m16 0 1 H ) (cwV 1 hts gX8_chance_X8_isSetting rfl rfl rfl (by decide +kernel) ⟨Nat.le_of_ble_eq_true rfl, Nat.le_of_ble_eq_true rfl⟩) ⟨fun a U g mk q => mz_blP q, va_recv hK hPc (ci := 8) (q0 := 0) rfl rfl, fun U hU hW => ⟨rfl, hU, hPc, va_K.moved hW.alike hK, mz_nw hW hN⟩⟩ rfl rfl hl.1 rfl (lv_room (Nat.le_of_ble_eq_true rfl)) dX8_chance_20 ⟨Nat.le_of_ble_eq_true rfl, Nat.le_of_ble_eq_true rfl⟩) hS (fun q _ h => h.elim) (fun q h => h.elim) (fun r u t H1 locs ht hvm hw hB hz1 hk1 hS => ?_)
      have hE : H = H1 := hB.symm.trans ht
      subst hE
      obtain rfl : r = 1 := hw
      refine lv_if_eq (tgt := 34) hx hb dX8_chance_23 (by decide) (fun c_23 => absurd c_23 (by decide +kernel)) (fun _ => ?_)
      refine lv_aload_n hx hb dX8_chance_26 rfl (lv_at hl 0 rfl) ?_
      refine lv_iload_n hx hb dX8_chance_27 rfl (lv_at hl 3 rfl) ?_
      by_cases hz_28 : p3 = 0
      · subst hz_28
        have hPc := hP.sub (ws' := [(mo, .inr (8, [.int 0, .ref m1, .ref m2, .ref m3, .long 0, .long 1, .ref m6, .ref m7, .ref m8, .ref m9, .ref m10, .ref m11, .ref m12, .ref m13, .ref m14, .ref m15, .ref m16]))]) [0] rfl
        refine va_calli (va_runV (As := [.int 0]) (rest := []) ⟨hx, hb, hml, hown, hts⟩ (mz_M_isSetting_0 l dC dI cI cJ cZ mo m1 m2 m3 m6 m7 m8 m9 m10 m11 m12 m13 m14 m15 m16 0 1 H ) (cwV 1 hts gX8_chance_X8_isSetting rfl rfl rfl (by decide +kernel) ⟨Nat.le_of_ble_eq_true rfl, Nat.le_of_ble_eq_true rfl⟩) ⟨fun a U g mk q => mz_blP q, va_recv hK hPc (ci := 8) (q0 := 0) rfl rfl, fun U hU hW => ⟨rfl, hU, hPc, va_K.moved hW.alike hK, mz_nw hW hN⟩⟩ rfl rfl hl.1 rfl (lv_room (Nat.le_of_ble_eq_true rfl)) dX8_chance_28 ⟨Nat.le_of_ble_eq_true rfl, Nat.le_of_ble_eq_true rfl⟩) hS (fun q _ h => h.elim) (fun q h => h.elim) (fun r u t H1 locs ht hvm hw hB hz1 hk1 hS => ?_)
        have hE : H = H1 := hB.symm.trans ht
        subst hE
        obtain rfl : r = 1 := hw
        refine lv_if_ne (tgt := 36) hx hb dX8_chance_31 (by decide) (fun _ => ?_) (fun c_31 => absurd c_31 (by decide +kernel))
        refine lv_aload_n hx hb dX8_chance_36 rfl (lv_at hl 0 rfl) ?_
        refine lv_iload_n hx hb dX8_chance_37 rfl (lv_at hl 2 rfl) ?_
        refine lv_iload_n hx hb dX8_chance_38 rfl (lv_at hl 3 rfl) ?_
        have hPc := hP.sub (ws' := [(mo, .inr (8, [.int 0, .ref m1, .ref m2, .ref m3, .long 0, .long 1, .ref m6, .ref m7, .ref m8, .ref m9, .ref m10, .ref m11, .ref m12, .ref m13, .ref m14, .ref m15, .ref m16]))]) [0] rfl
        refine va_calll (va_runV (As := [.int 0, .int 0]) (rest := []) ⟨hx, hb, hml, hown, hts⟩ (mz_M_sum0 l dC dI cI cJ cZ mo m1 m2 m3 m6 m7 m8 m9 m10 m11 m12 m13 m14 m15 m16 0 1 H ) (cwV 2 hts gX8_chance_X8_sum rfl rfl rfl (by decide +kernel) ⟨Nat.le_of_ble_eq_true rfl, Nat.le_of_ble_eq_true rfl⟩) ⟨fun a U g mk q => mz_blP q, va_recv hK hPc (ci := 8) (q0 := 0) rfl rfl, fun U hU hW => ⟨rfl, hU, hPc, va_K.moved hW.alike hK, mz_nw hW hN⟩⟩ rfl rfl hl.1 rfl (lv_room (Nat.le_of_ble_eq_true rfl)) dX8_chance_39 ⟨Nat.le_of_ble_eq_true rfl, Nat.le_of_ble_eq_true rfl⟩) hS (fun q _ h => h.elim) (fun q h => h.elim) (fun r u t H1 locs ht hvm hw hB hz1 hk1 hS => ?_)
        have hE : H = H1 := hB.symm.trans ht
        subst hE
        obtain rfl : r = 1 := hw
        refine lv_lstore (lv' := [(4, .long 1), (0, .ref mo), (1, .int 0), (2, .int 0), (3, .int 0)]) hx hb dX8_chance_42 hl (by decide) rfl (fun ls hl => ?_)
        refine lv_lload hx hb dX8_chance_44 (lv_at hl 0 rfl) ?_
        refine lv_lconst (v := 0) hx hb dX8_chance_46 (by decide +kernel) ?_
        refine W.lcmp hx hb dX8_chance_47 ?_
        refine mz_ti (y := 1) (by decide +kernel) ?_
        refine lv_if_ne (tgt := 53) hx hb dX8_chance_48 (by decide) (fun _ => ?_) (fun c_48 => absurd c_48 (by decide +kernel))
        refine lv_lconst (v := 0) hx hb dX8_chance_53 (by decide +kernel) ?_
        refine lv_lstore (lv' := [(6, .long 0), (4, .long 1), (0, .ref mo), (1, .int 0), (2, .int 0), (3, .int 0)]) hx hb dX8_chance_54 hl (by decide) rfl (fun ls hl => ?_)
        refine lv_iconst (v := 0) hx hb dX8_chance_56 (by decide +kernel) ?_
        refine lv_istore (lv' := [(8, .int 0), (6, .long 0), (4, .long 1), (0, .ref mo), (1, .int 0), (2, .int 0), (3, .int 0)]) hx hb dX8_chance_57 hl (by decide) rfl (fun ls hl => ?_)
        refine lv_iload hx hb dX8_chance_59 (lv_at hl 0 rfl) ?_
        refine lv_iconst (v := 1) hx hb dX8_chance_61 (by decide +kernel) ?_
        refine lv_aload_n hx hb dX8_chance_62 rfl (lv_at hl 3 rfl) ?_
        refine va_get (D := (dC, dI)) (ci := 8) (v := .int 0) (C := RX8) (T := TX8) (N := 17) hx hb hts hiX8 hown hK hP 0 rfl rfl 0 (by decide) (hts (.fieldLink RX8 58 "MadeItSoModel" "many" "I") (by decide +kernel)) (fun _ h9 => h9) rfl dX8_chance_63 ?_
        refine lv_ishl hx hb dX8_chance_66 ?_
        refine mz_ti (y := 1) (by decide +kernel) ?_
        refine lv_icmp_ge (tgt := 132) hx hb dX8_chance_67 (by decide) (fun c_67 => absurd c_67 (by decide +kernel)) (fun _ => ?_)
        refine lv_iload hx hb dX8_chance_70 (lv_at hl 0 rfl) ?_
        refine lv_iload_n hx hb dX8_chance_72 rfl (lv_at hl 4 rfl) ?_
        refine lv_bipush (v := 8) hx hb dX8_chance_73 (by decide +kernel) ?_
        refine lv_ishr hx hb dX8_chance_75 ?_
        refine mz_ti (y := 0) (by decide +kernel) ?_
        refine lv_ixor hx hb dX8_chance_76 ?_
        refine mz_ti (y := 0) (by decide +kernel) ?_
        refine lv_iload_n hx hb dX8_chance_77 rfl (lv_at hl 4 rfl) ?_
        refine lv_iand hx hb dX8_chance_78 ?_
        refine mz_ti (y := 0) (by decide +kernel) ?_
        refine lv_sipush (v := 255) hx hb dX8_chance_79 (by decide +kernel) ?_
        refine lv_iand hx hb dX8_chance_82 ?_
        refine mz_ti (y := 0) (by decide +kernel) ?_
        refine lv_if_ne (tgt := 106) hx hb dX8_chance_83 (by decide) (fun c_83 => absurd (by decide +kernel) c_83) (fun _ => ?_)
        refine lv_iload hx hb dX8_chance_86 (lv_at hl 0 rfl) ?_
        refine lv_iload_n hx hb dX8_chance_88 rfl (lv_at hl 5 rfl) ?_
        refine lv_bipush (v := 8) hx hb dX8_chance_89 (by decide +kernel) ?_
        refine lv_ishr hx hb dX8_chance_91 ?_
        refine mz_ti (y := 0) (by decide +kernel) ?_
        refine lv_ixor hx hb dX8_chance_92 ?_
        refine mz_ti (y := 0) (by decide +kernel) ?_
        refine lv_iload_n hx hb dX8_chance_93 rfl (lv_at hl 5 rfl) ?_
        refine lv_iand hx hb dX8_chance_94 ?_
        refine mz_ti (y := 0) (by decide +kernel) ?_
        refine lv_sipush (v := 255) hx hb dX8_chance_95 (by decide +kernel) ?_
        refine lv_iand hx hb dX8_chance_98 ?_
        refine mz_ti (y := 0) (by decide +kernel) ?_
        refine lv_if_ne (tgt := 106) hx hb dX8_chance_99 (by decide) (fun c_99 => absurd (by decide +kernel) c_99) (fun _ => ?_)
        refine lv_iconst (v := 1) hx hb dX8_chance_102 (by decide +kernel) ?_
        refine lv_goto (tgt := 107) hx hb dX8_chance_103 (by decide) ?_
        refine lv_istore (lv' := [(9, .int 1), (8, .int 0), (6, .long 0), (4, .long 1), (0, .ref mo), (1, .int 0), (2, .int 0), (3, .int 0)]) hx hb dX8_chance_107 hl (by decide) rfl (fun ls hl => ?_)
        refine lv_iload hx hb dX8_chance_109 (lv_at hl 0 rfl) ?_
        refine lv_if_eq (tgt := 126) hx hb dX8_chance_111 (by decide) (fun c_111 => absurd c_111 (by decide +kernel)) (fun _ => ?_)
        refine lv_lload hx hb dX8_chance_114 (lv_at hl 2 rfl) ?_
        refine lv_aload_n hx hb dX8_chance_116 rfl (lv_at hl 4 rfl) ?_
        refine lv_iload hx hb dX8_chance_117 (lv_at hl 1 rfl) ?_
        refine lv_iload_n hx hb dX8_chance_119 rfl (lv_at hl 7 rfl) ?_
        have hPc := hP.sub (ws' := [(mo, .inr (8, [.int 0, .ref m1, .ref m2, .ref m3, .long 0, .long 1, .ref m6, .ref m7, .ref m8, .ref m9, .ref m10, .ref m11, .ref m12, .ref m13, .ref m14, .ref m15, .ref m16]))]) [0] rfl
        refine va_calll (va_runV (As := [.int 0, .int 0]) (rest := [.long 0]) ⟨hx, hb, hml, hown, hts⟩ (mz_M_weightOf0 l dC dI cI cJ cZ mo m1 m2 m3 m6 m7 m8 m9 m10 m11 m12 m13 m14 m15 m16 0 1 H ) (cwV 2 hts gX8_chance_X8_weightOf rfl rfl rfl (by decide +kernel) ⟨Nat.le_of_ble_eq_true rfl, Nat.le_of_ble_eq_true rfl⟩) ⟨fun a U g mk q => mz_blP q, va_recv hK hPc (ci := 8) (q0 := 0) rfl rfl, fun U hU hW => ⟨rfl, hU, hPc, va_K.moved hW.alike hK, mz_nw hW hN⟩⟩ rfl rfl hl.1 rfl (lv_room (Nat.le_of_ble_eq_true rfl)) dX8_chance_120 ⟨Nat.le_of_ble_eq_true rfl, Nat.le_of_ble_eq_true rfl⟩) hS (fun q _ h => h.elim) (fun q h => h.elim) (fun r u t H1 locs ht hvm hw hB hz1 hk1 hS => ?_)
        have hE : H = H1 := hB.symm.trans ht
        subst hE
        obtain rfl : r = 1 := hw
        refine lv_ladd hx hb dX8_chance_123 ?_
        refine mz_tl (y := 1) (by decide +kernel) ?_
        refine lv_lstore (lv' := [(6, .long 1), (9, .int 1), (8, .int 0), (4, .long 1), (0, .ref mo), (1, .int 0), (2, .int 0), (3, .int 0)]) hx hb dX8_chance_124 hl (by decide) rfl (fun ls hl => ?_)
        refine lv_iinc (v := 1) (lv' := [(8, .int 1), (6, .long 1), (9, .int 1), (4, .long 1), (0, .ref mo), (1, .int 0), (2, .int 0), (3, .int 0)]) hx hb dX8_chance_126 hl (k := 2) rfl (by decide +kernel) (by decide) rfl (fun ls hl => ?_)
        refine lv_goto (tgt := 59) hx hb dX8_chance_129 (by decide) ?_
        refine lv_iload hx hb dX8_chance_59 (lv_at hl 0 rfl) ?_
        refine lv_iconst (v := 1) hx hb dX8_chance_61 (by decide +kernel) ?_
        refine lv_aload_n hx hb dX8_chance_62 rfl (lv_at hl 4 rfl) ?_
        refine va_get (D := (dC, dI)) (ci := 8) (v := .int 0) (C := RX8) (T := TX8) (N := 17) hx hb hts hiX8 hown hK hP 0 rfl rfl 0 (by decide) (hts (.fieldLink RX8 58 "MadeItSoModel" "many" "I") (by decide +kernel)) (fun _ h9 => h9) rfl dX8_chance_63 ?_
        refine lv_ishl hx hb dX8_chance_66 ?_
        refine mz_ti (y := 1) (by decide +kernel) ?_
        refine lv_icmp_ge (tgt := 132) hx hb dX8_chance_67 (by decide) (fun _ => ?_) (fun c_67 => absurd (by decide +kernel) c_67)
        refine lv_lload hx hb dX8_chance_132 (lv_at hl 1 rfl) ?_
        refine lv_lload hx hb dX8_chance_134 (lv_at hl 3 rfl) ?_
        have hPc := hP.sub (ws' := []) [] rfl
        refine va_calll (va_runS (As := [.long 1, .long 1]) (rest := []) ⟨hx, hb, hml, hown, hts⟩ (mz_M_shared1 l dC dI cI cJ cZ  H ) (va_cwS 2 hts gX8_chance_X8_shared rfl rfl rfl (by decide +kernel) ⟨Nat.le_of_ble_eq_true rfl, Nat.le_of_ble_eq_true rfl⟩) ⟨fun a U g mk q => mz_blP q, fun U hU hW => ⟨rfl, hU, hPc, va_K.moved hW.alike hK, mz_nw hW hN⟩⟩ rfl rfl hl.1 rfl (lv_room (Nat.le_of_ble_eq_true rfl)) dX8_chance_136 ⟨Nat.le_of_ble_eq_true rfl, Nat.le_of_ble_eq_true rfl⟩) hS (fun q _ h => h.elim) (fun q h => h.elim) (fun r u t H1 locs ht hvm hw hB hz1 hk1 hS => ?_)
        have hE : H = H1 := hB.symm.trans ht
        subst hE
        obtain rfl : r = 1 := hw
        refine lv_lstore (lv' := [(8, .long 1), (6, .long 1), (4, .long 1), (0, .ref mo), (1, .int 0), (2, .int 0), (3, .int 0)]) hx hb dX8_chance_139 hl (by decide) rfl (fun ls hl => ?_)
        refine lv_aload_n hx hb dX8_chance_141 rfl (lv_at hl 3 rfl) ?_
        refine lv_lload hx hb dX8_chance_142 (lv_at hl 1 rfl) ?_
        refine lv_lload hx hb dX8_chance_144 (lv_at hl 0 rfl) ?_
        refine lv_ldiv hx hb dX8_chance_146 (by decide +kernel) ?_
        refine mz_tl (y := 1) (by decide +kernel) ?_
        refine va_put (D := (dC, dI)) (ci := 8) (v := .long 1) (ty := .long) (C := RX8) (T := TX8) (N := 17) hx hb hts hiX8 tyX8 tyX8_ok nmX8 hown hK hP hD hS 0 rfl rfl 4 (by decide) (hts (.fieldLink RX8 110 "MadeItSoModel" "above" "J") (by decide +kernel)) (fun _ h9 => h9) rfl (by decide +kernel) rfl rfl (Nat.le_of_ble_eq_true rfl) dX8_chance_147 (fun H locs hP hD hS => ?_)
        have hP : va_P (dC, dI) vwCl [(mo, .inr (8, [.int 0, .ref m1, .ref m2, .ref m3, .long 1, .long 1, .ref m6, .ref m7, .ref m8, .ref m9, .ref m10, .ref m11, .ref m12, .ref m13, .ref m14, .ref m15, .ref m16]))] H := hP
        have hD : va_D A [(mo, .inr (8, [.int 0, .ref m1, .ref m2, .ref m3, .long 1, .long 1, .ref m6, .ref m7, .ref m8, .ref m9, .ref m10, .ref m11, .ref m12, .ref m13, .ref m14, .ref m15, .ref m16]))] := hD
        refine lv_aload_n hx hb dX8_chance_150 rfl (lv_at hl 3 rfl) ?_
        refine lv_lload hx hb dX8_chance_151 (lv_at hl 2 rfl) ?_
        refine lv_lload hx hb dX8_chance_153 (lv_at hl 0 rfl) ?_
        refine lv_ldiv hx hb dX8_chance_155 (by decide +kernel) ?_
        refine mz_tl (y := 1) (by decide +kernel) ?_
        refine va_put (D := (dC, dI)) (ci := 8) (v := .long 1) (ty := .long) (C := RX8) (T := TX8) (N := 17) hx hb hts hiX8 tyX8 tyX8_ok nmX8 hown hK hP hD hS 0 rfl rfl 5 (by decide) (hts (.fieldLink RX8 20 "MadeItSoModel" "below" "J") (by decide +kernel)) (fun _ h9 => h9) rfl (by decide +kernel) rfl rfl (Nat.le_of_ble_eq_true rfl) dX8_chance_156 (fun H locs hP hD hS => ?_)
        have hP : va_P (dC, dI) vwCl [(mo, .inr (8, [.int 0, .ref m1, .ref m2, .ref m3, .long 1, .long 1, .ref m6, .ref m7, .ref m8, .ref m9, .ref m10, .ref m11, .ref m12, .ref m13, .ref m14, .ref m15, .ref m16]))] H := hP
        have hD : va_D A [(mo, .inr (8, [.int 0, .ref m1, .ref m2, .ref m3, .long 1, .long 1, .ref m6, .ref m7, .ref m8, .ref m9, .ref m10, .ref m11, .ref m12, .ref m13, .ref m14, .ref m15, .ref m16]))] := hD
        refine lv_iconst (v := 1) hx hb dX8_chance_159 (by decide +kernel) ?_
        have hP9 := hP.sub (ws' := []) [] rfl
        have hD9 := hD.sub (ws' := []) [] (by decide) rfl
        refine W.widen (k := 0) (n := 0) (Nat.le_of_ble_eq_true rfl) (Nat.le_of_ble_eq_true rfl) ?_
        exact W.iret (v := 1) hx hb hr (fun t ht hW => ⟨⟨1, (), rfl, by simp [*], by rw [ht]; exact hP9, hD9⟩, hS.F ht⟩) hS.2.2 dX8_chance_160
      · skip
        have hPc := hP.sub (ws' := [(mo, .inr (8, [.int 0, .ref m1, .ref m2, .ref m3, .long 0, .long 1, .ref m6, .ref m7, .ref m8, .ref m9, .ref m10, .ref m11, .ref m12, .ref m13, .ref m14, .ref m15, .ref m16]))]) [0] rfl
        refine va_calli (va_runV (As := [.int p3]) (rest := []) ⟨hx, hb, hml, hown, hts⟩ (mz_M_isSetting_n l dC dI cI cJ cZ mo m1 m2 m3 m6 m7 m8 m9 m10 m11 m12 m13 m14 m15 m16 0 1 p3 H hz_28) (cwV 1 hts gX8_chance_X8_isSetting rfl rfl rfl (by decide +kernel) ⟨Nat.le_of_ble_eq_true rfl, Nat.le_of_ble_eq_true rfl⟩) ⟨fun a U g mk q => mz_blP q, va_recv hK hPc (ci := 8) (q0 := 0) rfl rfl, fun U hU hW => ⟨rfl, hU, hPc, va_K.moved hW.alike hK, mz_nw hW hN⟩⟩ rfl rfl hl.1 rfl (lv_room (Nat.le_of_ble_eq_true rfl)) dX8_chance_28 ⟨Nat.le_of_ble_eq_true rfl, Nat.le_of_ble_eq_true rfl⟩) hS (fun q _ h => h.elim) (fun q h => h.elim) (fun r u t H1 locs ht hvm hw hB hz1 hk1 hS => ?_)
        have hE : H = H1 := hB.symm.trans ht
        subst hE
        obtain rfl : r = 0 := hw
        refine lv_if_ne (tgt := 36) hx hb dX8_chance_31 (by decide) (fun c_31 => absurd (by decide +kernel) c_31) (fun _ => ?_)
        refine lv_iconst (v := (-1)) hx hb dX8_chance_34 (by decide +kernel) ?_
        have hP9 := hP.sub (ws' := []) [] rfl
        have hD9 := hD.sub (ws' := []) [] (by decide) rfl
        refine W.widen (k := 0) (n := 0) (Nat.le_of_ble_eq_true rfl) (Nat.le_of_ble_eq_true rfl) ?_
        exact W.iret (v := (-1)) hx hb hr (fun t ht hW => ⟨⟨(-1), (), rfl, by simp [*], by rw [ht]; exact hP9, hD9⟩, hS.F ht⟩) hS.2.2 dX8_chance_35
    · skip
      have hPc := hP.sub (ws' := [(mo, .inr (8, [.int 0, .ref m1, .ref m2, .ref m3, .long 0, .long 1, .ref m6, .ref m7, .ref m8, .ref m9, .ref m10, .ref m11, .ref m12, .ref m13, .ref m14, .ref m15, .ref m16]))]) [0] rfl
      refine va_calli (va_runV (As := [.int p2]) (rest := []) ⟨hx, hb, hml, hown, hts⟩ (mz_M_isSetting_n l dC dI cI cJ cZ mo m1 m2 m3 m6 m7 m8 m9 m10 m11 m12 m13 m14 m15 m16 0 1 p2 H hz_20) (cwV 1 hts gX8_chance_X8_isSetting rfl rfl rfl (by decide +kernel) ⟨Nat.le_of_ble_eq_true rfl, Nat.le_of_ble_eq_true rfl⟩) ⟨fun a U g mk q => mz_blP q, va_recv hK hPc (ci := 8) (q0 := 0) rfl rfl, fun U hU hW => ⟨rfl, hU, hPc, va_K.moved hW.alike hK, mz_nw hW hN⟩⟩ rfl rfl hl.1 rfl (lv_room (Nat.le_of_ble_eq_true rfl)) dX8_chance_20 ⟨Nat.le_of_ble_eq_true rfl, Nat.le_of_ble_eq_true rfl⟩) hS (fun q _ h => h.elim) (fun q h => h.elim) (fun r u t H1 locs ht hvm hw hB hz1 hk1 hS => ?_)
      have hE : H = H1 := hB.symm.trans ht
      subst hE
      obtain rfl : r = 0 := hw
      refine lv_if_eq (tgt := 34) hx hb dX8_chance_23 (by decide) (fun _ => ?_) (fun c_23 => absurd (by decide +kernel) c_23)
      refine lv_iconst (v := (-1)) hx hb dX8_chance_34 (by decide +kernel) ?_
      have hP9 := hP.sub (ws' := []) [] rfl
      have hD9 := hD.sub (ws' := []) [] (by decide) rfl
      refine W.widen (k := 0) (n := 0) (Nat.le_of_ble_eq_true rfl) (Nat.le_of_ble_eq_true rfl) ?_
      exact W.iret (v := (-1)) hx hb hr (fun t ht hW => ⟨⟨(-1), (), rfl, by simp [*], by rw [ht]; exact hP9, hD9⟩, hS.F ht⟩) hS.2.2 dX8_chance_35
  · skip
    have hPc := hP.sub (ws' := [(mo, .inr (8, [.int 0, .ref m1, .ref m2, .ref m3, .long 0, .long 1, .ref m6, .ref m7, .ref m8, .ref m9, .ref m10, .ref m11, .ref m12, .ref m13, .ref m14, .ref m15, .ref m16]))]) [0] rfl
    refine va_calli (va_runV (As := [.int p1]) (rest := []) ⟨hx, hb, hml, hown, hts⟩ (mz_M_isSetting_n l dC dI cI cJ cZ mo m1 m2 m3 m6 m7 m8 m9 m10 m11 m12 m13 m14 m15 m16 0 1 p1 H hz_12) (cwV 1 hts gX8_chance_X8_isSetting rfl rfl rfl (by decide +kernel) ⟨Nat.le_of_ble_eq_true rfl, Nat.le_of_ble_eq_true rfl⟩) ⟨fun a U g mk q => mz_blP q, va_recv hK hPc (ci := 8) (q0 := 0) rfl rfl, fun U hU hW => ⟨rfl, hU, hPc, va_K.moved hW.alike hK, mz_nw hW hN⟩⟩ rfl rfl hl.1 rfl (lv_room (Nat.le_of_ble_eq_true rfl)) dX8_chance_12 ⟨Nat.le_of_ble_eq_true rfl, Nat.le_of_ble_eq_true rfl⟩) hS (fun q _ h => h.elim) (fun q h => h.elim) (fun r u t H1 locs ht hvm hw hB hz1 hk1 hS => ?_)
    have hE : H = H1 := hB.symm.trans ht
    subst hE
    obtain rfl : r = 0 := hw
    refine lv_if_eq (tgt := 34) hx hb dX8_chance_15 (by decide) (fun _ => ?_) (fun c_15 => absurd (by decide +kernel) c_15)
    refine lv_iconst (v := (-1)) hx hb dX8_chance_34 (by decide +kernel) ?_
    have hP9 := hP.sub (ws' := []) [] rfl
    have hD9 := hD.sub (ws' := []) [] (by decide) rfl
    refine W.widen (k := 0) (n := 0) (Nat.le_of_ble_eq_true rfl) (Nat.le_of_ble_eq_true rfl) ?_
    exact W.iret (v := (-1)) hx hb hr (fun t ht hW => ⟨⟨(-1), (), rfl, by simp [*], by rw [ht]; exact hP9, hD9⟩, hS.F ht⟩) hS.2.2 dX8_chance_35
set_option maxHeartbeats 1000000 in
set_option maxRecDepth 100000 in
theorem mz_M_drawings (l : Launch) (dC : Nat → ClassId) (dI : Nat → Nat → Nat) (cI cJ cZ : ClassId) (mo : Nat) (m1 : Nat) (m2 : Nat) (m3 : Nat) (m6 : Nat) (m7 : Nat) (m8 : Nat) (m9 : Nat) (m10 : Nat) (m11 : Nat) (m12 : Nat) (m13 : Nat) (m14 : Nat) (m15 : Nat) (m16 : Nat) (fa : Nat → Int32) (fc : Nat → Int32) (sz : Nat)  : Met l yX8_drawings wsX8_drawings ({ frames := 0, cells := 0, slots := 0, locals := 0 }) (va_Pc [.ref mo] (fun U => U.heap.size = sz ∧ va_P (dC, dI) vwCl [(mo, .inr (8, [.int 0, .ref m1, .ref m2, .ref m3, .long 0, .long 1, .ref m6, .ref m7, .ref m8, .ref m9, .ref m10, .ref m11, .ref m12, .ref m13, .ref m14, .ref m15, .ref m16])), (m15, .inl (cZ, 64, .inl fa)), (m13, .inl (cI, 9, .inl fc))] U.heap ∧ va_K (dC, dI) vwCl [(cI, FieldType.int), (cJ, FieldType.long), (cZ, FieldType.boolean)] U ∧ va_D (fun _ => True) [(mo, .inr (8, [.int 0, .ref m1, .ref m2, .ref m3, .long 0, .long 1, .ref m6, .ref m7, .ref m8, .ref m9, .ref m10, .ref m11, .ref m12, .ref m13, .ref m14, .ref m15, .ref m16])), (m15, .inl (cZ, 64, .inl fa)), (m13, .inl (cI, 9, .inl fc))] ∧ mz_N U)) (va_Qi (fun (r : Int32) (_ : Unit) => r = 1) (fun _ t => va_P (dC, dI) vwCl [] t.heap ∧ va_D (va_A [(mo, .inr (8, [.int 0, .ref m1, .ref m2, .ref m3, .long 0, .long 1, .ref m6, .ref m7, .ref m8, .ref m9, .ref m10, .ref m11, .ref m12, .ref m13, .ref m14, .ref m15, .ref m16])), (m15, .inl (cZ, 64, .inl fa)), (m13, .inl (cI, 9, .inl fc))] sz) []) (va_A [(mo, .inr (8, [.int 0, .ref m1, .ref m2, .ref m3, .long 0, .long 1, .ref m6, .ref m7, .ref m8, .ref m9, .ref m10, .ref m11, .ref m12, .ref m13, .ref m14, .ref m15, .ref m16])), (m15, .inl (cZ, 64, .inl fa)), (m13, .inl (cI, 9, .inl fc))] sz)) 0 0 (va_A [(mo, .inr (8, [.int 0, .ref m1, .ref m2, .ref m3, .long 0, .long 1, .ref m6, .ref m7, .ref m8, .ref m9, .ref m10, .ref m11, .ref m12, .ref m13, .ref m14, .ref m15, .ref m16])), (m15, .inl (cZ, 64, .inl fa)), (m13, .inl (cI, 9, .inl fc))] sz) := by
  refine Met.ofW (cc := cX8_drawings) (maxL := 6) (ret := (some .int)) (by decide) rfl ?_
  intro p e s m args below meth c s₁ B hml hv
  obtain ⟨rfl, hsz, hP, hK, hD0, hN⟩ := hv
  subst hsz
  have hx := B.exec
  have hb := B.bytes
  have hr := B.returns
  have hts := atoms_spec (ws := wsX8_drawings) B.pre
  have hown : s.vm.findClass RX8 = some m.cls := findClass_of_methodNamed B.named
  have hlocks := B.notSynchronized
  have hD := hD0.self (sz := s.heap.size)
  generalize hAe : va_A [(mo, .inr (8, [.int 0, .ref m1, .ref m2, .ref m3, .long 0, .long 1, .ref m6, .ref m7, .ref m8, .ref m9, .ref m10, .ref m11, .ref m12, .ref m13, .ref m14, .ref m15, .ref m16])), (m15, .inl (cZ, 64, .inl fa)), (m13, .inl (cI, 9, .inl fc))] s.heap.size = A at hD ⊢
  have hA : ∀ q : Nat, s.heap.size ≤ q → A q := fun q h => by rw [← hAe]; exact Or.inr h
  have hS : va_S A s.heap s.heap [] := va_S.rf
  have hiX8 : ∀ w ∈ u_ws RX8 TX8 17, w ∈ wsX8_drawings := by decide +kernel
  have hl := lv_entry ([.ref mo]) (n := 6) (Nat.le_of_ble_eq_true rfl)
  rw [lg_entry_eq]
  generalize (lg_sl ([.ref mo]) ++ List.replicate (6 - (lg_sl ([.ref mo])).length) Slot.unset).toArray = ls at hl ⊢
  have hl : lv_has ls 6 [(0, .ref mo)] := hl
  refine lv_iconst (v := 0) hx hb dX8_drawings_0 (by decide +kernel) ?_
  refine lv_istore_n (lv' := [(1, .int 0), (0, .ref mo)]) hx hb dX8_drawings_1 rfl hl (by decide) rfl (fun ls hl => ?_)
  refine lv_iload_n hx hb dX8_drawings_2 rfl (lv_at hl 0 rfl) ?_
  refine lv_aload_n hx hb dX8_drawings_3 rfl (lv_at hl 1 rfl) ?_
  refine va_get (D := (dC, dI)) (ci := 8) (v := .int 0) (C := RX8) (T := TX8) (N := 17) hx hb hts hiX8 hown hK hP 0 rfl rfl 0 (by decide) (hts (.fieldLink RX8 58 "MadeItSoModel" "many" "I") (by decide +kernel)) (fun _ h9 => h9) rfl dX8_drawings_4 ?_
  refine lv_icmp_ge (tgt := 69) hx hb dX8_drawings_7 (by decide) (fun _ => ?_) (fun c_7 => absurd (by decide +kernel) c_7)
  refine lv_iconst (v := 0) hx hb dX8_drawings_69 (by decide +kernel) ?_
  refine lv_istore_n (lv' := [(1, .int 0), (0, .ref mo)]) hx hb dX8_drawings_70 rfl hl (by decide) rfl (fun ls hl => ?_)
  refine mz_loop 64 (fun i H locs ls => ∃ f : Nat → Int32, va_P (dC, dI) vwCl [(mo, .inr (8, [.int 0, .ref m1, .ref m2, .ref m3, .long 0, .long 1, .ref m6, .ref m7, .ref m8, .ref m9, .ref m10, .ref m11, .ref m12, .ref m13, .ref m14, .ref m15, .ref m16])), (m15, .inl (cZ, 64, .inl f)), (m13, .inl (cI, 9, .inl fc))] H ∧ va_D A [(mo, .inr (8, [.int 0, .ref m1, .ref m2, .ref m3, .long 0, .long 1, .ref m6, .ref m7, .ref m8, .ref m9, .ref m10, .ref m11, .ref m12, .ref m13, .ref m14, .ref m15, .ref m16])), (m15, .inl (cZ, 64, .inl f)), (m13, .inl (cI, 9, .inl fc))] ∧ va_S A s.heap H locs ∧ lv_has ls 6 [(1, .int (nI i)), (0, .ref mo)]) ?_ ?_ 0 (Nat.zero_le _) _ _ _ ⟨_, hP, hD, hS, hl⟩
  · intro i H locs ls hi_ hI kk
    obtain ⟨f, hP, hD, hS, hl⟩ := hI
    refine lv_iload_n hx hb dX8_drawings_71 rfl (lv_at hl 0 rfl) ?_
    refine lv_bipush (v := 64) hx hb dX8_drawings_72 (by decide +kernel) ?_
    refine lv_icmp_ge (tgt := 90) hx hb dX8_drawings_74 (by decide) (fun c_74 => absurd c_74 (nI_ge hi_ (by decide))) (fun _ => ?_)
    refine lv_aload_n hx hb dX8_drawings_77 rfl (lv_at hl 1 rfl) ?_
    refine va_get (D := (dC, dI)) (ci := 8) (v := .ref m15) (C := RX8) (T := TX8) (N := 17) hx hb hts hiX8 hown hK hP 0 rfl rfl 15 (by decide) (hts (.fieldLink RX8 52 "MadeItSoModel" "isAlways" "[Z") (by decide +kernel)) (fun _ h9 => h9) rfl dX8_drawings_78 ?_
    refine lv_iload_n hx hb dX8_drawings_81 rfl (lv_at hl 0 rfl) ?_
    refine lv_iconst (v := 1) hx hb dX8_drawings_82 (by decide +kernel) ?_
    refine va_zast hx hb hK hP hD hS 1 2 rfl rfl (vp_in_nI (Nat.lt_of_lt_of_le hi_ (by decide)) (by decide)) dX8_drawings_83 (fun H locs hP hD hS => ?_)
    have hP : va_P (dC, dI) vwCl [(mo, .inr (8, [.int 0, .ref m1, .ref m2, .ref m3, .long 0, .long 1, .ref m6, .ref m7, .ref m8, .ref m9, .ref m10, .ref m11, .ref m12, .ref m13, .ref m14, .ref m15, .ref m16])), (m15, .inl (cZ, 64, .inl (upd f ((nI i) : Int32).toNatClampNeg (vp_nar .boolean 1)))), (m13, .inl (cI, 9, .inl fc))] H := hP
    have hD : va_D A [(mo, .inr (8, [.int 0, .ref m1, .ref m2, .ref m3, .long 0, .long 1, .ref m6, .ref m7, .ref m8, .ref m9, .ref m10, .ref m11, .ref m12, .ref m13, .ref m14, .ref m15, .ref m16])), (m15, .inl (cZ, 64, .inl (upd f ((nI i) : Int32).toNatClampNeg (vp_nar .boolean 1)))), (m13, .inl (cI, 9, .inl fc))] := hD
    refine lv_iinc (v := (nI (i + 1))) (lv' := [(1, .int (nI (i + 1))), (0, .ref mo)]) hx hb dX8_drawings_84 hl (k := 0) rfl (nI_1 i) (by decide) rfl (fun ls hl => ?_)
    refine lv_goto (tgt := 71) hx hb dX8_drawings_87 (by decide) ?_
    exact kk _ _ _ ⟨_, hP, hD, hS, lv_sub hl [0, 1] rfl⟩
  · intro H locs ls hI
    obtain ⟨f, hP, hD, hS, hl⟩ := hI
    have hl : lv_has ls 6 [(1, .int 64), (0, .ref mo)] := hl
    refine lv_iload_n hx hb dX8_drawings_71 rfl (lv_at hl 0 rfl) ?_
    refine lv_bipush (v := 64) hx hb dX8_drawings_72 (by decide +kernel) ?_
    refine lv_icmp_ge (tgt := 90) hx hb dX8_drawings_74 (by decide) (fun _ => ?_) (fun c_74 => absurd (by decide +kernel) c_74)
    refine lv_iconst (v := 0) hx hb dX8_drawings_90 (by decide +kernel) ?_
    refine lv_istore_n (lv' := [(1, .int 0), (0, .ref mo)]) hx hb dX8_drawings_91 rfl hl (by decide) rfl (fun ls hl => ?_)
    refine lv_iconst (v := 0) hx hb dX8_drawings_92 (by decide +kernel) ?_
    refine lv_istore_n (lv' := [(2, .int 0), (1, .int 0), (0, .ref mo)]) hx hb dX8_drawings_93 rfl hl (by decide) rfl (fun ls hl => ?_)
    refine lv_iconst (v := 0) hx hb dX8_drawings_94 (by decide +kernel) ?_
    refine lv_istore_n (lv' := [(3, .int 0), (2, .int 0), (1, .int 0), (0, .ref mo)]) hx hb dX8_drawings_95 rfl hl (by decide) rfl (fun ls hl => ?_)
    refine lv_aload_n hx hb dX8_drawings_96 rfl (lv_at hl 3 rfl) ?_
    refine va_get (D := (dC, dI)) (ci := 8) (v := .ref m13) (C := RX8) (T := TX8) (N := 17) hx hb hts hiX8 hown hK hP 0 rfl rfl 13 (by decide) (hts (.fieldLink RX8 46 "MadeItSoModel" "choice" "[I") (by decide +kernel)) (fun _ h9 => h9) rfl dX8_drawings_97 ?_
    refine lv_iconst (v := 0) hx hb dX8_drawings_100 (by decide +kernel) ?_
    refine lv_iconst (v := 0) hx hb dX8_drawings_101 (by decide +kernel) ?_
    refine va_iast hx hb hK hP hD hS 2 0 rfl rfl (mz_in (by decide +kernel)) dX8_drawings_102 (fun H locs hP hD hS => ?_)
    have hP : va_P (dC, dI) vwCl [(mo, .inr (8, [.int 0, .ref m1, .ref m2, .ref m3, .long 0, .long 1, .ref m6, .ref m7, .ref m8, .ref m9, .ref m10, .ref m11, .ref m12, .ref m13, .ref m14, .ref m15, .ref m16])), (m15, .inl (cZ, 64, .inl f)), (m13, .inl (cI, 9, .inl (upd fc (0 : Int32).toNatClampNeg 0)))] H := hP
    have hD : va_D A [(mo, .inr (8, [.int 0, .ref m1, .ref m2, .ref m3, .long 0, .long 1, .ref m6, .ref m7, .ref m8, .ref m9, .ref m10, .ref m11, .ref m12, .ref m13, .ref m14, .ref m15, .ref m16])), (m15, .inl (cZ, 64, .inl f)), (m13, .inl (cI, 9, .inl (upd fc (0 : Int32).toNatClampNeg 0)))] := hD
    refine lv_iload_n hx hb dX8_drawings_103 rfl (lv_at hl 1 rfl) ?_
    refine lv_if_lt (tgt := 351) hx hb dX8_drawings_104 (by decide) (fun c_104 => absurd c_104 (by decide +kernel)) (fun _ => ?_)
    refine lv_iload_n hx hb dX8_drawings_107 rfl (lv_at hl 1 rfl) ?_
    refine lv_aload_n hx hb dX8_drawings_108 rfl (lv_at hl 3 rfl) ?_
    refine va_get (D := (dC, dI)) (ci := 8) (v := .int 0) (C := RX8) (T := TX8) (N := 17) hx hb hts hiX8 hown hK hP 0 rfl rfl 0 (by decide) (hts (.fieldLink RX8 58 "MadeItSoModel" "many" "I") (by decide +kernel)) (fun _ h9 => h9) rfl dX8_drawings_109 ?_
    refine lv_icmp_ne (tgt := 204) hx hb dX8_drawings_112 (by decide) (fun c_112 => absurd (by decide +kernel) c_112) (fun _ => ?_)
    refine lv_iinc (v := 1) (lv' := [(1, .int 1), (3, .int 0), (2, .int 0), (0, .ref mo)]) hx hb dX8_drawings_115 hl (k := 2) rfl (by decide +kernel) (by decide) rfl (fun ls hl => ?_)
    refine lv_iconst (v := 0) hx hb dX8_drawings_118 (by decide +kernel) ?_
    refine lv_istore (lv' := [(4, .int 0), (1, .int 1), (3, .int 0), (2, .int 0), (0, .ref mo)]) hx hb dX8_drawings_119 hl (by decide) rfl (fun ls hl => ?_)
    refine lv_iload hx hb dX8_drawings_121 (lv_at hl 0 rfl) ?_
    refine lv_aload_n hx hb dX8_drawings_123 rfl (lv_at hl 4 rfl) ?_
    refine va_get (D := (dC, dI)) (ci := 8) (v := .int 0) (C := RX8) (T := TX8) (N := 17) hx hb hts hiX8 hown hK hP 0 rfl rfl 0 (by decide) (hts (.fieldLink RX8 58 "MadeItSoModel" "many" "I") (by decide +kernel)) (fun _ h9 => h9) rfl dX8_drawings_124 ?_
    refine lv_icmp_ge (tgt := 204) hx hb dX8_drawings_127 (by decide) (fun _ => ?_) (fun c_127 => absurd (by decide +kernel) c_127)
    refine lv_iload_n hx hb dX8_drawings_204 rfl (lv_at hl 3 rfl) ?_
    refine lv_aload_n hx hb dX8_drawings_205 rfl (lv_at hl 4 rfl) ?_
    refine va_get (D := (dC, dI)) (ci := 8) (v := .int 0) (C := RX8) (T := TX8) (N := 17) hx hb hts hiX8 hown hK hP 0 rfl rfl 0 (by decide) (hts (.fieldLink RX8 58 "MadeItSoModel" "many" "I") (by decide +kernel)) (fun _ h9 => h9) rfl dX8_drawings_206 ?_
    refine lv_icmp_ne (tgt := 219) hx hb dX8_drawings_209 (by decide) (fun c_209 => absurd (by decide +kernel) c_209) (fun _ => ?_)
    refine lv_aload_n hx hb dX8_drawings_212 rfl (lv_at hl 4 rfl) ?_
    refine va_get (D := (dC, dI)) (ci := 8) (v := .int 0) (C := RX8) (T := TX8) (N := 17) hx hb hts hiX8 hown hK hP 0 rfl rfl 0 (by decide) (hts (.fieldLink RX8 58 "MadeItSoModel" "many" "I") (by decide +kernel)) (fun _ h9 => h9) rfl dX8_drawings_213 ?_
    refine lv_goto (tgt := 225) hx hb dX8_drawings_216 (by decide) ?_
    refine lv_istore (lv' := [(4, .int 0), (1, .int 1), (3, .int 0), (2, .int 0), (0, .ref mo)]) hx hb dX8_drawings_225 hl (by decide) rfl (fun ls hl => ?_)
    refine lv_iload hx hb dX8_drawings_227 (lv_at hl 0 rfl) ?_
    refine lv_aload_n hx hb dX8_drawings_229 rfl (lv_at hl 4 rfl) ?_
    refine va_get (D := (dC, dI)) (ci := 8) (v := .int 0) (C := RX8) (T := TX8) (N := 17) hx hb hts hiX8 hown hK hP 0 rfl rfl 0 (by decide) (hts (.fieldLink RX8 58 "MadeItSoModel" "many" "I") (by decide +kernel)) (fun _ h9 => h9) rfl dX8_drawings_230 ?_
    refine lv_icmp_ne (tgt := 259) hx hb dX8_drawings_233 (by decide) (fun c_233 => absurd (by decide +kernel) c_233) (fun _ => ?_)
    refine lv_iinc (v := (-1)) (lv' := [(2, .int (-1)), (4, .int 0), (1, .int 1), (3, .int 0), (0, .ref mo)]) hx hb dX8_drawings_236 hl (k := 3) rfl (by decide +kernel) (by decide) rfl (fun ls hl => ?_)
    refine lv_iload_n hx hb dX8_drawings_239 rfl (lv_at hl 0 rfl) ?_
    refine lv_if_lt (tgt := 103) hx hb dX8_drawings_240 (by decide) (fun _ => ?_) (fun c_240 => absurd (by decide +kernel) c_240)
    refine lv_iload_n hx hb dX8_drawings_103 rfl (lv_at hl 0 rfl) ?_
    refine lv_if_lt (tgt := 351) hx hb dX8_drawings_104 (by decide) (fun _ => ?_) (fun c_104 => absurd (by decide +kernel) c_104)
    refine lv_iload_n hx hb dX8_drawings_351 rfl (lv_at hl 2 rfl) ?_
    have hP9 := hP.sub (ws' := []) [] rfl
    have hD9 := hD.sub (ws' := []) [] (by decide) rfl
    refine W.widen (k := 0) (n := 0) (Nat.le_of_ble_eq_true rfl) (Nat.le_of_ble_eq_true rfl) ?_
    exact W.iret (v := 1) hx hb hr (fun t ht hW => ⟨⟨1, (), rfl, rfl, by rw [ht]; exact hP9, hD9⟩, hS.F ht⟩) hS.2.2 dX8_drawings_352
set_option maxHeartbeats 1000000 in
set_option maxRecDepth 100000 in
theorem mz_M_alike (l : Launch) (dC : Nat → ClassId) (dI : Nat → Nat → Nat) (cI cJ cZ : ClassId) (mo : Nat) (m1 : Nat) (m2 : Nat) (m3 : Nat) (m6 : Nat) (m7 : Nat) (m8 : Nat) (m9 : Nat) (m10 : Nat) (m11 : Nat) (m12 : Nat) (m13 : Nat) (m14 : Nat) (m15 : Nat) (m16 : Nat) (fa : Nat → Int32) (fc : Nat → Int32) (sz : Nat)  : Met l yX8_alike wsX8_alike ({ frames := 1, cells := 0, slots := 0, locals := 25 }) (va_Pc [.ref mo] (fun U => U.heap.size = sz ∧ va_P (dC, dI) vwCl [(mo, .inr (8, [.int 0, .ref m1, .ref m2, .ref m3, .long 0, .long 1, .ref m6, .ref m7, .ref m8, .ref m9, .ref m10, .ref m11, .ref m12, .ref m13, .ref m14, .ref m15, .ref m16])), (m15, .inl (cZ, 64, .inl fa)), (m13, .inl (cI, 9, .inl fc))] U.heap ∧ va_K (dC, dI) vwCl [(cI, FieldType.int), (cJ, FieldType.long), (cZ, FieldType.boolean)] U ∧ va_D (fun _ => True) [(mo, .inr (8, [.int 0, .ref m1, .ref m2, .ref m3, .long 0, .long 1, .ref m6, .ref m7, .ref m8, .ref m9, .ref m10, .ref m11, .ref m12, .ref m13, .ref m14, .ref m15, .ref m16])), (m15, .inl (cZ, 64, .inl fa)), (m13, .inl (cI, 9, .inl fc))] ∧ mz_N U)) (va_Qi (fun (r : Int32) (_ : Unit) => r = 1) (fun _ t => va_P (dC, dI) vwCl [] t.heap ∧ va_D (va_A [(mo, .inr (8, [.int 0, .ref m1, .ref m2, .ref m3, .long 0, .long 1, .ref m6, .ref m7, .ref m8, .ref m9, .ref m10, .ref m11, .ref m12, .ref m13, .ref m14, .ref m15, .ref m16])), (m15, .inl (cZ, 64, .inl fa)), (m13, .inl (cI, 9, .inl fc))] sz) []) (va_A [(mo, .inr (8, [.int 0, .ref m1, .ref m2, .ref m3, .long 0, .long 1, .ref m6, .ref m7, .ref m8, .ref m9, .ref m10, .ref m11, .ref m12, .ref m13, .ref m14, .ref m15, .ref m16])), (m15, .inl (cZ, 64, .inl fa)), (m13, .inl (cI, 9, .inl fc))] sz)) 0 0 (va_A [(mo, .inr (8, [.int 0, .ref m1, .ref m2, .ref m3, .long 0, .long 1, .ref m6, .ref m7, .ref m8, .ref m9, .ref m10, .ref m11, .ref m12, .ref m13, .ref m14, .ref m15, .ref m16])), (m15, .inl (cZ, 64, .inl fa)), (m13, .inl (cI, 9, .inl fc))] sz) := by
  refine Met.ofW (cc := cX8_alike) (maxL := 1) (ret := (some .int)) (by decide) rfl ?_
  intro p e s m args below meth c s₁ B hml hv
  obtain ⟨rfl, hsz, hP, hK, hD0, hN⟩ := hv
  subst hsz
  have hx := B.exec
  have hb := B.bytes
  have hr := B.returns
  have hts := atoms_spec (ws := wsX8_alike) B.pre
  have hown : s.vm.findClass RX8 = some m.cls := findClass_of_methodNamed B.named
  have hlocks := B.notSynchronized
  have hD := hD0.self (sz := s.heap.size)
  generalize hAe : va_A [(mo, .inr (8, [.int 0, .ref m1, .ref m2, .ref m3, .long 0, .long 1, .ref m6, .ref m7, .ref m8, .ref m9, .ref m10, .ref m11, .ref m12, .ref m13, .ref m14, .ref m15, .ref m16])), (m15, .inl (cZ, 64, .inl fa)), (m13, .inl (cI, 9, .inl fc))] s.heap.size = A at hD ⊢
  have hA : ∀ q : Nat, s.heap.size ≤ q → A q := fun q h => by rw [← hAe]; exact Or.inr h
  have hS : va_S A s.heap s.heap [] := va_S.rf
  have hl := lv_entry ([.ref mo]) (n := 1) (Nat.le_of_ble_eq_true rfl)
  rw [lg_entry_eq]
  generalize (lg_sl ([.ref mo]) ++ List.replicate (1 - (lg_sl ([.ref mo])).length) Slot.unset).toArray = ls at hl ⊢
  have hl : lv_has ls 1 [(0, .ref mo)] := hl
  refine lv_aload_n hx hb dX8_alike_0 rfl (lv_at hl 0 rfl) ?_
  have hPc := hP.sub (ws' := [(mo, .inr (8, [.int 0, .ref m1, .ref m2, .ref m3, .long 0, .long 1, .ref m6, .ref m7, .ref m8, .ref m9, .ref m10, .ref m11, .ref m12, .ref m13, .ref m14, .ref m15, .ref m16])), (m15, .inl (cZ, 64, .inl fa)), (m13, .inl (cI, 9, .inl fc))]) [0, 1, 2] rfl
  have hDc := hD.sub (ws' := [(mo, .inr (8, [.int 0, .ref m1, .ref m2, .ref m3, .long 0, .long 1, .ref m6, .ref m7, .ref m8, .ref m9, .ref m10, .ref m11, .ref m12, .ref m13, .ref m14, .ref m15, .ref m16])), (m15, .inl (cZ, 64, .inl fa)), (m13, .inl (cI, 9, .inl fc))]) [0, 1, 2] (by decide) rfl
  have hFc := va_free (wc := [(mo, .inr (8, [.int 0, .ref m1, .ref m2, .ref m3, .long 0, .long 1, .ref m6, .ref m7, .ref m8, .ref m9, .ref m10, .ref m11, .ref m12, .ref m13, .ref m14, .ref m15, .ref m16])), (m15, .inl (cZ, 64, .inl fa)), (m13, .inl (cI, 9, .inl fc))]) hD hS hA [0, 1, 2] rfl
  refine va_calli (va_runV (As := []) (rest := []) ⟨hx, hb, hml, hown, hts⟩ (mz_M_drawings l dC dI cI cJ cZ mo m1 m2 m3 m6 m7 m8 m9 m10 m11 m12 m13 m14 m15 m16 fa fc s.heap.size ) (cwV 0 hts gX8_alike_X8_drawings rfl rfl rfl (by decide +kernel) ⟨Nat.le_of_ble_eq_true rfl, Nat.le_of_ble_eq_true rfl⟩) ⟨fun a U g mk q => mz_blI q, va_recv hK hPc (ci := 8) (q0 := 0) rfl rfl, fun U hU hW => ⟨rfl, by rw [hU], by rw [hU]; exact hPc, va_K.moved hW.alike hK, hDc.weaken (fun _ _ _ _ => trivial), mz_nw hW hN⟩⟩ rfl rfl hl.1 rfl (lv_room (Nat.le_of_ble_eq_true rfl)) dX8_alike_1 ⟨Nat.le_of_ble_eq_true rfl, Nat.le_of_ble_eq_true rfl⟩) hS (fun q _ h => hFc q h) hFc (fun r u t H1 locs ht hvm hw hB hz1 hk1 hS => ?_)
  obtain ⟨hP1, hD1⟩ := hB
  rw [ht] at hP1
  obtain ⟨hP, hD⟩ := va_join (wr := []) (w1 := []) hP hD [0, 1, 2] [] rfl rfl (by decide) (by decide) hk1 hFc hP1 hD1
  generalize H1 = H at hP hS ⊢
  have hP : va_P (dC, dI) vwCl [] H := hP
  have hD : va_D A [] := hD
  obtain rfl : r = 1 := hw
  have hP9 := hP.sub (ws' := []) [] rfl
  have hD9 := hD.sub (ws' := []) [] (by decide) rfl
  refine W.widen (k := 0) (n := 0) (Nat.le_of_ble_eq_true rfl) (Nat.le_of_ble_eq_true rfl) ?_
  exact W.iret (v := 1) hx hb hr (fun t ht hW => ⟨⟨1, (), rfl, rfl, by rw [ht]; exact hP9, hD9⟩, hS.F ht⟩) hS.2.2 dX8_alike_4
