/-! the reference: helpers, any state -/
set_option maxHeartbeats 1000000 in
set_option maxRecDepth 100000 in
theorem mz_m_isThing_in (l : Launch) (dC : Nat → ClassId) (dI : Nat → Nat → Nat) (cI cJ cZ : ClassId) (mo : Nat) (m1 : Nat) (m2 : Nat) (m3 : Nat) (m6 : Nat) (m7 : Nat) (m8 : Nat) (m9 : Nat) (m10 : Nat) (m11 : Nat) (m12 : Nat) (m13 : Nat) (m14 : Nat) (m15 : Nat) (m16 : Nat) (n : Nat) (ka : Int64) (kb : Int64) (j : Nat) (Hq : Heap) (hn : n ≤ 8) (hj : j < n) : Met l yX8_isThing wsX8_isThing ({ frames := 0, cells := 0, slots := 0, locals := 0 }) (va_Pc [.ref mo, .int (nI j)] (fun U => U.heap = Hq ∧ va_P (dC, dI) vwCl [(mo, .inr (8, [.int (nI n), .ref m1, .ref m2, .ref m3, .long ka, .long kb, .ref m6, .ref m7, .ref m8, .ref m9, .ref m10, .ref m11, .ref m12, .ref m13, .ref m14, .ref m15, .ref m16]))] Hq ∧ va_K (dC, dI) vwCl [(cI, FieldType.int), (cJ, FieldType.long), (cZ, FieldType.boolean)] U ∧ mz_N U)) (va_Qi (fun (r : Int32) (_ : Unit) => r = 1) (fun _ t => t.heap = Hq) (fun _ : Nat => False)) 0 0 (fun _ : Nat => False) := by
  refine Met.ofW (cc := cX8_isThing) (maxL := 2) (ret := (some .boolean)) (by decide) rfl ?_
  intro p e s m args below meth c s₁ B hml hv
  obtain ⟨rfl, hH, hP, hK, hN⟩ := hv
  subst hH
  have hx := B.exec
  have hb := B.bytes
  have hr := B.returns
  have hts := atoms_spec (ws := wsX8_isThing) B.pre
  have hown : s.vm.findClass RX8 = some m.cls := findClass_of_methodNamed B.named
  have hlocks := B.notSynchronized
  have hS : va_S (fun _ : Nat => False) s.heap s.heap [] := va_S.rf
  have hiX8 : ∀ w ∈ u_ws RX8 TX8 17, w ∈ wsX8_isThing := by decide +kernel
  have hl := lv_entry ([.ref mo, .int (nI j)]) (n := 2) (Nat.le_of_ble_eq_true rfl)
  rw [lg_entry_eq]
  generalize (lg_sl ([.ref mo, .int (nI j)]) ++ List.replicate (2 - (lg_sl ([.ref mo, .int (nI j)])).length) Slot.unset).toArray = ls at hl ⊢
  have hl : lv_has ls 2 [(0, .ref mo), (1, .int (nI j))] := hl
  refine lv_iload_n hx hb dX8_isThing_0 rfl (lv_at hl 1 rfl) ?_
  refine lv_if_lt (tgt := 16) hx hb dX8_isThing_1 (by decide) (fun c_1 => absurd c_1 (nI_pos (by omega))) (fun _ => ?_)
  refine lv_iload_n hx hb dX8_isThing_4 rfl (lv_at hl 1 rfl) ?_
  refine lv_aload_n hx hb dX8_isThing_5 rfl (lv_at hl 0 rfl) ?_
  refine va_get (D := (dC, dI)) (ci := 8) (v := .int (nI n)) (C := RX8) (T := TX8) (N := 17) hx hb hts hiX8 hown hK hP 0 rfl rfl 0 (by decide) (hts (.fieldLink RX8 58 "MadeItSoModel" "many" "I") (by decide +kernel)) (fun _ h9 => h9) rfl dX8_isThing_6 ?_
  refine lv_icmp_ge (tgt := 16) hx hb dX8_isThing_9 (by decide) (fun c_9 => absurd c_9 (fun h => absurd ((nI_leI (a := n) (b := j) (by omega) (by omega)).mp h) (by omega))) (fun _ => ?_)
  refine lv_iconst (v := 1) hx hb dX8_isThing_12 (by decide +kernel) ?_
  refine lv_goto (tgt := 17) hx hb dX8_isThing_13 (by decide) ?_
  refine W.widen (k := 0) (n := 0) (Nat.le_of_ble_eq_true rfl) (Nat.le_of_ble_eq_true rfl) ?_
  exact W.zret (v := 1) hx hb hr (mz_nz (by decide +kernel)) (fun t ht hW => ⟨⟨1, (), rfl, rfl, ht⟩, hS.F ht⟩) hS.2.2 dX8_isThing_17
set_option maxHeartbeats 1000000 in
set_option maxRecDepth 100000 in
theorem mz_m_isThing (l : Launch) (dC : Nat → ClassId) (dI : Nat → Nat → Nat) (cI cJ cZ : ClassId) (mo : Nat) (m1 : Nat) (m2 : Nat) (m3 : Nat) (m6 : Nat) (m7 : Nat) (m8 : Nat) (m9 : Nat) (m10 : Nat) (m11 : Nat) (m12 : Nat) (m13 : Nat) (m14 : Nat) (m15 : Nat) (m16 : Nat) (n : Nat) (ka : Int64) (kb : Int64) (p0 : Int32) (Hq : Heap) (hn : n ≤ 8) : Met l yX8_isThing wsX8_isThing ({ frames := 0, cells := 0, slots := 0, locals := 0 }) (va_Pc [.ref mo, .int p0] (fun U => U.heap = Hq ∧ va_P (dC, dI) vwCl [(mo, .inr (8, [.int (nI n), .ref m1, .ref m2, .ref m3, .long ka, .long kb, .ref m6, .ref m7, .ref m8, .ref m9, .ref m10, .ref m11, .ref m12, .ref m13, .ref m14, .ref m15, .ref m16]))] Hq ∧ va_K (dC, dI) vwCl [(cI, FieldType.int), (cJ, FieldType.long), (cZ, FieldType.boolean)] U ∧ mz_N U)) (va_Qi (fun (r : Int32) (_ : Unit) => (r = 1 ∧ ∃ j : Nat, j < n ∧ p0 = nI j) ∨ r = 0) (fun _ t => t.heap = Hq) (fun _ : Nat => False)) 0 0 (fun _ : Nat => False) := by
  refine Met.ofW (cc := cX8_isThing) (maxL := 2) (ret := (some .boolean)) (by decide) rfl ?_
  intro p e s m args below meth c s₁ B hml hv
  obtain ⟨rfl, hH, hP, hK, hN⟩ := hv
  subst hH
  have hx := B.exec
  have hb := B.bytes
  have hr := B.returns
  have hts := atoms_spec (ws := wsX8_isThing) B.pre
  have hown : s.vm.findClass RX8 = some m.cls := findClass_of_methodNamed B.named
  have hlocks := B.notSynchronized
  have hS : va_S (fun _ : Nat => False) s.heap s.heap [] := va_S.rf
  have hiX8 : ∀ w ∈ u_ws RX8 TX8 17, w ∈ wsX8_isThing := by decide +kernel
  have hl := lv_entry ([.ref mo, .int p0]) (n := 2) (Nat.le_of_ble_eq_true rfl)
  rw [lg_entry_eq]
  generalize (lg_sl ([.ref mo, .int p0]) ++ List.replicate (2 - (lg_sl ([.ref mo, .int p0])).length) Slot.unset).toArray = ls at hl ⊢
  have hl : lv_has ls 2 [(0, .ref mo), (1, .int p0)] := hl
  refine lv_iload_n hx hb dX8_isThing_0 rfl (lv_at hl 1 rfl) ?_
  refine lv_if_lt (tgt := 16) hx hb dX8_isThing_1 (by decide) (fun c_1 => ?_) (fun c_1 => ?_)
  · skip
    refine lv_iconst (v := 0) hx hb dX8_isThing_16 (by decide +kernel) ?_
    refine W.widen (k := 0) (n := 0) (Nat.le_of_ble_eq_true rfl) (Nat.le_of_ble_eq_true rfl) ?_
    exact W.zret (v := 0) hx hb hr (mz_nz (by decide +kernel)) (fun t ht hW => ⟨⟨0, (), rfl, Or.inr rfl, ht⟩, hS.F ht⟩) hS.2.2 dX8_isThing_17
  · skip
    refine lv_iload_n hx hb dX8_isThing_4 rfl (lv_at hl 1 rfl) ?_
    refine lv_aload_n hx hb dX8_isThing_5 rfl (lv_at hl 0 rfl) ?_
    refine va_get (D := (dC, dI)) (ci := 8) (v := .int (nI n)) (C := RX8) (T := TX8) (N := 17) hx hb hts hiX8 hown hK hP 0 rfl rfl 0 (by decide) (hts (.fieldLink RX8 58 "MadeItSoModel" "many" "I") (by decide +kernel)) (fun _ h9 => h9) rfl dX8_isThing_6 ?_
    refine lv_icmp_ge (tgt := 16) hx hb dX8_isThing_9 (by decide) (fun c_9 => ?_) (fun c_9 => ?_)
    · skip
      refine lv_iconst (v := 0) hx hb dX8_isThing_16 (by decide +kernel) ?_
      refine W.widen (k := 0) (n := 0) (Nat.le_of_ble_eq_true rfl) (Nat.le_of_ble_eq_true rfl) ?_
      exact W.zret (v := 0) hx hb hr (mz_nz (by decide +kernel)) (fun t ht hW => ⟨⟨0, (), rfl, Or.inr rfl, ht⟩, hS.F ht⟩) hS.2.2 dX8_isThing_17
    · skip
      refine lv_iconst (v := 1) hx hb dX8_isThing_12 (by decide +kernel) ?_
      refine lv_goto (tgt := 17) hx hb dX8_isThing_13 (by decide) ?_
      refine W.widen (k := 0) (n := 0) (Nat.le_of_ble_eq_true rfl) (Nat.le_of_ble_eq_true rfl) ?_
      exact W.zret (v := 1) hx hb hr (mz_nz (by decide +kernel)) (fun t ht hW => ⟨⟨1, (), rfl, Or.inl ⟨rfl, mz_ix c_1 c_9 (by omega)⟩, ht⟩, hS.F ht⟩) hS.2.2 dX8_isThing_17
set_option maxHeartbeats 1000000 in
set_option maxRecDepth 100000 in
theorem mz_m_isHeap (l : Launch) (dC : Nat → ClassId) (dI : Nat → Nat → Nat) (cI cJ cZ : ClassId) (mo : Nat) (m1 : Nat) (m2 : Nat) (m3 : Nat) (m6 : Nat) (m7 : Nat) (m8 : Nat) (m9 : Nat) (m10 : Nat) (m11 : Nat) (m12 : Nat) (m13 : Nat) (m14 : Nat) (m15 : Nat) (m16 : Nat) (n : Nat) (ka : Int64) (kb : Int64) (p0 : Int32) (Hq : Heap) (hn : n ≤ 8) : Met l yX8_isHeap wsX8_isHeap ({ frames := 0, cells := 0, slots := 0, locals := 0 }) (va_Pc [.ref mo, .int p0] (fun U => U.heap = Hq ∧ va_P (dC, dI) vwCl [(mo, .inr (8, [.int (nI n), .ref m1, .ref m2, .ref m3, .long ka, .long kb, .ref m6, .ref m7, .ref m8, .ref m9, .ref m10, .ref m11, .ref m12, .ref m13, .ref m14, .ref m15, .ref m16]))] Hq ∧ va_K (dC, dI) vwCl [(cI, FieldType.int), (cJ, FieldType.long), (cZ, FieldType.boolean)] U ∧ mz_N U)) (va_Qi (fun (r : Int32) (_ : Unit) => r = 0 ∨ r = 1) (fun _ t => t.heap = Hq) (fun _ : Nat => False)) 0 0 (fun _ : Nat => False) := by
  refine Met.ofW (cc := cX8_isHeap) (maxL := 2) (ret := (some .boolean)) (by decide) rfl ?_
  intro p e s m args below meth c s₁ B hml hv
  obtain ⟨rfl, hH, hP, hK, hN⟩ := hv
  subst hH
  have hx := B.exec
  have hb := B.bytes
  have hr := B.returns
  have hts := atoms_spec (ws := wsX8_isHeap) B.pre
  have hown : s.vm.findClass RX8 = some m.cls := findClass_of_methodNamed B.named
  have hlocks := B.notSynchronized
  have hS : va_S (fun _ : Nat => False) s.heap s.heap [] := va_S.rf
  have hiX8 : ∀ w ∈ u_ws RX8 TX8 17, w ∈ wsX8_isHeap := by decide +kernel
  have hl := lv_entry ([.ref mo, .int p0]) (n := 2) (Nat.le_of_ble_eq_true rfl)
  rw [lg_entry_eq]
  generalize (lg_sl ([.ref mo, .int p0]) ++ List.replicate (2 - (lg_sl ([.ref mo, .int p0])).length) Slot.unset).toArray = ls at hl ⊢
  have hl : lv_has ls 2 [(0, .ref mo), (1, .int p0)] := hl
  refine lv_iload_n hx hb dX8_isHeap_0 rfl (lv_at hl 1 rfl) ?_
  refine lv_if_lt (tgt := 18) hx hb dX8_isHeap_1 (by decide) (fun c_1 => ?_) (fun c_1 => ?_)
  · skip
    refine lv_iconst (v := 0) hx hb dX8_isHeap_18 (by decide +kernel) ?_
    refine W.widen (k := 0) (n := 0) (Nat.le_of_ble_eq_true rfl) (Nat.le_of_ble_eq_true rfl) ?_
    exact W.zret (v := 0) hx hb hr (mz_nz (by decide +kernel)) (fun t ht hW => ⟨⟨0, (), rfl, Or.inl rfl, ht⟩, hS.F ht⟩) hS.2.2 dX8_isHeap_19
  · skip
    refine lv_iload_n hx hb dX8_isHeap_4 rfl (lv_at hl 1 rfl) ?_
    refine lv_iconst (v := 1) hx hb dX8_isHeap_5 (by decide +kernel) ?_
    refine lv_aload_n hx hb dX8_isHeap_6 rfl (lv_at hl 0 rfl) ?_
    refine va_get (D := (dC, dI)) (ci := 8) (v := .int (nI n)) (C := RX8) (T := TX8) (N := 17) hx hb hts hiX8 hown hK hP 0 rfl rfl 0 (by decide) (hts (.fieldLink RX8 58 "MadeItSoModel" "many" "I") (by decide +kernel)) (fun _ h9 => h9) rfl dX8_isHeap_7 ?_
    refine lv_ishl hx hb dX8_isHeap_10 ?_
    refine mz_ti (y := (nI (2 ^ n))) (mz_sh1 (by omega)) ?_
    refine lv_icmp_ge (tgt := 18) hx hb dX8_isHeap_11 (by decide) (fun c_11 => ?_) (fun c_11 => ?_)
    · skip
      refine lv_iconst (v := 0) hx hb dX8_isHeap_18 (by decide +kernel) ?_
      refine W.widen (k := 0) (n := 0) (Nat.le_of_ble_eq_true rfl) (Nat.le_of_ble_eq_true rfl) ?_
      exact W.zret (v := 0) hx hb hr (mz_nz (by decide +kernel)) (fun t ht hW => ⟨⟨0, (), rfl, Or.inl rfl, ht⟩, hS.F ht⟩) hS.2.2 dX8_isHeap_19
    · skip
      refine lv_iconst (v := 1) hx hb dX8_isHeap_14 (by decide +kernel) ?_
      refine lv_goto (tgt := 19) hx hb dX8_isHeap_15 (by decide) ?_
      refine W.widen (k := 0) (n := 0) (Nat.le_of_ble_eq_true rfl) (Nat.le_of_ble_eq_true rfl) ?_
      exact W.zret (v := 1) hx hb hr (mz_nz (by decide +kernel)) (fun t ht hW => ⟨⟨1, (), rfl, Or.inr rfl, ht⟩, hS.F ht⟩) hS.2.2 dX8_isHeap_19
set_option maxHeartbeats 1000000 in
set_option maxRecDepth 100000 in
theorem mz_m_isSetting (l : Launch) (dC : Nat → ClassId) (dI : Nat → Nat → Nat) (cI cJ cZ : ClassId) (mo : Nat) (m1 : Nat) (m2 : Nat) (m3 : Nat) (m6 : Nat) (m7 : Nat) (m8 : Nat) (m9 : Nat) (m10 : Nat) (m11 : Nat) (m12 : Nat) (m13 : Nat) (m14 : Nat) (m15 : Nat) (m16 : Nat) (n : Nat) (ka : Int64) (kb : Int64) (p0 : Int32) (Hq : Heap) (hn : n ≤ 8) : Met l yX8_isSetting wsX8_isSetting ({ frames := 1, cells := 0, slots := 0, locals := 21 }) (va_Pc [.ref mo, .int p0] (fun U => U.heap = Hq ∧ va_P (dC, dI) vwCl [(mo, .inr (8, [.int (nI n), .ref m1, .ref m2, .ref m3, .long ka, .long kb, .ref m6, .ref m7, .ref m8, .ref m9, .ref m10, .ref m11, .ref m12, .ref m13, .ref m14, .ref m15, .ref m16]))] Hq ∧ va_K (dC, dI) vwCl [(cI, FieldType.int), (cJ, FieldType.long), (cZ, FieldType.boolean)] U ∧ mz_N U)) (va_Qi (fun (r : Int32) (_ : Unit) => r = 0 ∨ r = 1) (fun _ t => t.heap = Hq) (fun _ : Nat => False)) 0 0 (fun _ : Nat => False) := by
  refine Met.ofW (cc := cX8_isSetting) (maxL := 2) (ret := (some .boolean)) (by decide) rfl ?_
  intro p e s m args below meth c s₁ B hml hv
  obtain ⟨rfl, hH, hP, hK, hN⟩ := hv
  subst hH
  have hx := B.exec
  have hb := B.bytes
  have hr := B.returns
  have hts := atoms_spec (ws := wsX8_isSetting) B.pre
  have hown : s.vm.findClass RX8 = some m.cls := findClass_of_methodNamed B.named
  have hlocks := B.notSynchronized
  have hS : va_S (fun _ : Nat => False) s.heap s.heap [] := va_S.rf
  have hl := lv_entry ([.ref mo, .int p0]) (n := 2) (Nat.le_of_ble_eq_true rfl)
  rw [lg_entry_eq]
  generalize (lg_sl ([.ref mo, .int p0]) ++ List.replicate (2 - (lg_sl ([.ref mo, .int p0])).length) Slot.unset).toArray = ls at hl ⊢
  have hl : lv_has ls 2 [(0, .ref mo), (1, .int p0)] := hl
  refine lv_iload_n hx hb dX8_isSetting_0 rfl (lv_at hl 1 rfl) ?_
  refine lv_if_lt (tgt := 41) hx hb dX8_isSetting_1 (by decide) (fun c_1 => ?_) (fun c_1 => ?_)
  · skip
    refine lv_iconst (v := 0) hx hb dX8_isSetting_41 (by decide +kernel) ?_
    refine W.widen (k := 0) (n := 0) (Nat.le_of_ble_eq_true rfl) (Nat.le_of_ble_eq_true rfl) ?_
    exact W.zret (v := 0) hx hb hr (mz_nz (by decide +kernel)) (fun t ht hW => ⟨⟨0, (), rfl, Or.inl rfl, ht⟩, hS.F ht⟩) hS.2.2 dX8_isSetting_42
  · skip
    refine lv_iload_n hx hb dX8_isSetting_4 rfl (lv_at hl 1 rfl) ?_
    refine lv_ldc hx hb hown (hts (.constant RX8 62 (65536)) (by decide +kernel)) dX8_isSetting_5 ?_
    refine lv_icmp_ge (tgt := 41) hx hb dX8_isSetting_7 (by decide) (fun c_7 => ?_) (fun c_7 => ?_)
    · skip
      refine lv_iconst (v := 0) hx hb dX8_isSetting_41 (by decide +kernel) ?_
      refine W.widen (k := 0) (n := 0) (Nat.le_of_ble_eq_true rfl) (Nat.le_of_ble_eq_true rfl) ?_
      exact W.zret (v := 0) hx hb hr (mz_nz (by decide +kernel)) (fun t ht hW => ⟨⟨0, (), rfl, Or.inl rfl, ht⟩, hS.F ht⟩) hS.2.2 dX8_isSetting_42
    · skip
      refine lv_aload_n hx hb dX8_isSetting_10 rfl (lv_at hl 0 rfl) ?_
      refine lv_iload_n hx hb dX8_isSetting_11 rfl (lv_at hl 1 rfl) ?_
      refine lv_sipush (v := 255) hx hb dX8_isSetting_12 (by decide +kernel) ?_
      refine lv_iand hx hb dX8_isSetting_15 ?_
      obtain ⟨a_15, ha_15, ea_15⟩ := pk_andE (p0) (m := 255) 8 (by decide)
      have ha_15 : a_15 < 256 := ha_15
      refine mz_ti (y := (nI a_15)) ea_15 ?_
      have hPc := hP.sub (ws' := [(mo, .inr (8, [.int (nI n), .ref m1, .ref m2, .ref m3, .long ka, .long kb, .ref m6, .ref m7, .ref m8, .ref m9, .ref m10, .ref m11, .ref m12, .ref m13, .ref m14, .ref m15, .ref m16]))]) [0] rfl
      refine va_calli (va_runV (As := [.int (nI a_15)]) (rest := []) ⟨hx, hb, hml, hown, hts⟩ (mz_m_isHeap l dC dI cI cJ cZ mo m1 m2 m3 m6 m7 m8 m9 m10 m11 m12 m13 m14 m15 m16 n ka kb (nI a_15) s.heap (by first | assumption | omega)) (cwV 1 hts gX8_isSetting_X8_isHeap rfl rfl rfl (by decide +kernel) ⟨Nat.le_of_ble_eq_true rfl, Nat.le_of_ble_eq_true rfl⟩) ⟨fun a U g mk q => mz_blP q, va_recv hK hPc (ci := 8) (q0 := 0) rfl rfl, fun U hU hW => ⟨rfl, hU, hPc, va_K.moved hW.alike hK, mz_nw hW hN⟩⟩ rfl rfl hl.1 rfl (lv_room (Nat.le_of_ble_eq_true rfl)) dX8_isSetting_16 ⟨Nat.le_of_ble_eq_true rfl, Nat.le_of_ble_eq_true rfl⟩) hS (fun q _ h => h.elim) (fun q h => h.elim) (fun r_16 u t H1 locs ht hvm hw_16 hB hz1 hk1 hS => ?_)
      have hE : s.heap = H1 := hB.symm.trans ht
      subst hE
      refine lv_if_eq (tgt := 41) hx hb dX8_isSetting_19 (by decide) (fun c_19 => ?_) (fun c_19 => ?_)
      · skip
        refine lv_iconst (v := 0) hx hb dX8_isSetting_41 (by decide +kernel) ?_
        refine W.widen (k := 0) (n := 0) (Nat.le_of_ble_eq_true rfl) (Nat.le_of_ble_eq_true rfl) ?_
        exact W.zret (v := 0) hx hb hr (mz_nz (by decide +kernel)) (fun t ht hW => ⟨⟨0, (), rfl, Or.inl rfl, ht⟩, hS.F ht⟩) hS.2.2 dX8_isSetting_42
      · skip
        refine lv_iload_n hx hb dX8_isSetting_22 rfl (lv_at hl 1 rfl) ?_
        refine lv_bipush (v := 8) hx hb dX8_isSetting_23 (by decide +kernel) ?_
        refine lv_ishr hx hb dX8_isSetting_25 ?_
        refine lv_topi (fun v_25 ev_25 => ?_)
        refine lv_iload_n hx hb dX8_isSetting_26 rfl (lv_at hl 1 rfl) ?_
        refine lv_sipush (v := 255) hx hb dX8_isSetting_27 (by decide +kernel) ?_
        refine lv_iand hx hb dX8_isSetting_30 ?_
        obtain ⟨a_30, ha_30, ea_30⟩ := pk_andE (p0) (m := 255) 8 (by decide)
        have ha_30 : a_30 < 256 := ha_30
        refine mz_ti (y := (nI a_30)) ea_30 ?_
        refine lv_iconst (v := (-1)) hx hb dX8_isSetting_31 (by decide +kernel) ?_
        refine lv_ixor hx hb dX8_isSetting_32 ?_
        refine lv_topi (fun v_32 ev_32 => ?_)
        refine lv_iand hx hb dX8_isSetting_33 ?_
        refine lv_topi (fun v_33 ev_33 => ?_)
        refine lv_if_ne (tgt := 41) hx hb dX8_isSetting_34 (by decide) (fun c_34 => ?_) (fun c_34 => ?_)
        · skip
          refine lv_iconst (v := 0) hx hb dX8_isSetting_41 (by decide +kernel) ?_
          refine W.widen (k := 0) (n := 0) (Nat.le_of_ble_eq_true rfl) (Nat.le_of_ble_eq_true rfl) ?_
          exact W.zret (v := 0) hx hb hr (mz_nz (by decide +kernel)) (fun t ht hW => ⟨⟨0, (), rfl, Or.inl rfl, ht⟩, hS.F ht⟩) hS.2.2 dX8_isSetting_42
        · skip
          refine lv_iconst (v := 1) hx hb dX8_isSetting_37 (by decide +kernel) ?_
          refine lv_goto (tgt := 42) hx hb dX8_isSetting_38 (by decide) ?_
          refine W.widen (k := 0) (n := 0) (Nat.le_of_ble_eq_true rfl) (Nat.le_of_ble_eq_true rfl) ?_
          exact W.zret (v := 1) hx hb hr (mz_nz (by decide +kernel)) (fun t ht hW => ⟨⟨1, (), rfl, Or.inr rfl, ht⟩, hS.F ht⟩) hS.2.2 dX8_isSetting_42
set_option maxHeartbeats 1000000 in
set_option maxRecDepth 100000 in
theorem mz_m_fresh (l : Launch) (dC : Nat → ClassId) (dI : Nat → Nat → Nat) (cI cJ cZ : ClassId) (mo : Nat) (m1 : Nat) (m2 : Nat) (m3 : Nat) (m6 : Nat) (m7 : Nat) (m8 : Nat) (m9 : Nat) (m10 : Nat) (m11 : Nat) (m12 : Nat) (m13 : Nat) (m14 : Nat) (m15 : Nat) (m16 : Nat) (n : Nat) (ka : Int64) (kb : Int64) (fb : Nat → Int32) (j : Nat) (sz : Nat) (hj : j < 8) : Met l yX8_fresh wsX8_fresh ({ frames := 0, cells := 0, slots := 0, locals := 0 }) (va_Pc [.ref mo, .int (nI j)] (fun U => U.heap.size = sz ∧ va_P (dC, dI) vwCl [(mo, .inr (8, [.int (nI n), .ref m1, .ref m2, .ref m3, .long ka, .long kb, .ref m6, .ref m7, .ref m8, .ref m9, .ref m10, .ref m11, .ref m12, .ref m13, .ref m14, .ref m15, .ref m16])), (m3, .inl (cI, 1024, .inl fb))] U.heap ∧ va_K (dC, dI) vwCl [(cI, FieldType.int), (cJ, FieldType.long), (cZ, FieldType.boolean)] U ∧ va_D (fun _ => True) [(mo, .inr (8, [.int (nI n), .ref m1, .ref m2, .ref m3, .long ka, .long kb, .ref m6, .ref m7, .ref m8, .ref m9, .ref m10, .ref m11, .ref m12, .ref m13, .ref m14, .ref m15, .ref m16])), (m3, .inl (cI, 1024, .inl fb))] ∧ mz_N U)) (va_Qv (fun (_ : Unit) => True) (fun _ t => ∃ (gb : Nat → Int32), va_P (dC, dI) vwCl [(mo, .inr (8, [.int (nI n), .ref m1, .ref m2, .ref m3, .long ka, .long kb, .ref m6, .ref m7, .ref m8, .ref m9, .ref m10, .ref m11, .ref m12, .ref m13, .ref m14, .ref m15, .ref m16])), (m3, .inl (cI, 1024, .inl gb))] t.heap ∧ va_D (va_A [(mo, .inr (8, [.int (nI n), .ref m1, .ref m2, .ref m3, .long ka, .long kb, .ref m6, .ref m7, .ref m8, .ref m9, .ref m10, .ref m11, .ref m12, .ref m13, .ref m14, .ref m15, .ref m16])), (m3, .inl (cI, 1024, .inl fb))] sz) [(mo, .inr (8, [.int (nI n), .ref m1, .ref m2, .ref m3, .long ka, .long kb, .ref m6, .ref m7, .ref m8, .ref m9, .ref m10, .ref m11, .ref m12, .ref m13, .ref m14, .ref m15, .ref m16])), (m3, .inl (cI, 1024, .inl gb))]) (va_A [(mo, .inr (8, [.int (nI n), .ref m1, .ref m2, .ref m3, .long ka, .long kb, .ref m6, .ref m7, .ref m8, .ref m9, .ref m10, .ref m11, .ref m12, .ref m13, .ref m14, .ref m15, .ref m16])), (m3, .inl (cI, 1024, .inl fb))] sz)) 0 0 (va_A [(mo, .inr (8, [.int (nI n), .ref m1, .ref m2, .ref m3, .long ka, .long kb, .ref m6, .ref m7, .ref m8, .ref m9, .ref m10, .ref m11, .ref m12, .ref m13, .ref m14, .ref m15, .ref m16])), (m3, .inl (cI, 1024, .inl fb))] sz) := by
  refine Met.ofW (cc := cX8_fresh) (maxL := 3) (ret := none) (by decide) rfl ?_
  intro p e s m args below meth c s₁ B hml hv
  obtain ⟨rfl, hsz, hP, hK, hD0, hN⟩ := hv
  subst hsz
  have hx := B.exec
  have hb := B.bytes
  have hr := B.returns
  have hts := atoms_spec (ws := wsX8_fresh) B.pre
  have hown : s.vm.findClass RX8 = some m.cls := findClass_of_methodNamed B.named
  have hlocks := B.notSynchronized
  have hD := hD0.self (sz := s.heap.size)
  generalize hAe : va_A [(mo, .inr (8, [.int (nI n), .ref m1, .ref m2, .ref m3, .long ka, .long kb, .ref m6, .ref m7, .ref m8, .ref m9, .ref m10, .ref m11, .ref m12, .ref m13, .ref m14, .ref m15, .ref m16])), (m3, .inl (cI, 1024, .inl fb))] s.heap.size = A at hD ⊢
  have hA : ∀ q : Nat, s.heap.size ≤ q → A q := fun q h => by rw [← hAe]; exact Or.inr h
  have hS : va_S A s.heap s.heap [] := va_S.rf
  have hiX8 : ∀ w ∈ u_ws RX8 TX8 17, w ∈ wsX8_fresh := by decide +kernel
  have hl := lv_entry ([.ref mo, .int (nI j)]) (n := 3) (Nat.le_of_ble_eq_true rfl)
  rw [lg_entry_eq]
  generalize (lg_sl ([.ref mo, .int (nI j)]) ++ List.replicate (3 - (lg_sl ([.ref mo, .int (nI j)])).length) Slot.unset).toArray = ls at hl ⊢
  have hl : lv_has ls 3 [(0, .ref mo), (1, .int (nI j))] := hl
  refine lv_iconst (v := 0) hx hb dX8_fresh_0 (by decide +kernel) ?_
  refine lv_istore_n (lv' := [(2, .int 0), (0, .ref mo), (1, .int (nI j))]) hx hb dX8_fresh_1 rfl hl (by decide) rfl (fun ls hl => ?_)
  refine mz_loopU (fun k H locs ls => ∃ (i_2 : Nat), ∃ (fm3_2 : Nat → Int32), i_2 ≤ 128 ∧ va_P (dC, dI) vwCl [(mo, .inr (8, [.int (nI n), .ref m1, .ref m2, .ref m3, .long ka, .long kb, .ref m6, .ref m7, .ref m8, .ref m9, .ref m10, .ref m11, .ref m12, .ref m13, .ref m14, .ref m15, .ref m16])), (m3, .inl (cI, 1024, .inl fm3_2))] H ∧ va_D A [(mo, .inr (8, [.int (nI n), .ref m1, .ref m2, .ref m3, .long ka, .long kb, .ref m6, .ref m7, .ref m8, .ref m9, .ref m10, .ref m11, .ref m12, .ref m13, .ref m14, .ref m15, .ref m16])), (m3, .inl (cI, 1024, .inl fm3_2))] ∧ va_S A s.heap H locs ∧ lv_has ls 3 [(2, .int (nI i_2)), (0, .ref mo), (1, .int (nI j))] ∧ k = 128 - i_2) ?_ _ _ _ _ ⟨0, fb, by omega, hP, hD, hS, lv_sub hl [0, 1, 2] rfl, rfl⟩
  intro k_2 H locs ls hI_2 ih_2
  obtain ⟨i_2, fm3_2, hi_2, hP, hD, hS, hl, hk_2⟩ := hI_2
  refine lv_iload_n hx hb dX8_fresh_2 rfl (lv_at hl 0 rfl) ?_
  refine lv_sipush (v := 128) hx hb dX8_fresh_3 (by decide +kernel) ?_
  refine lv_icmp_ge (tgt := 29) hx hb dX8_fresh_6 (by decide) (fun c_6 => ?_) (fun c_6 => ?_)
  · skip
    have d_6 : 128 ≤ i_2 := (nI_leI (a := 128) (b := i_2) (by omega) (by omega)).mp c_6
    have hP9 := hP.sub (ws' := [(mo, .inr (8, [.int (nI n), .ref m1, .ref m2, .ref m3, .long ka, .long kb, .ref m6, .ref m7, .ref m8, .ref m9, .ref m10, .ref m11, .ref m12, .ref m13, .ref m14, .ref m15, .ref m16])), (m3, .inl (cI, 1024, .inl fm3_2))]) [0, 1] rfl
    have hD9 := hD.sub (ws' := [(mo, .inr (8, [.int (nI n), .ref m1, .ref m2, .ref m3, .long ka, .long kb, .ref m6, .ref m7, .ref m8, .ref m9, .ref m10, .ref m11, .ref m12, .ref m13, .ref m14, .ref m15, .ref m16])), (m3, .inl (cI, 1024, .inl fm3_2))]) [0, 1] (by decide) rfl
    refine W.widen (k := 0) (n := 0) (Nat.le_of_ble_eq_true rfl) (Nat.le_of_ble_eq_true rfl) ?_
    exact W.vret hx hb hr (fun t ht hW => ⟨⟨(), rfl, trivial, fm3_2, by rw [ht]; exact hP9, hD9⟩, hS.F ht⟩) hS.2.2 dX8_fresh_29
  · skip
    have d_6 : ¬ 128 ≤ i_2 := fun h => c_6 ((nI_leI (a := 128) (b := i_2) (by omega) (by omega)).mpr h)
    refine lv_aload_n hx hb dX8_fresh_9 rfl (lv_at hl 1 rfl) ?_
    refine va_get (D := (dC, dI)) (ci := 8) (v := .ref m3) (C := RX8) (T := TX8) (N := 17) hx hb hts hiX8 hown hK hP 0 rfl rfl 3 (by decide) (hts (.fieldLink RX8 17 "MadeItSoModel" "books" "[I") (by decide +kernel)) (fun _ h9 => h9) rfl dX8_fresh_10 ?_
    refine lv_sipush (v := 128) hx hb dX8_fresh_13 (by decide +kernel) ?_
    refine lv_iload_n hx hb dX8_fresh_16 rfl (lv_at hl 2 rfl) ?_
    refine lv_imul hx hb dX8_fresh_17 ?_
    refine mz_ti (y := (nI (128 * j))) (pk_mul _ _) ?_
    refine lv_iload_n hx hb dX8_fresh_18 rfl (lv_at hl 0 rfl) ?_
    refine lv_iadd hx hb dX8_fresh_19 ?_
    refine mz_ti (y := (nI ((128 * j) + i_2))) (nI_add _ _) ?_
    refine lv_bipush (v := 50) hx hb dX8_fresh_20 (by decide +kernel) ?_
    refine va_iast hx hb hK hP hD hS 1 0 rfl rfl (vp_in_nI (by omega) (by omega)) dX8_fresh_22 (fun H locs hP hD hS => ?_)
    have hP : va_P (dC, dI) vwCl [(mo, .inr (8, [.int (nI n), .ref m1, .ref m2, .ref m3, .long ka, .long kb, .ref m6, .ref m7, .ref m8, .ref m9, .ref m10, .ref m11, .ref m12, .ref m13, .ref m14, .ref m15, .ref m16])), (m3, .inl (cI, 1024, .inl (upd fm3_2 ((nI ((128 * j) + i_2)) : Int32).toNatClampNeg 50)))] H := hP
    have hD : va_D A [(mo, .inr (8, [.int (nI n), .ref m1, .ref m2, .ref m3, .long ka, .long kb, .ref m6, .ref m7, .ref m8, .ref m9, .ref m10, .ref m11, .ref m12, .ref m13, .ref m14, .ref m15, .ref m16])), (m3, .inl (cI, 1024, .inl (upd fm3_2 ((nI ((128 * j) + i_2)) : Int32).toNatClampNeg 50)))] := hD
    generalize (upd fm3_2 ((nI ((128 * j) + i_2)) : Int32).toNatClampNeg 50) = f_22 at hP hD
    refine lv_iinc (v := (nI (i_2 + 1))) (lv' := [(2, .int (nI (i_2 + 1))), (0, .ref mo), (1, .int (nI j))]) hx hb dX8_fresh_23 hl (k := 0) rfl (nI_1 _) (by decide) rfl (fun ls hl => ?_)
    refine lv_goto (tgt := 2) hx hb dX8_fresh_26 (by decide) ?_
    exact ih_2 _ (by omega) _ _ _ ⟨(i_2 + 1), f_22, by omega, hP, hD, hS, lv_sub hl [0, 1, 2] rfl, rfl⟩
set_option maxHeartbeats 1000000 in
set_option maxRecDepth 100000 in
theorem mz_m_has_in (l : Launch) (dC : Nat → ClassId) (dI : Nat → Nat → Nat) (cI cJ cZ : ClassId) (mo : Nat) (m1 : Nat) (m2 : Nat) (m3 : Nat) (m6 : Nat) (m7 : Nat) (m8 : Nat) (m9 : Nat) (m10 : Nat) (m11 : Nat) (m12 : Nat) (m13 : Nat) (m14 : Nat) (m15 : Nat) (m16 : Nat) (n : Nat) (ka : Int64) (kb : Int64) (fp : Nat → Int32) (i : Nat) (j : Nat) (Hq : Heap) (hn : n ≤ 8) (hi : i < n) (hj : j < n) : Met l yX8_has wsX8_has ({ frames := 1, cells := 0, slots := 0, locals := 21 }) (va_Pc [.ref mo, .int (nI i), .int (nI j)] (fun U => U.heap = Hq ∧ va_P (dC, dI) vwCl [(mo, .inr (8, [.int (nI n), .ref m1, .ref m2, .ref m3, .long ka, .long kb, .ref m6, .ref m7, .ref m8, .ref m9, .ref m10, .ref m11, .ref m12, .ref m13, .ref m14, .ref m15, .ref m16])), (m2, .inl (cI, 8, .inl fp))] Hq ∧ va_K (dC, dI) vwCl [(cI, FieldType.int), (cJ, FieldType.long), (cZ, FieldType.boolean)] U ∧ mz_N U)) (va_Qi (fun (r : Int32) (_ : Unit) => r = 0 ∨ r = 1) (fun _ t => t.heap = Hq) (fun _ : Nat => False)) 0 0 (fun _ : Nat => False) := by
  refine Met.ofW (cc := cX8_has) (maxL := 3) (ret := (some .boolean)) (by decide) rfl ?_
  intro p e s m args below meth c s₁ B hml hv
  obtain ⟨rfl, hH, hP, hK, hN⟩ := hv
  subst hH
  have hx := B.exec
  have hb := B.bytes
  have hr := B.returns
  have hts := atoms_spec (ws := wsX8_has) B.pre
  have hown : s.vm.findClass RX8 = some m.cls := findClass_of_methodNamed B.named
  have hlocks := B.notSynchronized
  have hS : va_S (fun _ : Nat => False) s.heap s.heap [] := va_S.rf
  have hiX8 : ∀ w ∈ u_ws RX8 TX8 17, w ∈ wsX8_has := by decide +kernel
  have hl := lv_entry ([.ref mo, .int (nI i), .int (nI j)]) (n := 3) (Nat.le_of_ble_eq_true rfl)
  rw [lg_entry_eq]
  generalize (lg_sl ([.ref mo, .int (nI i), .int (nI j)]) ++ List.replicate (3 - (lg_sl ([.ref mo, .int (nI i), .int (nI j)])).length) Slot.unset).toArray = ls at hl ⊢
  have hl : lv_has ls 3 [(0, .ref mo), (1, .int (nI i)), (2, .int (nI j))] := hl
  refine lv_aload_n hx hb dX8_has_0 rfl (lv_at hl 0 rfl) ?_
  refine lv_iload_n hx hb dX8_has_1 rfl (lv_at hl 1 rfl) ?_
  have hPc := hP.sub (ws' := [(mo, .inr (8, [.int (nI n), .ref m1, .ref m2, .ref m3, .long ka, .long kb, .ref m6, .ref m7, .ref m8, .ref m9, .ref m10, .ref m11, .ref m12, .ref m13, .ref m14, .ref m15, .ref m16]))]) [0] rfl
  refine va_calli (va_runV (As := [.int (nI i)]) (rest := []) ⟨hx, hb, hml, hown, hts⟩ (mz_m_isThing_in l dC dI cI cJ cZ mo m1 m2 m3 m6 m7 m8 m9 m10 m11 m12 m13 m14 m15 m16 n ka kb i s.heap (by first | assumption | omega) (by first | assumption | omega)) (cwV 1 hts gX8_has_X8_isThing rfl rfl rfl (by decide +kernel) ⟨Nat.le_of_ble_eq_true rfl, Nat.le_of_ble_eq_true rfl⟩) ⟨fun a U g mk q => mz_blP q, va_recv hK hPc (ci := 8) (q0 := 0) rfl rfl, fun U hU hW => ⟨rfl, hU, hPc, va_K.moved hW.alike hK, mz_nw hW hN⟩⟩ rfl rfl hl.1 rfl (lv_room (Nat.le_of_ble_eq_true rfl)) dX8_has_2 ⟨Nat.le_of_ble_eq_true rfl, Nat.le_of_ble_eq_true rfl⟩) hS (fun q _ h => h.elim) (fun q h => h.elim) (fun r_2 u t H1 locs ht hvm hw_2 hB hz1 hk1 hS => ?_)
  have hE : s.heap = H1 := hB.symm.trans ht
  subst hE
  obtain rfl : r_2 = 1 := hw_2
  refine lv_if_eq (tgt := 34) hx hb dX8_has_5 (by decide) (fun c_5 => absurd c_5 (by decide +kernel)) (fun _ => ?_)
  refine lv_aload_n hx hb dX8_has_8 rfl (lv_at hl 0 rfl) ?_
  refine lv_iload_n hx hb dX8_has_9 rfl (lv_at hl 2 rfl) ?_
  have hPc := hP.sub (ws' := [(mo, .inr (8, [.int (nI n), .ref m1, .ref m2, .ref m3, .long ka, .long kb, .ref m6, .ref m7, .ref m8, .ref m9, .ref m10, .ref m11, .ref m12, .ref m13, .ref m14, .ref m15, .ref m16]))]) [0] rfl
  refine va_calli (va_runV (As := [.int (nI j)]) (rest := []) ⟨hx, hb, hml, hown, hts⟩ (mz_m_isThing_in l dC dI cI cJ cZ mo m1 m2 m3 m6 m7 m8 m9 m10 m11 m12 m13 m14 m15 m16 n ka kb j s.heap (by first | assumption | omega) (by first | assumption | omega)) (cwV 1 hts gX8_has_X8_isThing rfl rfl rfl (by decide +kernel) ⟨Nat.le_of_ble_eq_true rfl, Nat.le_of_ble_eq_true rfl⟩) ⟨fun a U g mk q => mz_blP q, va_recv hK hPc (ci := 8) (q0 := 0) rfl rfl, fun U hU hW => ⟨rfl, hU, hPc, va_K.moved hW.alike hK, mz_nw hW hN⟩⟩ rfl rfl hl.1 rfl (lv_room (Nat.le_of_ble_eq_true rfl)) dX8_has_10 ⟨Nat.le_of_ble_eq_true rfl, Nat.le_of_ble_eq_true rfl⟩) hS (fun q _ h => h.elim) (fun q h => h.elim) (fun r_10 u t H1 locs ht hvm hw_10 hB hz1 hk1 hS => ?_)
  have hE : s.heap = H1 := hB.symm.trans ht
  subst hE
  obtain rfl : r_10 = 1 := hw_10
  refine lv_if_eq (tgt := 34) hx hb dX8_has_13 (by decide) (fun c_13 => absurd c_13 (by decide +kernel)) (fun _ => ?_)
  refine lv_aload_n hx hb dX8_has_16 rfl (lv_at hl 0 rfl) ?_
  refine va_get (D := (dC, dI)) (ci := 8) (v := .ref m2) (C := RX8) (T := TX8) (N := 17) hx hb hts hiX8 hown hK hP 0 rfl rfl 2 (by decide) (hts (.fieldLink RX8 13 "MadeItSoModel" "parents" "[I") (by decide +kernel)) (fun _ h9 => h9) rfl dX8_has_17 ?_
  refine lv_iload_n hx hb dX8_has_20 rfl (lv_at hl 2 rfl) ?_
  refine va_iald hx hb hK hP 1 0 rfl rfl (vp_in_nI (by omega) (by omega)) dX8_has_21 ?_
  refine lv_topi (fun v_21 ev_21 => ?_)
  refine lv_iload_n hx hb dX8_has_22 rfl (lv_at hl 1 rfl) ?_
  refine lv_ishr hx hb dX8_has_23 ?_
  refine lv_topi (fun v_23 ev_23 => ?_)
  refine lv_iconst (v := 1) hx hb dX8_has_24 (by decide +kernel) ?_
  refine lv_iand hx hb dX8_has_25 ?_
  refine lv_topi (fun v_25 ev_25 => ?_)
  refine lv_iconst (v := 1) hx hb dX8_has_26 (by decide +kernel) ?_
  refine lv_icmp_ne (tgt := 34) hx hb dX8_has_27 (by decide) (fun c_27 => ?_) (fun c_27 => ?_)
  · skip
    refine lv_iconst (v := 0) hx hb dX8_has_34 (by decide +kernel) ?_
    refine W.widen (k := 0) (n := 0) (Nat.le_of_ble_eq_true rfl) (Nat.le_of_ble_eq_true rfl) ?_
    exact W.zret (v := 0) hx hb hr (mz_nz (by decide +kernel)) (fun t ht hW => ⟨⟨0, (), rfl, Or.inl rfl, ht⟩, hS.F ht⟩) hS.2.2 dX8_has_35
  · skip
    refine lv_iconst (v := 1) hx hb dX8_has_30 (by decide +kernel) ?_
    refine lv_goto (tgt := 35) hx hb dX8_has_31 (by decide) ?_
    refine W.widen (k := 0) (n := 0) (Nat.le_of_ble_eq_true rfl) (Nat.le_of_ble_eq_true rfl) ?_
    exact W.zret (v := 1) hx hb hr (mz_nz (by decide +kernel)) (fun t ht hW => ⟨⟨1, (), rfl, Or.inr rfl, ht⟩, hS.F ht⟩) hS.2.2 dX8_has_35
set_option maxHeartbeats 1000000 in
set_option maxRecDepth 100000 in
theorem mz_m_has (l : Launch) (dC : Nat → ClassId) (dI : Nat → Nat → Nat) (cI cJ cZ : ClassId) (mo : Nat) (m1 : Nat) (m2 : Nat) (m3 : Nat) (m6 : Nat) (m7 : Nat) (m8 : Nat) (m9 : Nat) (m10 : Nat) (m11 : Nat) (m12 : Nat) (m13 : Nat) (m14 : Nat) (m15 : Nat) (m16 : Nat) (n : Nat) (ka : Int64) (kb : Int64) (fp : Nat → Int32) (p0 : Int32) (p1 : Int32) (Hq : Heap) (hn : n ≤ 8) : Met l yX8_has wsX8_has ({ frames := 1, cells := 0, slots := 0, locals := 21 }) (va_Pc [.ref mo, .int p0, .int p1] (fun U => U.heap = Hq ∧ va_P (dC, dI) vwCl [(mo, .inr (8, [.int (nI n), .ref m1, .ref m2, .ref m3, .long ka, .long kb, .ref m6, .ref m7, .ref m8, .ref m9, .ref m10, .ref m11, .ref m12, .ref m13, .ref m14, .ref m15, .ref m16])), (m2, .inl (cI, 8, .inl fp))] Hq ∧ va_K (dC, dI) vwCl [(cI, FieldType.int), (cJ, FieldType.long), (cZ, FieldType.boolean)] U ∧ mz_N U)) (va_Qi (fun (r : Int32) (_ : Unit) => (r = 1 ∧ ∃ i j : Nat, i < n ∧ j < n ∧ p0 = nI i ∧ p1 = nI j ∧ ((fp j) >>> (nI i &&& 31)) &&& 1 = 1) ∨ r = 0) (fun _ t => t.heap = Hq) (fun _ : Nat => False)) 0 0 (fun _ : Nat => False) := by
  refine Met.ofW (cc := cX8_has) (maxL := 3) (ret := (some .boolean)) (by decide) rfl ?_
  intro p e s m args below meth c s₁ B hml hv
  obtain ⟨rfl, hH, hP, hK, hN⟩ := hv
  subst hH
  have hx := B.exec
  have hb := B.bytes
  have hr := B.returns
  have hts := atoms_spec (ws := wsX8_has) B.pre
  have hown : s.vm.findClass RX8 = some m.cls := findClass_of_methodNamed B.named
  have hlocks := B.notSynchronized
  have hS : va_S (fun _ : Nat => False) s.heap s.heap [] := va_S.rf
  have hiX8 : ∀ w ∈ u_ws RX8 TX8 17, w ∈ wsX8_has := by decide +kernel
  have hl := lv_entry ([.ref mo, .int p0, .int p1]) (n := 3) (Nat.le_of_ble_eq_true rfl)
  rw [lg_entry_eq]
  generalize (lg_sl ([.ref mo, .int p0, .int p1]) ++ List.replicate (3 - (lg_sl ([.ref mo, .int p0, .int p1])).length) Slot.unset).toArray = ls at hl ⊢
  have hl : lv_has ls 3 [(0, .ref mo), (1, .int p0), (2, .int p1)] := hl
  refine lv_aload_n hx hb dX8_has_0 rfl (lv_at hl 0 rfl) ?_
  refine lv_iload_n hx hb dX8_has_1 rfl (lv_at hl 1 rfl) ?_
  have hPc := hP.sub (ws' := [(mo, .inr (8, [.int (nI n), .ref m1, .ref m2, .ref m3, .long ka, .long kb, .ref m6, .ref m7, .ref m8, .ref m9, .ref m10, .ref m11, .ref m12, .ref m13, .ref m14, .ref m15, .ref m16]))]) [0] rfl
  refine va_calli (va_runV (As := [.int p0]) (rest := []) ⟨hx, hb, hml, hown, hts⟩ (mz_m_isThing l dC dI cI cJ cZ mo m1 m2 m3 m6 m7 m8 m9 m10 m11 m12 m13 m14 m15 m16 n ka kb p0 s.heap (by first | assumption | omega)) (cwV 1 hts gX8_has_X8_isThing rfl rfl rfl (by decide +kernel) ⟨Nat.le_of_ble_eq_true rfl, Nat.le_of_ble_eq_true rfl⟩) ⟨fun a U g mk q => mz_blP q, va_recv hK hPc (ci := 8) (q0 := 0) rfl rfl, fun U hU hW => ⟨rfl, hU, hPc, va_K.moved hW.alike hK, mz_nw hW hN⟩⟩ rfl rfl hl.1 rfl (lv_room (Nat.le_of_ble_eq_true rfl)) dX8_has_2 ⟨Nat.le_of_ble_eq_true rfl, Nat.le_of_ble_eq_true rfl⟩) hS (fun q _ h => h.elim) (fun q h => h.elim) (fun r_2 u t H1 locs ht hvm hw_2 hB hz1 hk1 hS => ?_)
  have hE : s.heap = H1 := hB.symm.trans ht
  subst hE
  rcases (show (r_2 = 1 ∧ ∃ j : Nat, j < n ∧ p0 = nI j) ∨ r_2 = 0 from hw_2) with ⟨rfl, j_2, hj_2, he_2⟩ | rfl
  · skip
    subst he_2
    refine lv_if_eq (tgt := 34) hx hb dX8_has_5 (by decide) (fun c_5 => absurd c_5 (by decide +kernel)) (fun _ => ?_)
    refine lv_aload_n hx hb dX8_has_8 rfl (lv_at hl 0 rfl) ?_
    refine lv_iload_n hx hb dX8_has_9 rfl (lv_at hl 2 rfl) ?_
    have hPc := hP.sub (ws' := [(mo, .inr (8, [.int (nI n), .ref m1, .ref m2, .ref m3, .long ka, .long kb, .ref m6, .ref m7, .ref m8, .ref m9, .ref m10, .ref m11, .ref m12, .ref m13, .ref m14, .ref m15, .ref m16]))]) [0] rfl
    refine va_calli (va_runV (As := [.int p1]) (rest := []) ⟨hx, hb, hml, hown, hts⟩ (mz_m_isThing l dC dI cI cJ cZ mo m1 m2 m3 m6 m7 m8 m9 m10 m11 m12 m13 m14 m15 m16 n ka kb p1 s.heap (by first | assumption | omega)) (cwV 1 hts gX8_has_X8_isThing rfl rfl rfl (by decide +kernel) ⟨Nat.le_of_ble_eq_true rfl, Nat.le_of_ble_eq_true rfl⟩) ⟨fun a U g mk q => mz_blP q, va_recv hK hPc (ci := 8) (q0 := 0) rfl rfl, fun U hU hW => ⟨rfl, hU, hPc, va_K.moved hW.alike hK, mz_nw hW hN⟩⟩ rfl rfl hl.1 rfl (lv_room (Nat.le_of_ble_eq_true rfl)) dX8_has_10 ⟨Nat.le_of_ble_eq_true rfl, Nat.le_of_ble_eq_true rfl⟩) hS (fun q _ h => h.elim) (fun q h => h.elim) (fun r_10 u t H1 locs ht hvm hw_10 hB hz1 hk1 hS => ?_)
    have hE : s.heap = H1 := hB.symm.trans ht
    subst hE
    rcases (show (r_10 = 1 ∧ ∃ j : Nat, j < n ∧ p1 = nI j) ∨ r_10 = 0 from hw_10) with ⟨rfl, j_10, hj_10, he_10⟩ | rfl
    · skip
      subst he_10
      refine lv_if_eq (tgt := 34) hx hb dX8_has_13 (by decide) (fun c_13 => absurd c_13 (by decide +kernel)) (fun _ => ?_)
      refine lv_aload_n hx hb dX8_has_16 rfl (lv_at hl 0 rfl) ?_
      refine va_get (D := (dC, dI)) (ci := 8) (v := .ref m2) (C := RX8) (T := TX8) (N := 17) hx hb hts hiX8 hown hK hP 0 rfl rfl 2 (by decide) (hts (.fieldLink RX8 13 "MadeItSoModel" "parents" "[I") (by decide +kernel)) (fun _ h9 => h9) rfl dX8_has_17 ?_
      refine lv_iload_n hx hb dX8_has_20 rfl (lv_at hl 2 rfl) ?_
      refine va_iald hx hb hK hP 1 0 rfl rfl (vp_in_nI (by omega) (by omega)) dX8_has_21 ?_
      refine mz_ti (y := (fp j_10)) (by rw [mz_cl (by omega)]) ?_
      refine lv_iload_n hx hb dX8_has_22 rfl (lv_at hl 1 rfl) ?_
      refine lv_ishr hx hb dX8_has_23 ?_
      refine lv_iconst (v := 1) hx hb dX8_has_24 (by decide +kernel) ?_
      refine lv_iand hx hb dX8_has_25 ?_
      refine lv_iconst (v := 1) hx hb dX8_has_26 (by decide +kernel) ?_
      refine lv_icmp_ne (tgt := 34) hx hb dX8_has_27 (by decide) (fun c_27 => ?_) (fun c_27 => ?_)
      · skip
        refine lv_iconst (v := 0) hx hb dX8_has_34 (by decide +kernel) ?_
        refine W.widen (k := 0) (n := 0) (Nat.le_of_ble_eq_true rfl) (Nat.le_of_ble_eq_true rfl) ?_
        exact W.zret (v := 0) hx hb hr (mz_nz (by decide +kernel)) (fun t ht hW => ⟨⟨0, (), rfl, Or.inr rfl, ht⟩, hS.F ht⟩) hS.2.2 dX8_has_35
      · skip
        refine lv_iconst (v := 1) hx hb dX8_has_30 (by decide +kernel) ?_
        refine lv_goto (tgt := 35) hx hb dX8_has_31 (by decide) ?_
        refine W.widen (k := 0) (n := 0) (Nat.le_of_ble_eq_true rfl) (Nat.le_of_ble_eq_true rfl) ?_
        exact W.zret (v := 1) hx hb hr (mz_nz (by decide +kernel)) (fun t ht hW => ⟨⟨1, (), rfl, Or.inl ⟨rfl, j_2, j_10, hj_2, hj_10, rfl, rfl, c_27⟩, ht⟩, hS.F ht⟩) hS.2.2 dX8_has_35
    · skip
      refine lv_if_eq (tgt := 34) hx hb dX8_has_13 (by decide) (fun _ => ?_) (fun c_13 => absurd (by decide +kernel) c_13)
      refine lv_iconst (v := 0) hx hb dX8_has_34 (by decide +kernel) ?_
      refine W.widen (k := 0) (n := 0) (Nat.le_of_ble_eq_true rfl) (Nat.le_of_ble_eq_true rfl) ?_
      exact W.zret (v := 0) hx hb hr (mz_nz (by decide +kernel)) (fun t ht hW => ⟨⟨0, (), rfl, Or.inr rfl, ht⟩, hS.F ht⟩) hS.2.2 dX8_has_35
  · skip
    refine lv_if_eq (tgt := 34) hx hb dX8_has_5 (by decide) (fun _ => ?_) (fun c_5 => absurd (by decide +kernel) c_5)
    refine lv_iconst (v := 0) hx hb dX8_has_34 (by decide +kernel) ?_
    refine W.widen (k := 0) (n := 0) (Nat.le_of_ble_eq_true rfl) (Nat.le_of_ble_eq_true rfl) ?_
    exact W.zret (v := 0) hx hb hr (mz_nz (by decide +kernel)) (fun t ht hW => ⟨⟨0, (), rfl, Or.inr rfl, ht⟩, hS.F ht⟩) hS.2.2 dX8_has_35
set_option maxHeartbeats 1000000 in
set_option maxRecDepth 100000 in
theorem mz_m_pw0 (l : Launch) (dC : Nat → ClassId) (dI : Nat → Nat → Nat) (cI cJ cZ : ClassId) (mo : Nat) (m1 : Nat) (m2 : Nat) (m3 : Nat) (m6 : Nat) (m7 : Nat) (m8 : Nat) (m9 : Nat) (m10 : Nat) (m11 : Nat) (m12 : Nat) (m13 : Nat) (m14 : Nat) (m15 : Nat) (m16 : Nat) (n : Nat) (ka : Int64) (kb : Int64) (fp : Nat → Int32) (j : Nat) (p1 : Int32) (Hq : Heap) (hj : j < 8) : Met l yX8_parentsWithout wsX8_parentsWithout ({ frames := 0, cells := 0, slots := 0, locals := 0 }) (va_Pc [.ref mo, .int (nI j), .int p1, .int 0] (fun U => U.heap = Hq ∧ va_P (dC, dI) vwCl [(mo, .inr (8, [.int (nI n), .ref m1, .ref m2, .ref m3, .long ka, .long kb, .ref m6, .ref m7, .ref m8, .ref m9, .ref m10, .ref m11, .ref m12, .ref m13, .ref m14, .ref m15, .ref m16])), (m2, .inl (cI, 8, .inl fp))] Hq ∧ va_K (dC, dI) vwCl [(cI, FieldType.int), (cJ, FieldType.long), (cZ, FieldType.boolean)] U ∧ mz_N U)) (va_Qi (fun (r : Int32) (_ : Unit) => r = (fp j)) (fun _ t => t.heap = Hq) (fun _ : Nat => False)) 0 0 (fun _ : Nat => False) := by
  refine Met.ofW (cc := cX8_parentsWithout) (maxL := 4) (ret := (some .int)) (by decide) rfl ?_
  intro p e s m args below meth c s₁ B hml hv
  obtain ⟨rfl, hH, hP, hK, hN⟩ := hv
  subst hH
  have hx := B.exec
  have hb := B.bytes
  have hr := B.returns
  have hts := atoms_spec (ws := wsX8_parentsWithout) B.pre
  have hown : s.vm.findClass RX8 = some m.cls := findClass_of_methodNamed B.named
  have hlocks := B.notSynchronized
  have hS : va_S (fun _ : Nat => False) s.heap s.heap [] := va_S.rf
  have hiX8 : ∀ w ∈ u_ws RX8 TX8 17, w ∈ wsX8_parentsWithout := by decide +kernel
  have hl := lv_entry ([.ref mo, .int (nI j), .int p1, .int 0]) (n := 4) (Nat.le_of_ble_eq_true rfl)
  rw [lg_entry_eq]
  generalize (lg_sl ([.ref mo, .int (nI j), .int p1, .int 0]) ++ List.replicate (4 - (lg_sl ([.ref mo, .int (nI j), .int p1, .int 0])).length) Slot.unset).toArray = ls at hl ⊢
  have hl : lv_has ls 4 [(0, .ref mo), (1, .int (nI j)), (2, .int p1), (3, .int 0)] := hl
  refine lv_iload_n hx hb dX8_parentsWithout_0 rfl (lv_at hl 3 rfl) ?_
  refine lv_iload_n hx hb dX8_parentsWithout_1 rfl (lv_at hl 1 rfl) ?_
  refine lv_ishr hx hb dX8_parentsWithout_2 ?_
  refine mz_ti (y := 0) (mz_0s _) ?_
  refine lv_iconst (v := 1) hx hb dX8_parentsWithout_3 (by decide +kernel) ?_
  refine lv_iand hx hb dX8_parentsWithout_4 ?_
  refine mz_ti (y := 0) (by decide +kernel) ?_
  refine lv_iconst (v := 1) hx hb dX8_parentsWithout_5 (by decide +kernel) ?_
  refine lv_icmp_ne (tgt := 24) hx hb dX8_parentsWithout_6 (by decide) (fun _ => ?_) (fun c_6 => absurd c_6 (by decide +kernel))
  refine lv_aload_n hx hb dX8_parentsWithout_24 rfl (lv_at hl 0 rfl) ?_
  refine va_get (D := (dC, dI)) (ci := 8) (v := .ref m2) (C := RX8) (T := TX8) (N := 17) hx hb hts hiX8 hown hK hP 0 rfl rfl 2 (by decide) (hts (.fieldLink RX8 13 "MadeItSoModel" "parents" "[I") (by decide +kernel)) (fun _ h9 => h9) rfl dX8_parentsWithout_25 ?_
  refine lv_iload_n hx hb dX8_parentsWithout_28 rfl (lv_at hl 1 rfl) ?_
  refine va_iald hx hb hK hP 1 0 rfl rfl (vp_in_nI (by omega) (by omega)) dX8_parentsWithout_29 ?_
  refine mz_ti (y := (fp j)) (by rw [mz_cl (by omega)]) ?_
  refine W.widen (k := 0) (n := 0) (Nat.le_of_ble_eq_true rfl) (Nat.le_of_ble_eq_true rfl) ?_
  exact W.iret (v := (fp j)) hx hb hr (fun t ht hW => ⟨⟨(fp j), (), rfl, rfl, ht⟩, hS.F ht⟩) hS.2.2 dX8_parentsWithout_30
set_option maxHeartbeats 1000000 in
set_option maxRecDepth 100000 in
theorem mz_m_pw (l : Launch) (dC : Nat → ClassId) (dI : Nat → Nat → Nat) (cI cJ cZ : ClassId) (mo : Nat) (m1 : Nat) (m2 : Nat) (m3 : Nat) (m6 : Nat) (m7 : Nat) (m8 : Nat) (m9 : Nat) (m10 : Nat) (m11 : Nat) (m12 : Nat) (m13 : Nat) (m14 : Nat) (m15 : Nat) (m16 : Nat) (n : Nat) (ka : Int64) (kb : Int64) (fp : Nat → Int32) (j : Nat) (p1 : Int32) (p2 : Int32) (Hq : Heap) (hj : j < 8) : Met l yX8_parentsWithout wsX8_parentsWithout ({ frames := 0, cells := 0, slots := 0, locals := 0 }) (va_Pc [.ref mo, .int (nI j), .int p1, .int p2] (fun U => U.heap = Hq ∧ va_P (dC, dI) vwCl [(mo, .inr (8, [.int (nI n), .ref m1, .ref m2, .ref m3, .long ka, .long kb, .ref m6, .ref m7, .ref m8, .ref m9, .ref m10, .ref m11, .ref m12, .ref m13, .ref m14, .ref m15, .ref m16])), (m2, .inl (cI, 8, .inl fp))] Hq ∧ va_K (dC, dI) vwCl [(cI, FieldType.int), (cJ, FieldType.long), (cZ, FieldType.boolean)] U ∧ mz_N U)) (va_Qi (fun (r : Int32) (_ : Unit) => True) (fun _ t => t.heap = Hq) (fun _ : Nat => False)) 0 0 (fun _ : Nat => False) := by
  refine Met.ofW (cc := cX8_parentsWithout) (maxL := 4) (ret := (some .int)) (by decide) rfl ?_
  intro p e s m args below meth c s₁ B hml hv
  obtain ⟨rfl, hH, hP, hK, hN⟩ := hv
  subst hH
  have hx := B.exec
  have hb := B.bytes
  have hr := B.returns
  have hts := atoms_spec (ws := wsX8_parentsWithout) B.pre
  have hown : s.vm.findClass RX8 = some m.cls := findClass_of_methodNamed B.named
  have hlocks := B.notSynchronized
  have hS : va_S (fun _ : Nat => False) s.heap s.heap [] := va_S.rf
  have hiX8 : ∀ w ∈ u_ws RX8 TX8 17, w ∈ wsX8_parentsWithout := by decide +kernel
  have hl := lv_entry ([.ref mo, .int (nI j), .int p1, .int p2]) (n := 4) (Nat.le_of_ble_eq_true rfl)
  rw [lg_entry_eq]
  generalize (lg_sl ([.ref mo, .int (nI j), .int p1, .int p2]) ++ List.replicate (4 - (lg_sl ([.ref mo, .int (nI j), .int p1, .int p2])).length) Slot.unset).toArray = ls at hl ⊢
  have hl : lv_has ls 4 [(0, .ref mo), (1, .int (nI j)), (2, .int p1), (3, .int p2)] := hl
  refine lv_iload_n hx hb dX8_parentsWithout_0 rfl (lv_at hl 3 rfl) ?_
  refine lv_iload_n hx hb dX8_parentsWithout_1 rfl (lv_at hl 1 rfl) ?_
  refine lv_ishr hx hb dX8_parentsWithout_2 ?_
  refine lv_topi (fun v_2 ev_2 => ?_)
  refine lv_iconst (v := 1) hx hb dX8_parentsWithout_3 (by decide +kernel) ?_
  refine lv_iand hx hb dX8_parentsWithout_4 ?_
  refine lv_topi (fun v_4 ev_4 => ?_)
  refine lv_iconst (v := 1) hx hb dX8_parentsWithout_5 (by decide +kernel) ?_
  refine lv_icmp_ne (tgt := 24) hx hb dX8_parentsWithout_6 (by decide) (fun c_6 => ?_) (fun c_6 => ?_)
  · skip
    refine lv_aload_n hx hb dX8_parentsWithout_24 rfl (lv_at hl 0 rfl) ?_
    refine va_get (D := (dC, dI)) (ci := 8) (v := .ref m2) (C := RX8) (T := TX8) (N := 17) hx hb hts hiX8 hown hK hP 0 rfl rfl 2 (by decide) (hts (.fieldLink RX8 13 "MadeItSoModel" "parents" "[I") (by decide +kernel)) (fun _ h9 => h9) rfl dX8_parentsWithout_25 ?_
    refine lv_iload_n hx hb dX8_parentsWithout_28 rfl (lv_at hl 1 rfl) ?_
    refine va_iald hx hb hK hP 1 0 rfl rfl (vp_in_nI (by omega) (by omega)) dX8_parentsWithout_29 ?_
    refine lv_topi (fun v_29 ev_29 => ?_)
    refine W.widen (k := 0) (n := 0) (Nat.le_of_ble_eq_true rfl) (Nat.le_of_ble_eq_true rfl) ?_
    exact W.iret (v := v_29) hx hb hr (fun t ht hW => ⟨⟨v_29, (), rfl, trivial, ht⟩, hS.F ht⟩) hS.2.2 dX8_parentsWithout_30
  · skip
    refine lv_aload_n hx hb dX8_parentsWithout_9 rfl (lv_at hl 0 rfl) ?_
    refine va_get (D := (dC, dI)) (ci := 8) (v := .ref m2) (C := RX8) (T := TX8) (N := 17) hx hb hts hiX8 hown hK hP 0 rfl rfl 2 (by decide) (hts (.fieldLink RX8 13 "MadeItSoModel" "parents" "[I") (by decide +kernel)) (fun _ h9 => h9) rfl dX8_parentsWithout_10 ?_
    refine lv_iload_n hx hb dX8_parentsWithout_13 rfl (lv_at hl 1 rfl) ?_
    refine va_iald hx hb hK hP 1 0 rfl rfl (vp_in_nI (by omega) (by omega)) dX8_parentsWithout_14 ?_
    refine lv_topi (fun v_14 ev_14 => ?_)
    refine lv_iconst (v := 1) hx hb dX8_parentsWithout_15 (by decide +kernel) ?_
    refine lv_iload_n hx hb dX8_parentsWithout_16 rfl (lv_at hl 2 rfl) ?_
    refine lv_ishl hx hb dX8_parentsWithout_17 ?_
    refine lv_topi (fun v_17 ev_17 => ?_)
    refine lv_iconst (v := (-1)) hx hb dX8_parentsWithout_18 (by decide +kernel) ?_
    refine lv_ixor hx hb dX8_parentsWithout_19 ?_
    refine lv_topi (fun v_19 ev_19 => ?_)
    refine lv_iand hx hb dX8_parentsWithout_20 ?_
    refine lv_topi (fun v_20 ev_20 => ?_)
    refine lv_goto (tgt := 30) hx hb dX8_parentsWithout_21 (by decide) ?_
    refine W.widen (k := 0) (n := 0) (Nat.le_of_ble_eq_true rfl) (Nat.le_of_ble_eq_true rfl) ?_
    exact W.iret (v := v_20) hx hb hr (fun t ht hW => ⟨⟨v_20, (), rfl, trivial, ht⟩, hS.F ht⟩) hS.2.2 dX8_parentsWithout_30
set_option maxHeartbeats 1000000 in
set_option maxRecDepth 100000 in
theorem mz_m_belowOf (l : Launch) (dC : Nat → ClassId) (dI : Nat → Nat → Nat) (cI cJ cZ : ClassId) (mo : Nat) (m1 : Nat) (m2 : Nat) (m3 : Nat) (m6 : Nat) (m7 : Nat) (m8 : Nat) (m9 : Nat) (m10 : Nat) (m11 : Nat) (m12 : Nat) (m13 : Nat) (m14 : Nat) (m15 : Nat) (m16 : Nat) (n : Nat) (ka : Int64) (kb : Int64) (fp : Nat → Int32) (p1 : Int32) (Hq : Heap) (hn : n ≤ 8) : Met l yX8_belowOf wsX8_belowOf ({ frames := 1, cells := 0, slots := 0, locals := 23 }) (va_Pc [.ref mo, .int p1, .int 0] (fun U => U.heap = Hq ∧ va_P (dC, dI) vwCl [(mo, .inr (8, [.int (nI n), .ref m1, .ref m2, .ref m3, .long ka, .long kb, .ref m6, .ref m7, .ref m8, .ref m9, .ref m10, .ref m11, .ref m12, .ref m13, .ref m14, .ref m15, .ref m16])), (m2, .inl (cI, 8, .inl fp))] Hq ∧ va_K (dC, dI) vwCl [(cI, FieldType.int), (cJ, FieldType.long), (cZ, FieldType.boolean)] U ∧ mz_N U)) (va_Qi (fun (r : Int32) (_ : Unit) => ∀ k, k < n → mz_clo fp p1 r k) (fun _ t => t.heap = Hq) (fun _ : Nat => False)) 0 0 (fun _ : Nat => False) := by
  refine Met.ofW (cc := cX8_belowOf) (maxL := 8) (ret := (some .int)) (by decide) rfl ?_
  intro p e s m args below meth c s₁ B hml hv
  obtain ⟨rfl, hH, hP, hK, hN⟩ := hv
  subst hH
  have hx := B.exec
  have hb := B.bytes
  have hr := B.returns
  have hts := atoms_spec (ws := wsX8_belowOf) B.pre
  have hown : s.vm.findClass RX8 = some m.cls := findClass_of_methodNamed B.named
  have hlocks := B.notSynchronized
  have hS : va_S (fun _ : Nat => False) s.heap s.heap [] := va_S.rf
  have hiX8 : ∀ w ∈ u_ws RX8 TX8 17, w ∈ wsX8_belowOf := by decide +kernel
  have hl := lv_entry ([.ref mo, .int p1, .int 0]) (n := 8) (Nat.le_of_ble_eq_true rfl)
  rw [lg_entry_eq]
  generalize (lg_sl ([.ref mo, .int p1, .int 0]) ++ List.replicate (8 - (lg_sl ([.ref mo, .int p1, .int 0])).length) Slot.unset).toArray = ls at hl ⊢
  have hl : lv_has ls 8 [(0, .ref mo), (1, .int p1), (2, .int 0)] := hl
  refine lv_iconst (v := 0) hx hb dX8_belowOf_0 (by decide +kernel) ?_
  refine lv_istore_n (lv' := [(3, .int 0), (0, .ref mo), (1, .int p1), (2, .int 0)]) hx hb dX8_belowOf_1 rfl hl (by decide) rfl (fun ls hl => ?_)
  refine lv_iconst (v := 1) hx hb dX8_belowOf_2 (by decide +kernel) ?_
  refine lv_istore (lv' := [(4, .int 1), (3, .int 0), (0, .ref mo), (1, .int p1), (2, .int 0)]) hx hb dX8_belowOf_3 hl (by decide) rfl (fun ls hl => ?_)
  refine mz_loopU (fun k H locs ls => ∃ (x4_5 : Int32), ∃ (x3_5 : Int32), (x4_5 = 0 → ∀ k, k < n → mz_clo fp p1 x3_5 k) ∧ H = s.heap ∧ va_S (fun _ : Nat => False) s.heap H locs ∧ lv_has ls 8 [(4, .int x4_5), (3, .int x3_5), (0, .ref mo), (1, .int p1), (2, .int 0)] ∧ k = 2 * mz_un x3_5 n + (if x4_5 = 0 then 0 else 1)) ?_ _ _ _ _ ⟨1, 0, (fun h => absurd h (by decide)), rfl, hS, lv_sub hl [0, 1, 2, 3, 4] rfl, rfl⟩
  intro k_5 H locs ls hI_5 ih_5
  obtain ⟨x4_5, x3_5, hc_5, hH_5, hS, hl, hk_5⟩ := hI_5
  subst hH_5
  refine lv_iload hx hb dX8_belowOf_5 (lv_at hl 0 rfl) ?_
  refine lv_if_eq (tgt := 95) hx hb dX8_belowOf_7 (by decide) (fun c_7 => ?_) (fun c_7 => ?_)
  · skip
    refine lv_iload_n hx hb dX8_belowOf_95 rfl (lv_at hl 1 rfl) ?_
    refine W.widen (k := 0) (n := 0) (Nat.le_of_ble_eq_true rfl) (Nat.le_of_ble_eq_true rfl) ?_
    exact W.iret (v := x3_5) hx hb hr (fun t ht hW => ⟨⟨x3_5, (), rfl, hc_5 c_7, ht⟩, hS.F ht⟩) hS.2.2 dX8_belowOf_96
  · skip
    refine lv_iconst (v := 0) hx hb dX8_belowOf_10 (by decide +kernel) ?_
    refine lv_istore (lv' := [(4, .int 0), (3, .int x3_5), (0, .ref mo), (1, .int p1), (2, .int 0)]) hx hb dX8_belowOf_11 hl (by decide) rfl (fun ls hl => ?_)
    refine lv_iconst (v := 0) hx hb dX8_belowOf_13 (by decide +kernel) ?_
    refine lv_istore (lv' := [(5, .int 0), (4, .int 0), (3, .int x3_5), (0, .ref mo), (1, .int p1), (2, .int 0)]) hx hb dX8_belowOf_14 hl (by decide) rfl (fun ls hl => ?_)
    refine mz_loopU (fun k H locs ls => ∃ (i_16 : Nat), ∃ (x4_16 : Int32), ∃ (x3_16 : Int32), i_16 ≤ n ∧ (x4_16 = 0 → ((∀ k, k < i_16 → mz_clo fp p1 x3_16 k) ∧ x3_16 = x3_5)) ∧ (mz_un x3_16 n ≤ mz_un x3_5 n) ∧ (¬ x4_16 = 0 → mz_un x3_16 n < mz_un x3_5 n) ∧ H = s.heap ∧ va_S (fun _ : Nat => False) s.heap H locs ∧ lv_has ls 8 [(5, .int (nI i_16)), (4, .int x4_16), (3, .int x3_16), (0, .ref mo), (1, .int p1), (2, .int 0)] ∧ k = n - i_16) ?_ _ _ _ _ ⟨0, 0, x3_5, by omega, (fun _ => ⟨fun k hk => absurd hk (Nat.not_lt_zero k), rfl⟩), Nat.le_refl _, (fun h => absurd rfl h), rfl, hS, lv_sub hl [0, 1, 2, 3, 4, 5] rfl, rfl⟩
    intro k_16 H locs ls hI_16 ih_16
    obtain ⟨i_16, x4_16, x3_16, hi_16, hq_16, hu_16, hv_16, hH_16, hS, hl, hk_16⟩ := hI_16
    subst hH_16
    refine lv_iload hx hb dX8_belowOf_16 (lv_at hl 0 rfl) ?_
    refine lv_aload_n hx hb dX8_belowOf_18 rfl (lv_at hl 3 rfl) ?_
    refine va_get (D := (dC, dI)) (ci := 8) (v := .int (nI n)) (C := RX8) (T := TX8) (N := 17) hx hb hts hiX8 hown hK hP 0 rfl rfl 0 (by decide) (hts (.fieldLink RX8 58 "MadeItSoModel" "many" "I") (by decide +kernel)) (fun _ h9 => h9) rfl dX8_belowOf_19 ?_
    refine lv_icmp_ge (tgt := 92) hx hb dX8_belowOf_22 (by decide) (fun c_22 => ?_) (fun c_22 => ?_)
    · skip
      have d_22 : n ≤ i_16 := (nI_leI (a := n) (b := i_16) (by omega) (by omega)).mp c_22
      refine lv_goto (tgt := 5) hx hb dX8_belowOf_92 (by decide) ?_
      exact ih_5 _ (mz_two hk_5 c_7 hu_16 hv_16) _ _ _ ⟨x4_16, x3_16, (fun h k hk => (hq_16 h).1 k (by omega)), rfl, hS, lv_sub hl [1, 2, 3, 4, 5] rfl, rfl⟩
    · skip
      have d_22 : ¬ n ≤ i_16 := fun h => c_22 ((nI_leI (a := n) (b := i_16) (by omega) (by omega)).mpr h)
      refine lv_aload_n hx hb dX8_belowOf_25 rfl (lv_at hl 3 rfl) ?_
      refine lv_iload hx hb dX8_belowOf_26 (lv_at hl 0 rfl) ?_
      refine lv_iload_n hx hb dX8_belowOf_28 rfl (lv_at hl 4 rfl) ?_
      refine lv_iload_n hx hb dX8_belowOf_29 rfl (lv_at hl 5 rfl) ?_
      have hPc := hP.sub (ws' := [(mo, .inr (8, [.int (nI n), .ref m1, .ref m2, .ref m3, .long ka, .long kb, .ref m6, .ref m7, .ref m8, .ref m9, .ref m10, .ref m11, .ref m12, .ref m13, .ref m14, .ref m15, .ref m16])), (m2, .inl (cI, 8, .inl fp))]) [0, 1] rfl
      refine va_calli (va_runV (As := [.int (nI i_16), .int p1, .int 0]) (rest := []) ⟨hx, hb, hml, hown, hts⟩ (mz_m_pw0 l dC dI cI cJ cZ mo m1 m2 m3 m6 m7 m8 m9 m10 m11 m12 m13 m14 m15 m16 n ka kb fp i_16 p1 s.heap (by first | assumption | omega)) (cwV 3 hts gX8_belowOf_X8_parentsWithout rfl rfl rfl (by decide +kernel) ⟨Nat.le_of_ble_eq_true rfl, Nat.le_of_ble_eq_true rfl⟩) ⟨fun a U g mk q => mz_blP q, va_recv hK hPc (ci := 8) (q0 := 0) rfl rfl, fun U hU hW => ⟨rfl, hU, hPc, va_K.moved hW.alike hK, mz_nw hW hN⟩⟩ rfl rfl hl.1 rfl (lv_room (Nat.le_of_ble_eq_true rfl)) dX8_belowOf_30 ⟨Nat.le_of_ble_eq_true rfl, Nat.le_of_ble_eq_true rfl⟩) hS (fun q _ h => h.elim) (fun q h => h.elim) (fun r_30 u t H1 locs ht hvm hw_30 hB hz1 hk1 hS => ?_)
      have hE : s.heap = H1 := hB.symm.trans ht
      subst hE
      obtain rfl : r_30 = (fp i_16) := hw_30
      refine lv_istore (lv' := [(6, .int (fp i_16)), (5, .int (nI i_16)), (4, .int x4_16), (3, .int x3_16), (0, .ref mo), (1, .int p1), (2, .int 0)]) hx hb dX8_belowOf_33 hl (by decide) rfl (fun ls hl => ?_)
      refine lv_iload_n hx hb dX8_belowOf_35 rfl (lv_at hl 3 rfl) ?_
      refine lv_iload hx hb dX8_belowOf_36 (lv_at hl 1 rfl) ?_
      refine lv_ishr hx hb dX8_belowOf_38 ?_
      refine lv_iconst (v := 1) hx hb dX8_belowOf_39 (by decide +kernel) ?_
      refine lv_iand hx hb dX8_belowOf_40 ?_
      refine lv_if_ne (tgt := 65) hx hb dX8_belowOf_41 (by decide) (fun c_41 => ?_) (fun c_41 => ?_)
      · skip
        refine lv_iconst (v := 0) hx hb dX8_belowOf_65 (by decide +kernel) ?_
        refine lv_istore (lv' := [(7, .int 0), (6, .int (fp i_16)), (5, .int (nI i_16)), (4, .int x4_16), (3, .int x3_16), (0, .ref mo), (1, .int p1), (2, .int 0)]) hx hb dX8_belowOf_66 hl (by decide) rfl (fun ls hl => ?_)
        refine lv_iload hx hb dX8_belowOf_68 (lv_at hl 0 rfl) ?_
        refine lv_if_ne (tgt := 76) hx hb dX8_belowOf_70 (by decide) (fun c_70 => absurd (by decide +kernel) c_70) (fun _ => ?_)
        refine lv_goto (tgt := 86) hx hb dX8_belowOf_73 (by decide) ?_
        refine lv_iinc (v := (nI (i_16 + 1))) (lv' := [(5, .int (nI (i_16 + 1))), (7, .int 0), (6, .int (fp i_16)), (4, .int x4_16), (3, .int x3_16), (0, .ref mo), (1, .int p1), (2, .int 0)]) hx hb dX8_belowOf_86 hl (k := 2) rfl (nI_1 _) (by decide) rfl (fun ls hl => ?_)
        refine lv_goto (tgt := 16) hx hb dX8_belowOf_89 (by decide) ?_
        exact ih_16 _ (by omega) _ _ _ ⟨(i_16 + 1), x4_16, x3_16, by omega, (by first | exact (fun h => absurd h (by decide)) | exact (fun h => ⟨lt_s (hq_16 h).1 (by first | exact Or.inl c_41 | exact Or.inr ⟨c_51, c_58⟩), (hq_16 h).2⟩)), (by first | exact hu_16 | exact Nat.le_of_lt (Nat.lt_of_lt_of_le (mz_un_set c_41 (by omega) (by omega)) hu_16)), (by first | exact hv_16 | exact (fun _ => Nat.lt_of_lt_of_le (mz_un_set c_41 (by omega) (by omega)) hu_16)), rfl, hS, lv_sub hl [0, 3, 4, 5, 6, 7] rfl, rfl⟩
      · skip
        refine lv_iload hx hb dX8_belowOf_44 (lv_at hl 0 rfl) ?_
        refine lv_iload_n hx hb dX8_belowOf_46 rfl (lv_at hl 5 rfl) ?_
        refine lv_ishr hx hb dX8_belowOf_47 ?_
        refine lv_iconst (v := 1) hx hb dX8_belowOf_48 (by decide +kernel) ?_
        refine lv_iand hx hb dX8_belowOf_49 ?_
        refine lv_iconst (v := 1) hx hb dX8_belowOf_50 (by decide +kernel) ?_
        refine lv_icmp_eq (tgt := 61) hx hb dX8_belowOf_51 (by decide) (fun c_51 => ?_) (fun c_51 => ?_)
        · skip
          refine lv_iconst (v := 1) hx hb dX8_belowOf_61 (by decide +kernel) ?_
          refine lv_goto (tgt := 66) hx hb dX8_belowOf_62 (by decide) ?_
          refine lv_istore (lv' := [(7, .int 1), (6, .int (fp i_16)), (5, .int (nI i_16)), (4, .int x4_16), (3, .int x3_16), (0, .ref mo), (1, .int p1), (2, .int 0)]) hx hb dX8_belowOf_66 hl (by decide) rfl (fun ls hl => ?_)
          refine lv_iload hx hb dX8_belowOf_68 (lv_at hl 0 rfl) ?_
          refine lv_if_ne (tgt := 76) hx hb dX8_belowOf_70 (by decide) (fun _ => ?_) (fun c_70 => absurd c_70 (by decide +kernel))
          refine lv_iload_n hx hb dX8_belowOf_76 rfl (lv_at hl 4 rfl) ?_
          refine lv_iconst (v := 1) hx hb dX8_belowOf_77 (by decide +kernel) ?_
          refine lv_iload hx hb dX8_belowOf_78 (lv_at hl 2 rfl) ?_
          refine lv_ishl hx hb dX8_belowOf_80 ?_
          refine lv_ior hx hb dX8_belowOf_81 ?_
          refine lv_istore_n (lv' := [(3, .int (x3_16 ||| (1 <<< ((nI i_16) &&& 31)))), (7, .int 1), (6, .int (fp i_16)), (5, .int (nI i_16)), (4, .int x4_16), (0, .ref mo), (1, .int p1), (2, .int 0)]) hx hb dX8_belowOf_82 rfl hl (by decide) rfl (fun ls hl => ?_)
          refine lv_iconst (v := 1) hx hb dX8_belowOf_83 (by decide +kernel) ?_
          refine lv_istore (lv' := [(4, .int 1), (3, .int (x3_16 ||| (1 <<< ((nI i_16) &&& 31)))), (7, .int 1), (6, .int (fp i_16)), (5, .int (nI i_16)), (0, .ref mo), (1, .int p1), (2, .int 0)]) hx hb dX8_belowOf_84 hl (by decide) rfl (fun ls hl => ?_)
          refine lv_iinc (v := (nI (i_16 + 1))) (lv' := [(5, .int (nI (i_16 + 1))), (4, .int 1), (3, .int (x3_16 ||| (1 <<< ((nI i_16) &&& 31)))), (7, .int 1), (6, .int (fp i_16)), (0, .ref mo), (1, .int p1), (2, .int 0)]) hx hb dX8_belowOf_86 hl (k := 4) rfl (nI_1 _) (by decide) rfl (fun ls hl => ?_)
          refine lv_goto (tgt := 16) hx hb dX8_belowOf_89 (by decide) ?_
          exact ih_16 _ (by omega) _ _ _ ⟨(i_16 + 1), 1, (x3_16 ||| (1 <<< ((nI i_16) &&& 31))), by omega, (by first | exact (fun h => absurd h (by decide)) | exact (fun h => ⟨lt_s (hq_16 h).1 (by first | exact Or.inl c_41 | exact Or.inr ⟨c_51, c_58⟩), (hq_16 h).2⟩)), (by first | exact hu_16 | exact Nat.le_of_lt (Nat.lt_of_lt_of_le (mz_un_set c_41 (by omega) (by omega)) hu_16)), (by first | exact hv_16 | exact (fun _ => Nat.lt_of_lt_of_le (mz_un_set c_41 (by omega) (by omega)) hu_16)), rfl, hS, lv_sub hl [0, 1, 2, 5, 6, 7] rfl, rfl⟩
        · skip
          refine lv_iload hx hb dX8_belowOf_54 (lv_at hl 0 rfl) ?_
          refine lv_iload_n hx hb dX8_belowOf_56 rfl (lv_at hl 3 rfl) ?_
          refine lv_iand hx hb dX8_belowOf_57 ?_
          refine lv_if_eq (tgt := 65) hx hb dX8_belowOf_58 (by decide) (fun c_58 => ?_) (fun c_58 => ?_)
          · skip
            refine lv_iconst (v := 0) hx hb dX8_belowOf_65 (by decide +kernel) ?_
            refine lv_istore (lv' := [(7, .int 0), (6, .int (fp i_16)), (5, .int (nI i_16)), (4, .int x4_16), (3, .int x3_16), (0, .ref mo), (1, .int p1), (2, .int 0)]) hx hb dX8_belowOf_66 hl (by decide) rfl (fun ls hl => ?_)
            refine lv_iload hx hb dX8_belowOf_68 (lv_at hl 0 rfl) ?_
            refine lv_if_ne (tgt := 76) hx hb dX8_belowOf_70 (by decide) (fun c_70 => absurd (by decide +kernel) c_70) (fun _ => ?_)
            refine lv_goto (tgt := 86) hx hb dX8_belowOf_73 (by decide) ?_
            refine lv_iinc (v := (nI (i_16 + 1))) (lv' := [(5, .int (nI (i_16 + 1))), (7, .int 0), (6, .int (fp i_16)), (4, .int x4_16), (3, .int x3_16), (0, .ref mo), (1, .int p1), (2, .int 0)]) hx hb dX8_belowOf_86 hl (k := 2) rfl (nI_1 _) (by decide) rfl (fun ls hl => ?_)
            refine lv_goto (tgt := 16) hx hb dX8_belowOf_89 (by decide) ?_
            exact ih_16 _ (by omega) _ _ _ ⟨(i_16 + 1), x4_16, x3_16, by omega, (by first | exact (fun h => absurd h (by decide)) | exact (fun h => ⟨lt_s (hq_16 h).1 (by first | exact Or.inl c_41 | exact Or.inr ⟨c_51, c_58⟩), (hq_16 h).2⟩)), (by first | exact hu_16 | exact Nat.le_of_lt (Nat.lt_of_lt_of_le (mz_un_set c_41 (by omega) (by omega)) hu_16)), (by first | exact hv_16 | exact (fun _ => Nat.lt_of_lt_of_le (mz_un_set c_41 (by omega) (by omega)) hu_16)), rfl, hS, lv_sub hl [0, 3, 4, 5, 6, 7] rfl, rfl⟩
          · skip
            refine lv_iconst (v := 1) hx hb dX8_belowOf_61 (by decide +kernel) ?_
            refine lv_goto (tgt := 66) hx hb dX8_belowOf_62 (by decide) ?_
            refine lv_istore (lv' := [(7, .int 1), (6, .int (fp i_16)), (5, .int (nI i_16)), (4, .int x4_16), (3, .int x3_16), (0, .ref mo), (1, .int p1), (2, .int 0)]) hx hb dX8_belowOf_66 hl (by decide) rfl (fun ls hl => ?_)
            refine lv_iload hx hb dX8_belowOf_68 (lv_at hl 0 rfl) ?_
            refine lv_if_ne (tgt := 76) hx hb dX8_belowOf_70 (by decide) (fun _ => ?_) (fun c_70 => absurd c_70 (by decide +kernel))
            refine lv_iload_n hx hb dX8_belowOf_76 rfl (lv_at hl 4 rfl) ?_
            refine lv_iconst (v := 1) hx hb dX8_belowOf_77 (by decide +kernel) ?_
            refine lv_iload hx hb dX8_belowOf_78 (lv_at hl 2 rfl) ?_
            refine lv_ishl hx hb dX8_belowOf_80 ?_
            refine lv_ior hx hb dX8_belowOf_81 ?_
            refine lv_istore_n (lv' := [(3, .int (x3_16 ||| (1 <<< ((nI i_16) &&& 31)))), (7, .int 1), (6, .int (fp i_16)), (5, .int (nI i_16)), (4, .int x4_16), (0, .ref mo), (1, .int p1), (2, .int 0)]) hx hb dX8_belowOf_82 rfl hl (by decide) rfl (fun ls hl => ?_)
            refine lv_iconst (v := 1) hx hb dX8_belowOf_83 (by decide +kernel) ?_
            refine lv_istore (lv' := [(4, .int 1), (3, .int (x3_16 ||| (1 <<< ((nI i_16) &&& 31)))), (7, .int 1), (6, .int (fp i_16)), (5, .int (nI i_16)), (0, .ref mo), (1, .int p1), (2, .int 0)]) hx hb dX8_belowOf_84 hl (by decide) rfl (fun ls hl => ?_)
            refine lv_iinc (v := (nI (i_16 + 1))) (lv' := [(5, .int (nI (i_16 + 1))), (4, .int 1), (3, .int (x3_16 ||| (1 <<< ((nI i_16) &&& 31)))), (7, .int 1), (6, .int (fp i_16)), (0, .ref mo), (1, .int p1), (2, .int 0)]) hx hb dX8_belowOf_86 hl (k := 4) rfl (nI_1 _) (by decide) rfl (fun ls hl => ?_)
            refine lv_goto (tgt := 16) hx hb dX8_belowOf_89 (by decide) ?_
            exact ih_16 _ (by omega) _ _ _ ⟨(i_16 + 1), 1, (x3_16 ||| (1 <<< ((nI i_16) &&& 31))), by omega, (by first | exact (fun h => absurd h (by decide)) | exact (fun h => ⟨lt_s (hq_16 h).1 (by first | exact Or.inl c_41 | exact Or.inr ⟨c_51, c_58⟩), (hq_16 h).2⟩)), (by first | exact hu_16 | exact Nat.le_of_lt (Nat.lt_of_lt_of_le (mz_un_set c_41 (by omega) (by omega)) hu_16)), (by first | exact hv_16 | exact (fun _ => Nat.lt_of_lt_of_le (mz_un_set c_41 (by omega) (by omega)) hu_16)), rfl, hS, lv_sub hl [0, 1, 2, 5, 6, 7] rfl, rfl⟩
set_option maxHeartbeats 1000000 in
set_option maxRecDepth 100000 in
theorem mz_m_belowWithout (l : Launch) (dC : Nat → ClassId) (dI : Nat → Nat → Nat) (cI cJ cZ : ClassId) (mo : Nat) (m1 : Nat) (m2 : Nat) (m3 : Nat) (m6 : Nat) (m7 : Nat) (m8 : Nat) (m9 : Nat) (m10 : Nat) (m11 : Nat) (m12 : Nat) (m13 : Nat) (m14 : Nat) (m15 : Nat) (m16 : Nat) (n : Nat) (ka : Int64) (kb : Int64) (fp : Nat → Int32) (p1 : Int32) (p2 : Int32) (p3 : Int32) (Hq : Heap) (hn : n ≤ 8) : Met l yX8_belowWithout wsX8_belowWithout ({ frames := 1, cells := 0, slots := 0, locals := 23 }) (va_Pc [.ref mo, .int p1, .int p2, .int p3] (fun U => U.heap = Hq ∧ va_P (dC, dI) vwCl [(mo, .inr (8, [.int (nI n), .ref m1, .ref m2, .ref m3, .long ka, .long kb, .ref m6, .ref m7, .ref m8, .ref m9, .ref m10, .ref m11, .ref m12, .ref m13, .ref m14, .ref m15, .ref m16])), (m2, .inl (cI, 8, .inl fp))] Hq ∧ va_K (dC, dI) vwCl [(cI, FieldType.int), (cJ, FieldType.long), (cZ, FieldType.boolean)] U ∧ mz_N U)) (va_Qi (fun (r : Int32) (_ : Unit) => True) (fun _ t => t.heap = Hq) (fun _ : Nat => False)) 0 0 (fun _ : Nat => False) := by
  refine Met.ofW (cc := cX8_belowWithout) (maxL := 8) (ret := (some .int)) (by decide) rfl ?_
  intro p e s m args below meth c s₁ B hml hv
  obtain ⟨rfl, hH, hP, hK, hN⟩ := hv
  subst hH
  have hx := B.exec
  have hb := B.bytes
  have hr := B.returns
  have hts := atoms_spec (ws := wsX8_belowWithout) B.pre
  have hown : s.vm.findClass RX8 = some m.cls := findClass_of_methodNamed B.named
  have hlocks := B.notSynchronized
  have hS : va_S (fun _ : Nat => False) s.heap s.heap [] := va_S.rf
  have hiX8 : ∀ w ∈ u_ws RX8 TX8 17, w ∈ wsX8_belowWithout := by decide +kernel
  have hl := lv_entry ([.ref mo, .int p1, .int p2, .int p3]) (n := 8) (Nat.le_of_ble_eq_true rfl)
  rw [lg_entry_eq]
  generalize (lg_sl ([.ref mo, .int p1, .int p2, .int p3]) ++ List.replicate (8 - (lg_sl ([.ref mo, .int p1, .int p2, .int p3])).length) Slot.unset).toArray = ls at hl ⊢
  have hl : lv_has ls 8 [(0, .ref mo), (1, .int p1), (2, .int p2), (3, .int p3)] := hl
  refine lv_iconst (v := 0) hx hb dX8_belowWithout_0 (by decide +kernel) ?_
  refine lv_istore (lv' := [(4, .int 0), (0, .ref mo), (1, .int p1), (2, .int p2), (3, .int p3)]) hx hb dX8_belowWithout_1 hl (by decide) rfl (fun ls hl => ?_)
  refine lv_iconst (v := 1) hx hb dX8_belowWithout_3 (by decide +kernel) ?_
  refine lv_istore (lv' := [(5, .int 1), (4, .int 0), (0, .ref mo), (1, .int p1), (2, .int p2), (3, .int p3)]) hx hb dX8_belowWithout_4 hl (by decide) rfl (fun ls hl => ?_)
  refine mz_loopU (fun k H locs ls => ∃ (x5_6 : Int32), ∃ (x4_6 : Int32), H = s.heap ∧ va_S (fun _ : Nat => False) s.heap H locs ∧ lv_has ls 8 [(5, .int x5_6), (4, .int x4_6), (0, .ref mo), (1, .int p1), (2, .int p2), (3, .int p3)] ∧ k = 2 * mz_un x4_6 n + (if x5_6 = 0 then 0 else 1)) ?_ _ _ _ _ ⟨1, 0, rfl, hS, lv_sub hl [0, 1, 2, 3, 4, 5] rfl, rfl⟩
  intro k_6 H locs ls hI_6 ih_6
  obtain ⟨x5_6, x4_6, hH_6, hS, hl, hk_6⟩ := hI_6
  subst hH_6
  refine lv_iload hx hb dX8_belowWithout_6 (lv_at hl 0 rfl) ?_
  refine lv_if_eq (tgt := 88) hx hb dX8_belowWithout_8 (by decide) (fun c_8 => ?_) (fun c_8 => ?_)
  · skip
    refine lv_iload hx hb dX8_belowWithout_88 (lv_at hl 1 rfl) ?_
    refine W.widen (k := 0) (n := 0) (Nat.le_of_ble_eq_true rfl) (Nat.le_of_ble_eq_true rfl) ?_
    exact W.iret (v := x4_6) hx hb hr (fun t ht hW => ⟨⟨x4_6, (), rfl, trivial, ht⟩, hS.F ht⟩) hS.2.2 dX8_belowWithout_90
  · skip
    refine lv_iconst (v := 0) hx hb dX8_belowWithout_11 (by decide +kernel) ?_
    refine lv_istore (lv' := [(5, .int 0), (4, .int x4_6), (0, .ref mo), (1, .int p1), (2, .int p2), (3, .int p3)]) hx hb dX8_belowWithout_12 hl (by decide) rfl (fun ls hl => ?_)
    refine lv_iconst (v := 0) hx hb dX8_belowWithout_14 (by decide +kernel) ?_
    refine lv_istore (lv' := [(6, .int 0), (5, .int 0), (4, .int x4_6), (0, .ref mo), (1, .int p1), (2, .int p2), (3, .int p3)]) hx hb dX8_belowWithout_15 hl (by decide) rfl (fun ls hl => ?_)
    refine mz_loopU (fun k H locs ls => ∃ (i_17 : Nat), ∃ (x5_17 : Int32), ∃ (x4_17 : Int32), i_17 ≤ n ∧ (mz_un x4_17 n ≤ mz_un x4_6 n) ∧ (¬ x5_17 = 0 → mz_un x4_17 n < mz_un x4_6 n) ∧ H = s.heap ∧ va_S (fun _ : Nat => False) s.heap H locs ∧ lv_has ls 8 [(6, .int (nI i_17)), (5, .int x5_17), (4, .int x4_17), (0, .ref mo), (1, .int p1), (2, .int p2), (3, .int p3)] ∧ k = n - i_17) ?_ _ _ _ _ ⟨0, 0, x4_6, by omega, Nat.le_refl _, (fun h => absurd rfl h), rfl, hS, lv_sub hl [0, 1, 2, 3, 4, 5, 6] rfl, rfl⟩
    intro k_17 H locs ls hI_17 ih_17
    obtain ⟨i_17, x5_17, x4_17, hi_17, hu_17, hv_17, hH_17, hS, hl, hk_17⟩ := hI_17
    subst hH_17
    refine lv_iload hx hb dX8_belowWithout_17 (lv_at hl 0 rfl) ?_
    refine lv_aload_n hx hb dX8_belowWithout_19 rfl (lv_at hl 3 rfl) ?_
    refine va_get (D := (dC, dI)) (ci := 8) (v := .int (nI n)) (C := RX8) (T := TX8) (N := 17) hx hb hts hiX8 hown hK hP 0 rfl rfl 0 (by decide) (hts (.fieldLink RX8 58 "MadeItSoModel" "many" "I") (by decide +kernel)) (fun _ h9 => h9) rfl dX8_belowWithout_20 ?_
    refine lv_icmp_ge (tgt := 85) hx hb dX8_belowWithout_23 (by decide) (fun c_23 => ?_) (fun c_23 => ?_)
    · skip
      have d_23 : n ≤ i_17 := (nI_leI (a := n) (b := i_17) (by omega) (by omega)).mp c_23
      refine lv_goto (tgt := 6) hx hb dX8_belowWithout_85 (by decide) ?_
      exact ih_6 _ (mz_two hk_6 c_8 hu_17 hv_17) _ _ _ ⟨x5_17, x4_17, rfl, hS, lv_sub hl [1, 2, 3, 4, 5, 6] rfl, rfl⟩
    · skip
      have d_23 : ¬ n ≤ i_17 := fun h => c_23 ((nI_leI (a := n) (b := i_17) (by omega) (by omega)).mpr h)
      refine lv_aload_n hx hb dX8_belowWithout_26 rfl (lv_at hl 3 rfl) ?_
      refine lv_iload hx hb dX8_belowWithout_27 (lv_at hl 0 rfl) ?_
      refine lv_iload_n hx hb dX8_belowWithout_29 rfl (lv_at hl 5 rfl) ?_
      refine lv_iload_n hx hb dX8_belowWithout_30 rfl (lv_at hl 6 rfl) ?_
      have hPc := hP.sub (ws' := [(mo, .inr (8, [.int (nI n), .ref m1, .ref m2, .ref m3, .long ka, .long kb, .ref m6, .ref m7, .ref m8, .ref m9, .ref m10, .ref m11, .ref m12, .ref m13, .ref m14, .ref m15, .ref m16])), (m2, .inl (cI, 8, .inl fp))]) [0, 1] rfl
      refine va_calli (va_runV (As := [.int (nI i_17), .int p2, .int p3]) (rest := []) ⟨hx, hb, hml, hown, hts⟩ (mz_m_pw l dC dI cI cJ cZ mo m1 m2 m3 m6 m7 m8 m9 m10 m11 m12 m13 m14 m15 m16 n ka kb fp i_17 p2 p3 s.heap (by first | assumption | omega)) (cwV 3 hts gX8_belowWithout_X8_parentsWithout rfl rfl rfl (by decide +kernel) ⟨Nat.le_of_ble_eq_true rfl, Nat.le_of_ble_eq_true rfl⟩) ⟨fun a U g mk q => mz_blP q, va_recv hK hPc (ci := 8) (q0 := 0) rfl rfl, fun U hU hW => ⟨rfl, hU, hPc, va_K.moved hW.alike hK, mz_nw hW hN⟩⟩ rfl rfl hl.1 rfl (lv_room (Nat.le_of_ble_eq_true rfl)) dX8_belowWithout_31 ⟨Nat.le_of_ble_eq_true rfl, Nat.le_of_ble_eq_true rfl⟩) hS (fun q _ h => h.elim) (fun q h => h.elim) (fun r_31 u t H1 locs ht hvm hw_31 hB hz1 hk1 hS => ?_)
      have hE : s.heap = H1 := hB.symm.trans ht
      subst hE
      refine lv_istore (lv' := [(7, .int r_31), (6, .int (nI i_17)), (5, .int x5_17), (4, .int x4_17), (0, .ref mo), (1, .int p1), (2, .int p2), (3, .int p3)]) hx hb dX8_belowWithout_34 hl (by decide) rfl (fun ls hl => ?_)
      refine lv_iload hx hb dX8_belowWithout_36 (lv_at hl 3 rfl) ?_
      refine lv_iload hx hb dX8_belowWithout_38 (lv_at hl 1 rfl) ?_
      refine lv_ishr hx hb dX8_belowWithout_40 ?_
      refine lv_iconst (v := 1) hx hb dX8_belowWithout_41 (by decide +kernel) ?_
      refine lv_iand hx hb dX8_belowWithout_42 ?_
      refine lv_iconst (v := 1) hx hb dX8_belowWithout_43 (by decide +kernel) ?_
      refine lv_icmp_eq (tgt := 79) hx hb dX8_belowWithout_44 (by decide) (fun c_44 => ?_) (fun c_44 => ?_)
      · skip
        refine lv_iinc (v := (nI (i_17 + 1))) (lv' := [(6, .int (nI (i_17 + 1))), (7, .int r_31), (5, .int x5_17), (4, .int x4_17), (0, .ref mo), (1, .int p1), (2, .int p2), (3, .int p3)]) hx hb dX8_belowWithout_79 hl (k := 1) rfl (nI_1 _) (by decide) rfl (fun ls hl => ?_)
        refine lv_goto (tgt := 17) hx hb dX8_belowWithout_82 (by decide) ?_
        exact ih_17 _ (by omega) _ _ _ ⟨(i_17 + 1), x5_17, x4_17, by omega, (by first | exact hu_17 | exact Nat.le_of_lt (Nat.lt_of_lt_of_le (mz_un_set (mz_n1 (by omega) c_44) (by omega) (by omega)) hu_17)), (by first | exact hv_17 | exact (fun _ => Nat.lt_of_lt_of_le (mz_un_set (mz_n1 (by omega) c_44) (by omega) (by omega)) hu_17)), rfl, hS, lv_sub hl [0, 2, 3, 4, 5, 6, 7] rfl, rfl⟩
      · skip
        refine lv_iload hx hb dX8_belowWithout_47 (lv_at hl 0 rfl) ?_
        refine lv_iload_n hx hb dX8_belowWithout_49 rfl (lv_at hl 5 rfl) ?_
        refine lv_ishr hx hb dX8_belowWithout_50 ?_
        refine lv_iconst (v := 1) hx hb dX8_belowWithout_51 (by decide +kernel) ?_
        refine lv_iand hx hb dX8_belowWithout_52 ?_
        refine lv_if_ne (tgt := 67) hx hb dX8_belowWithout_53 (by decide) (fun c_53 => ?_) (fun c_53 => ?_)
        · skip
          refine lv_iload hx hb dX8_belowWithout_67 (lv_at hl 3 rfl) ?_
          refine lv_iconst (v := 1) hx hb dX8_belowWithout_69 (by decide +kernel) ?_
          refine lv_iload hx hb dX8_belowWithout_70 (lv_at hl 1 rfl) ?_
          refine lv_ishl hx hb dX8_belowWithout_72 ?_
          refine lv_ior hx hb dX8_belowWithout_73 ?_
          refine lv_istore (lv' := [(4, .int (x4_17 ||| (1 <<< ((nI i_17) &&& 31)))), (7, .int r_31), (6, .int (nI i_17)), (5, .int x5_17), (0, .ref mo), (1, .int p1), (2, .int p2), (3, .int p3)]) hx hb dX8_belowWithout_74 hl (by decide) rfl (fun ls hl => ?_)
          refine lv_iconst (v := 1) hx hb dX8_belowWithout_76 (by decide +kernel) ?_
          refine lv_istore (lv' := [(5, .int 1), (4, .int (x4_17 ||| (1 <<< ((nI i_17) &&& 31)))), (7, .int r_31), (6, .int (nI i_17)), (0, .ref mo), (1, .int p1), (2, .int p2), (3, .int p3)]) hx hb dX8_belowWithout_77 hl (by decide) rfl (fun ls hl => ?_)
          refine lv_iinc (v := (nI (i_17 + 1))) (lv' := [(6, .int (nI (i_17 + 1))), (5, .int 1), (4, .int (x4_17 ||| (1 <<< ((nI i_17) &&& 31)))), (7, .int r_31), (0, .ref mo), (1, .int p1), (2, .int p2), (3, .int p3)]) hx hb dX8_belowWithout_79 hl (k := 3) rfl (nI_1 _) (by decide) rfl (fun ls hl => ?_)
          refine lv_goto (tgt := 17) hx hb dX8_belowWithout_82 (by decide) ?_
          exact ih_17 _ (by omega) _ _ _ ⟨(i_17 + 1), 1, (x4_17 ||| (1 <<< ((nI i_17) &&& 31))), by omega, (by first | exact hu_17 | exact Nat.le_of_lt (Nat.lt_of_lt_of_le (mz_un_set (mz_n1 (by omega) c_44) (by omega) (by omega)) hu_17)), (by first | exact hv_17 | exact (fun _ => Nat.lt_of_lt_of_le (mz_un_set (mz_n1 (by omega) c_44) (by omega) (by omega)) hu_17)), rfl, hS, lv_sub hl [0, 1, 2, 4, 5, 6, 7] rfl, rfl⟩
        · skip
          refine lv_iload hx hb dX8_belowWithout_56 (lv_at hl 0 rfl) ?_
          refine lv_iload hx hb dX8_belowWithout_58 (lv_at hl 3 rfl) ?_
          refine lv_iand hx hb dX8_belowWithout_60 ?_
          refine lv_if_ne (tgt := 67) hx hb dX8_belowWithout_61 (by decide) (fun c_61 => ?_) (fun c_61 => ?_)
          · skip
            refine lv_iload hx hb dX8_belowWithout_67 (lv_at hl 3 rfl) ?_
            refine lv_iconst (v := 1) hx hb dX8_belowWithout_69 (by decide +kernel) ?_
            refine lv_iload hx hb dX8_belowWithout_70 (lv_at hl 1 rfl) ?_
            refine lv_ishl hx hb dX8_belowWithout_72 ?_
            refine lv_ior hx hb dX8_belowWithout_73 ?_
            refine lv_istore (lv' := [(4, .int (x4_17 ||| (1 <<< ((nI i_17) &&& 31)))), (7, .int r_31), (6, .int (nI i_17)), (5, .int x5_17), (0, .ref mo), (1, .int p1), (2, .int p2), (3, .int p3)]) hx hb dX8_belowWithout_74 hl (by decide) rfl (fun ls hl => ?_)
            refine lv_iconst (v := 1) hx hb dX8_belowWithout_76 (by decide +kernel) ?_
            refine lv_istore (lv' := [(5, .int 1), (4, .int (x4_17 ||| (1 <<< ((nI i_17) &&& 31)))), (7, .int r_31), (6, .int (nI i_17)), (0, .ref mo), (1, .int p1), (2, .int p2), (3, .int p3)]) hx hb dX8_belowWithout_77 hl (by decide) rfl (fun ls hl => ?_)
            refine lv_iinc (v := (nI (i_17 + 1))) (lv' := [(6, .int (nI (i_17 + 1))), (5, .int 1), (4, .int (x4_17 ||| (1 <<< ((nI i_17) &&& 31)))), (7, .int r_31), (0, .ref mo), (1, .int p1), (2, .int p2), (3, .int p3)]) hx hb dX8_belowWithout_79 hl (k := 3) rfl (nI_1 _) (by decide) rfl (fun ls hl => ?_)
            refine lv_goto (tgt := 17) hx hb dX8_belowWithout_82 (by decide) ?_
            exact ih_17 _ (by omega) _ _ _ ⟨(i_17 + 1), 1, (x4_17 ||| (1 <<< ((nI i_17) &&& 31))), by omega, (by first | exact hu_17 | exact Nat.le_of_lt (Nat.lt_of_lt_of_le (mz_un_set (mz_n1 (by omega) c_44) (by omega) (by omega)) hu_17)), (by first | exact hv_17 | exact (fun _ => Nat.lt_of_lt_of_le (mz_un_set (mz_n1 (by omega) c_44) (by omega) (by omega)) hu_17)), rfl, hS, lv_sub hl [0, 1, 2, 4, 5, 6, 7] rfl, rfl⟩
          · skip
            refine lv_goto (tgt := 79) hx hb dX8_belowWithout_64 (by decide) ?_
            refine lv_iinc (v := (nI (i_17 + 1))) (lv' := [(6, .int (nI (i_17 + 1))), (7, .int r_31), (5, .int x5_17), (4, .int x4_17), (0, .ref mo), (1, .int p1), (2, .int p2), (3, .int p3)]) hx hb dX8_belowWithout_79 hl (k := 1) rfl (nI_1 _) (by decide) rfl (fun ls hl => ?_)
            refine lv_goto (tgt := 17) hx hb dX8_belowWithout_82 (by decide) ?_
            exact ih_17 _ (by omega) _ _ _ ⟨(i_17 + 1), x5_17, x4_17, by omega, (by first | exact hu_17 | exact Nat.le_of_lt (Nat.lt_of_lt_of_le (mz_un_set (mz_n1 (by omega) c_44) (by omega) (by omega)) hu_17)), (by first | exact hv_17 | exact (fun _ => Nat.lt_of_lt_of_le (mz_un_set (mz_n1 (by omega) c_44) (by omega) (by omega)) hu_17)), rfl, hS, lv_sub hl [0, 2, 3, 4, 5, 6, 7] rfl, rfl⟩
set_option maxHeartbeats 1000000 in
set_option maxRecDepth 100000 in
theorem mz_m_bits_ns (l : Launch) (dC : Nat → ClassId) (dI : Nat → Nat → Nat) (cI cJ cZ : ClassId) (p0 : Int32) (t : Nat) (Hq : Heap) (ht : t < 8) (hbt : p0.toBitVec.getLsbD t = false) : Met l yX8_bits wsX8_bits ({ frames := 0, cells := 0, slots := 0, locals := 0 }) (va_Pc [.int p0] (fun U => U.heap = Hq ∧ va_P (dC, dI) vwCl [] Hq ∧ va_K (dC, dI) vwCl [(cI, FieldType.int), (cJ, FieldType.long), (cZ, FieldType.boolean)] U ∧ mz_N U)) (va_Qi (fun (r : Int32) (_ : Unit) => ∃ c : Nat, c ≤ 7 ∧ r = nI c) (fun _ t => t.heap = Hq) (fun _ : Nat => False)) 0 0 (fun _ : Nat => False) := by
  refine Met.ofW (cc := cX8_bits) (maxL := 3) (ret := (some .int)) (by decide) rfl ?_
  intro p e s m args below meth c s₁ B hml hv
  obtain ⟨rfl, hH, hP, hK, hN⟩ := hv
  subst hH
  have hx := B.exec
  have hb := B.bytes
  have hr := B.returns
  have hts := atoms_spec (ws := wsX8_bits) B.pre
  have hown : s.vm.findClass RX8 = some m.cls := findClass_of_methodNamed B.named
  have hlocks := B.notSynchronized
  have hS : va_S (fun _ : Nat => False) s.heap s.heap [] := va_S.rf
  have hl := lv_entry ([.int p0]) (n := 3) (Nat.le_of_ble_eq_true rfl)
  rw [lg_entry_eq]
  generalize (lg_sl ([.int p0]) ++ List.replicate (3 - (lg_sl ([.int p0])).length) Slot.unset).toArray = ls at hl ⊢
  have hl : lv_has ls 3 [(0, .int p0)] := hl
  refine lv_iconst (v := 0) hx hb dX8_bits_0 (by decide +kernel) ?_
  refine lv_istore_n (lv' := [(1, .int 0), (0, .int p0)]) hx hb dX8_bits_1 rfl hl (by decide) rfl (fun ls hl => ?_)
  refine lv_iconst (v := 0) hx hb dX8_bits_2 (by decide +kernel) ?_
  refine lv_istore_n (lv' := [(2, .int 0), (1, .int 0), (0, .int p0)]) hx hb dX8_bits_3 rfl hl (by decide) rfl (fun ls hl => ?_)
  refine mz_loopU (fun k H locs ls => ∃ (i_4 : Nat), ∃ (x1_4 : Int32), i_4 ≤ 8 ∧ (∃ c : Nat, x1_4 = nI c ∧ c ≤ i_4 ∧ (t < i_4 → c + 1 ≤ i_4)) ∧ H = s.heap ∧ va_S (fun _ : Nat => False) s.heap H locs ∧ lv_has ls 3 [(2, .int (nI i_4)), (1, .int x1_4), (0, .int p0)] ∧ k = 8 - i_4) ?_ _ _ _ _ ⟨0, 0, by omega, ⟨0, rfl, by omega, by omega⟩, rfl, hS, lv_sub hl [0, 1, 2] rfl, rfl⟩
  intro k_4 H locs ls hI_4 ih_4
  obtain ⟨i_4, x1_4, hi_4, hr_4, hH_4, hS, hl, hk_4⟩ := hI_4
  subst hH_4
  obtain ⟨c_b, eb_, hb1_, hb2_⟩ := hr_4
  subst eb_
  refine lv_iload_n hx hb dX8_bits_4 rfl (lv_at hl 0 rfl) ?_
  refine lv_bipush (v := 8) hx hb dX8_bits_5 (by decide +kernel) ?_
  refine lv_icmp_ge (tgt := 24) hx hb dX8_bits_7 (by decide) (fun c_7 => ?_) (fun c_7 => ?_)
  · skip
    have d_7 : 8 ≤ i_4 := (nI_leI (a := 8) (b := i_4) (by omega) (by omega)).mp c_7
    refine lv_iload_n hx hb dX8_bits_24 rfl (lv_at hl 1 rfl) ?_
    refine W.widen (k := 0) (n := 0) (Nat.le_of_ble_eq_true rfl) (Nat.le_of_ble_eq_true rfl) ?_
    exact W.iret (v := (nI c_b)) hx hb hr (fun t ht hW => ⟨⟨(nI c_b), (), rfl, ⟨c_b, by omega, rfl⟩, ht⟩, hS.F ht⟩) hS.2.2 dX8_bits_25
  · skip
    have d_7 : ¬ 8 ≤ i_4 := fun h => c_7 ((nI_leI (a := 8) (b := i_4) (by omega) (by omega)).mpr h)
    refine lv_iload_n hx hb dX8_bits_10 rfl (lv_at hl 1 rfl) ?_
    refine lv_iload_n hx hb dX8_bits_11 rfl (lv_at hl 2 rfl) ?_
    refine lv_iload_n hx hb dX8_bits_12 rfl (lv_at hl 0 rfl) ?_
    refine lv_ishr hx hb dX8_bits_13 ?_
    refine lv_iconst (v := 1) hx hb dX8_bits_14 (by decide +kernel) ?_
    refine lv_iand hx hb dX8_bits_15 ?_
    refine lv_iadd hx hb dX8_bits_16 ?_
    refine lv_istore_n (lv' := [(1, .int ((nI c_b) + ((p0 >>> ((nI i_4) &&& 31)) &&& 1))), (2, .int (nI i_4)), (0, .int p0)]) hx hb dX8_bits_17 rfl hl (by decide) rfl (fun ls hl => ?_)
    refine lv_iinc (v := (nI (i_4 + 1))) (lv' := [(2, .int (nI (i_4 + 1))), (1, .int ((nI c_b) + ((p0 >>> ((nI i_4) &&& 31)) &&& 1))), (0, .int p0)]) hx hb dX8_bits_18 hl (k := 1) rfl (nI_1 _) (by decide) rfl (fun ls hl => ?_)
    refine lv_goto (tgt := 4) hx hb dX8_bits_21 (by decide) ?_
    exact ih_4 _ (by omega) _ _ _ ⟨(i_4 + 1), ((nI c_b) + ((p0 >>> ((nI i_4) &&& 31)) &&& 1)), by omega, (by obtain ⟨d, ed, h1, h2⟩ := mz_bt (x := p0) (c := c_b) (j := i_4) (by omega); have h3 : t = i_4 → d = c_b := fun e => h2 (by rw [← e]; exact hbt); exact ⟨d, ed, by omega, by omega⟩), rfl, hS, lv_sub hl [0, 1, 2] rfl, rfl⟩
set_option maxHeartbeats 1000000 in
set_option maxRecDepth 100000 in
theorem mz_m_bits (l : Launch) (dC : Nat → ClassId) (dI : Nat → Nat → Nat) (cI cJ cZ : ClassId) (p0 : Int32) (Hq : Heap)  : Met l yX8_bits wsX8_bits ({ frames := 0, cells := 0, slots := 0, locals := 0 }) (va_Pc [.int p0] (fun U => U.heap = Hq ∧ va_P (dC, dI) vwCl [] Hq ∧ va_K (dC, dI) vwCl [(cI, FieldType.int), (cJ, FieldType.long), (cZ, FieldType.boolean)] U ∧ mz_N U)) (va_Qi (fun (r : Int32) (_ : Unit) => True) (fun _ t => t.heap = Hq) (fun _ : Nat => False)) 0 0 (fun _ : Nat => False) := by
  refine Met.ofW (cc := cX8_bits) (maxL := 3) (ret := (some .int)) (by decide) rfl ?_
  intro p e s m args below meth c s₁ B hml hv
  obtain ⟨rfl, hH, hP, hK, hN⟩ := hv
  subst hH
  have hx := B.exec
  have hb := B.bytes
  have hr := B.returns
  have hts := atoms_spec (ws := wsX8_bits) B.pre
  have hown : s.vm.findClass RX8 = some m.cls := findClass_of_methodNamed B.named
  have hlocks := B.notSynchronized
  have hS : va_S (fun _ : Nat => False) s.heap s.heap [] := va_S.rf
  have hl := lv_entry ([.int p0]) (n := 3) (Nat.le_of_ble_eq_true rfl)
  rw [lg_entry_eq]
  generalize (lg_sl ([.int p0]) ++ List.replicate (3 - (lg_sl ([.int p0])).length) Slot.unset).toArray = ls at hl ⊢
  have hl : lv_has ls 3 [(0, .int p0)] := hl
  refine lv_iconst (v := 0) hx hb dX8_bits_0 (by decide +kernel) ?_
  refine lv_istore_n (lv' := [(1, .int 0), (0, .int p0)]) hx hb dX8_bits_1 rfl hl (by decide) rfl (fun ls hl => ?_)
  refine lv_iconst (v := 0) hx hb dX8_bits_2 (by decide +kernel) ?_
  refine lv_istore_n (lv' := [(2, .int 0), (1, .int 0), (0, .int p0)]) hx hb dX8_bits_3 rfl hl (by decide) rfl (fun ls hl => ?_)
  refine mz_loopU (fun k H locs ls => ∃ (i_4 : Nat), ∃ (x1_4 : Int32), i_4 ≤ 8 ∧ H = s.heap ∧ va_S (fun _ : Nat => False) s.heap H locs ∧ lv_has ls 3 [(2, .int (nI i_4)), (1, .int x1_4), (0, .int p0)] ∧ k = 8 - i_4) ?_ _ _ _ _ ⟨0, 0, by omega, rfl, hS, lv_sub hl [0, 1, 2] rfl, rfl⟩
  intro k_4 H locs ls hI_4 ih_4
  obtain ⟨i_4, x1_4, hi_4, hH_4, hS, hl, hk_4⟩ := hI_4
  subst hH_4
  refine lv_iload_n hx hb dX8_bits_4 rfl (lv_at hl 0 rfl) ?_
  refine lv_bipush (v := 8) hx hb dX8_bits_5 (by decide +kernel) ?_
  refine lv_icmp_ge (tgt := 24) hx hb dX8_bits_7 (by decide) (fun c_7 => ?_) (fun c_7 => ?_)
  · skip
    have d_7 : 8 ≤ i_4 := (nI_leI (a := 8) (b := i_4) (by omega) (by omega)).mp c_7
    refine lv_iload_n hx hb dX8_bits_24 rfl (lv_at hl 1 rfl) ?_
    refine W.widen (k := 0) (n := 0) (Nat.le_of_ble_eq_true rfl) (Nat.le_of_ble_eq_true rfl) ?_
    exact W.iret (v := x1_4) hx hb hr (fun t ht hW => ⟨⟨x1_4, (), rfl, trivial, ht⟩, hS.F ht⟩) hS.2.2 dX8_bits_25
  · skip
    have d_7 : ¬ 8 ≤ i_4 := fun h => c_7 ((nI_leI (a := 8) (b := i_4) (by omega) (by omega)).mpr h)
    refine lv_iload_n hx hb dX8_bits_10 rfl (lv_at hl 1 rfl) ?_
    refine lv_iload_n hx hb dX8_bits_11 rfl (lv_at hl 2 rfl) ?_
    refine lv_iload_n hx hb dX8_bits_12 rfl (lv_at hl 0 rfl) ?_
    refine lv_ishr hx hb dX8_bits_13 ?_
    refine lv_topi (fun v_13 ev_13 => ?_)
    refine lv_iconst (v := 1) hx hb dX8_bits_14 (by decide +kernel) ?_
    refine lv_iand hx hb dX8_bits_15 ?_
    refine lv_topi (fun v_15 ev_15 => ?_)
    refine lv_iadd hx hb dX8_bits_16 ?_
    refine lv_topi (fun v_16 ev_16 => ?_)
    refine lv_istore_n (lv' := [(1, .int v_16), (2, .int (nI i_4)), (0, .int p0)]) hx hb dX8_bits_17 rfl hl (by decide) rfl (fun ls hl => ?_)
    refine lv_iinc (v := (nI (i_4 + 1))) (lv' := [(2, .int (nI (i_4 + 1))), (1, .int v_16), (0, .int p0)]) hx hb dX8_bits_18 hl (k := 1) rfl (nI_1 _) (by decide) rfl (fun ls hl => ?_)
    refine lv_goto (tgt := 4) hx hb dX8_bits_21 (by decide) ?_
    exact ih_4 _ (by omega) _ _ _ ⟨(i_4 + 1), v_16, by omega, rfl, hS, lv_sub hl [0, 1, 2] rfl, rfl⟩
set_option maxHeartbeats 1000000 in
set_option maxRecDepth 100000 in
theorem mz_m_isRow (l : Launch) (dC : Nat → ClassId) (dI : Nat → Nat → Nat) (cI cJ cZ : ClassId) (mo : Nat) (m1 : Nat) (m2 : Nat) (m3 : Nat) (m6 : Nat) (m7 : Nat) (m8 : Nat) (m9 : Nat) (m10 : Nat) (m11 : Nat) (m12 : Nat) (m13 : Nat) (m14 : Nat) (m15 : Nat) (m16 : Nat) (n : Nat) (ka : Int64) (kb : Int64) (fp : Nat → Int32) (p0 : Int32) (p1 : Int32) (Hq : Heap) (hn : n ≤ 8) (ha : mz_acy n fp) : Met l yX8_isRow wsX8_isRow ({ frames := 1, cells := 0, slots := 0, locals := 22 }) (va_Pc [.ref mo, .int p0, .int p1] (fun U => U.heap = Hq ∧ va_P (dC, dI) vwCl [(mo, .inr (8, [.int (nI n), .ref m1, .ref m2, .ref m3, .long ka, .long kb, .ref m6, .ref m7, .ref m8, .ref m9, .ref m10, .ref m11, .ref m12, .ref m13, .ref m14, .ref m15, .ref m16])), (m2, .inl (cI, 8, .inl fp))] Hq ∧ va_K (dC, dI) vwCl [(cI, FieldType.int), (cJ, FieldType.long), (cZ, FieldType.boolean)] U ∧ mz_N U)) (va_Qi (fun (r : Int32) (_ : Unit) => (r = 1 ∧ ∃ i j : Nat, i < n ∧ j < 128 ∧ p0 = nI i ∧ p1 = nI j) ∨ r = 0) (fun _ t => t.heap = Hq) (fun _ : Nat => False)) 0 0 (fun _ : Nat => False) := by
  refine Met.ofW (cc := cX8_isRow) (maxL := 3) (ret := (some .boolean)) (by decide) rfl ?_
  intro p e s m args below meth c s₁ B hml hv
  obtain ⟨rfl, hH, hP, hK, hN⟩ := hv
  subst hH
  have hx := B.exec
  have hb := B.bytes
  have hr := B.returns
  have hts := atoms_spec (ws := wsX8_isRow) B.pre
  have hown : s.vm.findClass RX8 = some m.cls := findClass_of_methodNamed B.named
  have hlocks := B.notSynchronized
  have hS : va_S (fun _ : Nat => False) s.heap s.heap [] := va_S.rf
  have hiX8 : ∀ w ∈ u_ws RX8 TX8 17, w ∈ wsX8_isRow := by decide +kernel
  have hl := lv_entry ([.ref mo, .int p0, .int p1]) (n := 3) (Nat.le_of_ble_eq_true rfl)
  rw [lg_entry_eq]
  generalize (lg_sl ([.ref mo, .int p0, .int p1]) ++ List.replicate (3 - (lg_sl ([.ref mo, .int p0, .int p1])).length) Slot.unset).toArray = ls at hl ⊢
  have hl : lv_has ls 3 [(0, .ref mo), (1, .int p0), (2, .int p1)] := hl
  refine lv_aload_n hx hb dX8_isRow_0 rfl (lv_at hl 0 rfl) ?_
  refine lv_iload_n hx hb dX8_isRow_1 rfl (lv_at hl 1 rfl) ?_
  have hPc := hP.sub (ws' := [(mo, .inr (8, [.int (nI n), .ref m1, .ref m2, .ref m3, .long ka, .long kb, .ref m6, .ref m7, .ref m8, .ref m9, .ref m10, .ref m11, .ref m12, .ref m13, .ref m14, .ref m15, .ref m16]))]) [0] rfl
  refine va_calli (va_runV (As := [.int p0]) (rest := []) ⟨hx, hb, hml, hown, hts⟩ (mz_m_isThing l dC dI cI cJ cZ mo m1 m2 m3 m6 m7 m8 m9 m10 m11 m12 m13 m14 m15 m16 n ka kb p0 s.heap (by first | assumption | omega)) (cwV 1 hts gX8_isRow_X8_isThing rfl rfl rfl (by decide +kernel) ⟨Nat.le_of_ble_eq_true rfl, Nat.le_of_ble_eq_true rfl⟩) ⟨fun a U g mk q => mz_blP q, va_recv hK hPc (ci := 8) (q0 := 0) rfl rfl, fun U hU hW => ⟨rfl, hU, hPc, va_K.moved hW.alike hK, mz_nw hW hN⟩⟩ rfl rfl hl.1 rfl (lv_room (Nat.le_of_ble_eq_true rfl)) dX8_isRow_2 ⟨Nat.le_of_ble_eq_true rfl, Nat.le_of_ble_eq_true rfl⟩) hS (fun q _ h => h.elim) (fun q h => h.elim) (fun r_2 u t H1 locs ht hvm hw_2 hB hz1 hk1 hS => ?_)
  have hE : s.heap = H1 := hB.symm.trans ht
  subst hE
  rcases (show (r_2 = 1 ∧ ∃ j : Nat, j < n ∧ p0 = nI j) ∨ r_2 = 0 from hw_2) with ⟨rfl, j_2, hj_2, he_2⟩ | rfl
  · skip
    subst he_2
    refine lv_if_eq (tgt := 31) hx hb dX8_isRow_5 (by decide) (fun c_5 => absurd c_5 (by decide +kernel)) (fun _ => ?_)
    refine lv_iload_n hx hb dX8_isRow_8 rfl (lv_at hl 2 rfl) ?_
    refine lv_if_lt (tgt := 31) hx hb dX8_isRow_9 (by decide) (fun c_9 => ?_) (fun c_9 => ?_)
    · skip
      refine lv_iconst (v := 0) hx hb dX8_isRow_31 (by decide +kernel) ?_
      refine W.widen (k := 0) (n := 0) (Nat.le_of_ble_eq_true rfl) (Nat.le_of_ble_eq_true rfl) ?_
      exact W.zret (v := 0) hx hb hr (mz_nz (by decide +kernel)) (fun t ht hW => ⟨⟨0, (), rfl, Or.inr rfl, ht⟩, hS.F ht⟩) hS.2.2 dX8_isRow_32
    · skip
      refine lv_iload_n hx hb dX8_isRow_12 rfl (lv_at hl 2 rfl) ?_
      refine lv_iconst (v := 1) hx hb dX8_isRow_13 (by decide +kernel) ?_
      refine lv_aload_n hx hb dX8_isRow_14 rfl (lv_at hl 0 rfl) ?_
      refine va_get (D := (dC, dI)) (ci := 8) (v := .ref m2) (C := RX8) (T := TX8) (N := 17) hx hb hts hiX8 hown hK hP 0 rfl rfl 2 (by decide) (hts (.fieldLink RX8 13 "MadeItSoModel" "parents" "[I") (by decide +kernel)) (fun _ h9 => h9) rfl dX8_isRow_15 ?_
      refine lv_iload_n hx hb dX8_isRow_18 rfl (lv_at hl 1 rfl) ?_
      refine va_iald hx hb hK hP 1 0 rfl rfl (vp_in_nI (by omega) (by omega)) dX8_isRow_19 ?_
      refine mz_ti (y := (fp j_2)) (by rw [mz_cl (by omega)]) ?_
      have hPc := hP.sub (ws' := []) [] rfl
      refine va_calli (va_runS (As := [.int (fp j_2)]) (rest := [.int 1, .int p1]) ⟨hx, hb, hml, hown, hts⟩ (mz_m_bits_ns l dC dI cI cJ cZ (fp j_2) j_2 s.heap (by first | assumption | omega) (mz_acy_self (by omega) hj_2 ha)) (va_cwS 1 hts gX8_isRow_X8_bits rfl rfl rfl (by decide +kernel) ⟨Nat.le_of_ble_eq_true rfl, Nat.le_of_ble_eq_true rfl⟩) ⟨fun a U g mk q => mz_blP q, fun U hU hW => ⟨rfl, hU, hPc, va_K.moved hW.alike hK, mz_nw hW hN⟩⟩ rfl rfl hl.1 rfl (lv_room (Nat.le_of_ble_eq_true rfl)) dX8_isRow_20 ⟨Nat.le_of_ble_eq_true rfl, Nat.le_of_ble_eq_true rfl⟩) hS (fun q _ h => h.elim) (fun q h => h.elim) (fun r_20 u t H1 locs ht hvm hw_20 hB hz1 hk1 hS => ?_)
      have hE : s.heap = H1 := hB.symm.trans ht
      subst hE
      obtain ⟨c_b, hcb_, rfl⟩ := hw_20
      have hp7_ := mz_p7 hcb_
      refine lv_ishl hx hb dX8_isRow_23 ?_
      refine lv_icmp_ge (tgt := 31) hx hb dX8_isRow_24 (by decide) (fun c_24 => ?_) (fun c_24 => ?_)
      · skip
        refine lv_iconst (v := 0) hx hb dX8_isRow_31 (by decide +kernel) ?_
        refine W.widen (k := 0) (n := 0) (Nat.le_of_ble_eq_true rfl) (Nat.le_of_ble_eq_true rfl) ?_
        exact W.zret (v := 0) hx hb hr (mz_nz (by decide +kernel)) (fun t ht hW => ⟨⟨0, (), rfl, Or.inr rfl, ht⟩, hS.F ht⟩) hS.2.2 dX8_isRow_32
      · skip
        refine lv_iconst (v := 1) hx hb dX8_isRow_27 (by decide +kernel) ?_
        refine lv_goto (tgt := 32) hx hb dX8_isRow_28 (by decide) ?_
        refine W.widen (k := 0) (n := 0) (Nat.le_of_ble_eq_true rfl) (Nat.le_of_ble_eq_true rfl) ?_
        exact W.zret (v := 1) hx hb hr (mz_nz (by decide +kernel)) (fun t ht hW => ⟨⟨1, (), rfl, (by obtain ⟨q, hq, eq⟩ := mz_ix (n := 2 ^ c_b) c_9 (fun h => c_24 (by rw [mz_sh1 (by omega)]; exact h)) (by omega); exact Or.inl ⟨rfl, j_2, q, hj_2, by omega, rfl, eq⟩), ht⟩, hS.F ht⟩) hS.2.2 dX8_isRow_32
  · skip
    refine lv_if_eq (tgt := 31) hx hb dX8_isRow_5 (by decide) (fun _ => ?_) (fun c_5 => absurd (by decide +kernel) c_5)
    refine lv_iconst (v := 0) hx hb dX8_isRow_31 (by decide +kernel) ?_
    refine W.widen (k := 0) (n := 0) (Nat.le_of_ble_eq_true rfl) (Nat.le_of_ble_eq_true rfl) ?_
    exact W.zret (v := 0) hx hb hr (mz_nz (by decide +kernel)) (fun t ht hW => ⟨⟨0, (), rfl, Or.inr rfl, ht⟩, hS.F ht⟩) hS.2.2 dX8_isRow_32
set_option maxHeartbeats 1000000 in
set_option maxRecDepth 100000 in
theorem mz_m_partsOf (l : Launch) (dC : Nat → ClassId) (dI : Nat → Nat → Nat) (cI cJ cZ : ClassId) (mo : Nat) (m1 : Nat) (m2 : Nat) (m3 : Nat) (m6 : Nat) (m7 : Nat) (m8 : Nat) (m9 : Nat) (m10 : Nat) (m11 : Nat) (m12 : Nat) (m13 : Nat) (m14 : Nat) (m15 : Nat) (m16 : Nat) (n : Nat) (ka : Int64) (kb : Int64) (fp : Nat → Int32) (fb : Nat → Int32) (j : Nat) (p1 : Int32) (Hq : Heap) (hn : n ≤ 8) (hj : j < n) (ha : mz_acy n fp) : Met l yX8_partsOf wsX8_partsOf ({ frames := 0, cells := 0, slots := 0, locals := 0 }) (va_Pc [.ref mo, .int (nI j), .int p1] (fun U => U.heap = Hq ∧ va_P (dC, dI) vwCl [(mo, .inr (8, [.int (nI n), .ref m1, .ref m2, .ref m3, .long ka, .long kb, .ref m6, .ref m7, .ref m8, .ref m9, .ref m10, .ref m11, .ref m12, .ref m13, .ref m14, .ref m15, .ref m16])), (m2, .inl (cI, 8, .inl fp)), (m3, .inl (cI, 1024, .inl fb))] Hq ∧ va_K (dC, dI) vwCl [(cI, FieldType.int), (cJ, FieldType.long), (cZ, FieldType.boolean)] U ∧ mz_N U)) (va_Qi (fun (r : Int32) (_ : Unit) => True) (fun _ t => t.heap = Hq) (fun _ : Nat => False)) 0 0 (fun _ : Nat => False) := by
  refine Met.ofW (cc := cX8_partsOf) (maxL := 6) (ret := (some .int)) (by decide) rfl ?_
  intro p e s m args below meth c s₁ B hml hv
  obtain ⟨rfl, hH, hP, hK, hN⟩ := hv
  subst hH
  have hx := B.exec
  have hb := B.bytes
  have hr := B.returns
  have hts := atoms_spec (ws := wsX8_partsOf) B.pre
  have hown : s.vm.findClass RX8 = some m.cls := findClass_of_methodNamed B.named
  have hlocks := B.notSynchronized
  have hS : va_S (fun _ : Nat => False) s.heap s.heap [] := va_S.rf
  have hiX8 : ∀ w ∈ u_ws RX8 TX8 17, w ∈ wsX8_partsOf := by decide +kernel
  have hl := lv_entry ([.ref mo, .int (nI j), .int p1]) (n := 6) (Nat.le_of_ble_eq_true rfl)
  rw [lg_entry_eq]
  generalize (lg_sl ([.ref mo, .int (nI j), .int p1]) ++ List.replicate (6 - (lg_sl ([.ref mo, .int (nI j), .int p1])).length) Slot.unset).toArray = ls at hl ⊢
  have hl : lv_has ls 6 [(0, .ref mo), (1, .int (nI j)), (2, .int p1)] := hl
  refine lv_iconst (v := 0) hx hb dX8_partsOf_0 (by decide +kernel) ?_
  refine lv_istore_n (lv' := [(3, .int 0), (0, .ref mo), (1, .int (nI j)), (2, .int p1)]) hx hb dX8_partsOf_1 rfl hl (by decide) rfl (fun ls hl => ?_)
  refine lv_iconst (v := 0) hx hb dX8_partsOf_2 (by decide +kernel) ?_
  refine lv_istore (lv' := [(4, .int 0), (3, .int 0), (0, .ref mo), (1, .int (nI j)), (2, .int p1)]) hx hb dX8_partsOf_3 hl (by decide) rfl (fun ls hl => ?_)
  refine lv_iconst (v := 0) hx hb dX8_partsOf_5 (by decide +kernel) ?_
  refine lv_istore (lv' := [(5, .int 0), (4, .int 0), (3, .int 0), (0, .ref mo), (1, .int (nI j)), (2, .int p1)]) hx hb dX8_partsOf_6 hl (by decide) rfl (fun ls hl => ?_)
  refine mz_loopU (fun k H locs ls => ∃ (i_8 : Nat), ∃ (x4_8 : Int32), ∃ (x3_8 : Int32), i_8 ≤ n ∧ (∃ c q : Nat, x4_8 = nI c ∧ x3_8 = nI q ∧ q < 2 ^ c ∧ c ≤ i_8 ∧ (j < i_8 → c + 1 ≤ i_8)) ∧ H = s.heap ∧ va_S (fun _ : Nat => False) s.heap H locs ∧ lv_has ls 6 [(5, .int (nI i_8)), (4, .int x4_8), (3, .int x3_8), (0, .ref mo), (1, .int (nI j)), (2, .int p1)] ∧ k = n - i_8) ?_ _ _ _ _ ⟨0, 0, 0, by omega, ⟨0, 0, rfl, rfl, by decide, by omega, by omega⟩, rfl, hS, lv_sub hl [0, 1, 2, 3, 4, 5] rfl, rfl⟩
  intro k_8 H locs ls hI_8 ih_8
  obtain ⟨i_8, x4_8, x3_8, hi_8, hr_8, hH_8, hS, hl, hk_8⟩ := hI_8
  subst hH_8
  obtain ⟨c_b, q_b, e4_, e3_, hq_, hc1_, hc2_⟩ := hr_8
  subst e4_
  subst e3_
  refine lv_iload hx hb dX8_partsOf_8 (lv_at hl 0 rfl) ?_
  refine lv_aload_n hx hb dX8_partsOf_10 rfl (lv_at hl 3 rfl) ?_
  refine va_get (D := (dC, dI)) (ci := 8) (v := .int (nI n)) (C := RX8) (T := TX8) (N := 17) hx hb hts hiX8 hown hK hP 0 rfl rfl 0 (by decide) (hts (.fieldLink RX8 58 "MadeItSoModel" "many" "I") (by decide +kernel)) (fun _ h9 => h9) rfl dX8_partsOf_11 ?_
  refine lv_icmp_ge (tgt := 55) hx hb dX8_partsOf_14 (by decide) (fun c_14 => ?_) (fun c_14 => ?_)
  · skip
    have d_14 : n ≤ i_8 := (nI_leI (a := n) (b := i_8) (by omega) (by omega)).mp c_14
    have hp7_ : q_b < 128 := Nat.lt_of_lt_of_le hq_ (mz_p7 (by omega))
    refine lv_aload_n hx hb dX8_partsOf_55 rfl (lv_at hl 3 rfl) ?_
    refine va_get (D := (dC, dI)) (ci := 8) (v := .ref m3) (C := RX8) (T := TX8) (N := 17) hx hb hts hiX8 hown hK hP 0 rfl rfl 3 (by decide) (hts (.fieldLink RX8 17 "MadeItSoModel" "books" "[I") (by decide +kernel)) (fun _ h9 => h9) rfl dX8_partsOf_56 ?_
    refine lv_sipush (v := 128) hx hb dX8_partsOf_59 (by decide +kernel) ?_
    refine lv_iload_n hx hb dX8_partsOf_62 rfl (lv_at hl 4 rfl) ?_
    refine lv_imul hx hb dX8_partsOf_63 ?_
    refine mz_ti (y := (nI (128 * j))) (pk_mul _ _) ?_
    refine lv_iload_n hx hb dX8_partsOf_64 rfl (lv_at hl 2 rfl) ?_
    refine lv_iadd hx hb dX8_partsOf_65 ?_
    refine mz_ti (y := (nI ((128 * j) + q_b))) (nI_add _ _) ?_
    refine va_iald hx hb hK hP 2 0 rfl rfl (vp_in_nI (by omega) (by omega)) dX8_partsOf_66 ?_
    refine mz_ti (y := (fb (((128 * j) + q_b)))) (by rw [mz_cl (by omega)]) ?_
    refine W.widen (k := 0) (n := 0) (Nat.le_of_ble_eq_true rfl) (Nat.le_of_ble_eq_true rfl) ?_
    exact W.iret (v := (fb (((128 * j) + q_b)))) hx hb hr (fun t ht hW => ⟨⟨(fb (((128 * j) + q_b))), (), rfl, trivial, ht⟩, hS.F ht⟩) hS.2.2 dX8_partsOf_67
  · skip
    have d_14 : ¬ n ≤ i_8 := fun h => c_14 ((nI_leI (a := n) (b := i_8) (by omega) (by omega)).mpr h)
    refine lv_aload_n hx hb dX8_partsOf_17 rfl (lv_at hl 3 rfl) ?_
    refine va_get (D := (dC, dI)) (ci := 8) (v := .ref m2) (C := RX8) (T := TX8) (N := 17) hx hb hts hiX8 hown hK hP 0 rfl rfl 2 (by decide) (hts (.fieldLink RX8 13 "MadeItSoModel" "parents" "[I") (by decide +kernel)) (fun _ h9 => h9) rfl dX8_partsOf_18 ?_
    refine lv_iload_n hx hb dX8_partsOf_21 rfl (lv_at hl 4 rfl) ?_
    refine va_iald hx hb hK hP 1 0 rfl rfl (vp_in_nI (by omega) (by omega)) dX8_partsOf_22 ?_
    refine mz_ti (y := (fp j)) (by rw [mz_cl (by omega)]) ?_
    refine lv_iload hx hb dX8_partsOf_23 (lv_at hl 0 rfl) ?_
    refine lv_ishr hx hb dX8_partsOf_25 ?_
    refine lv_iconst (v := 1) hx hb dX8_partsOf_26 (by decide +kernel) ?_
    refine lv_iand hx hb dX8_partsOf_27 ?_
    refine lv_if_ne (tgt := 34) hx hb dX8_partsOf_28 (by decide) (fun c_28 => ?_) (fun c_28 => ?_)
    · skip
      refine lv_iload_n hx hb dX8_partsOf_34 rfl (lv_at hl 2 rfl) ?_
      refine lv_iload_n hx hb dX8_partsOf_35 rfl (lv_at hl 5 rfl) ?_
      refine lv_iload hx hb dX8_partsOf_36 (lv_at hl 0 rfl) ?_
      refine lv_ishr hx hb dX8_partsOf_38 ?_
      refine lv_iconst (v := 1) hx hb dX8_partsOf_39 (by decide +kernel) ?_
      refine lv_iand hx hb dX8_partsOf_40 ?_
      refine lv_iload hx hb dX8_partsOf_41 (lv_at hl 1 rfl) ?_
      refine lv_ishl hx hb dX8_partsOf_43 ?_
      refine lv_ior hx hb dX8_partsOf_44 ?_
      refine lv_istore_n (lv' := [(3, .int ((nI q_b) ||| (((p1 >>> ((nI i_8) &&& 31)) &&& 1) <<< ((nI c_b) &&& 31)))), (5, .int (nI i_8)), (4, .int (nI c_b)), (0, .ref mo), (1, .int (nI j)), (2, .int p1)]) hx hb dX8_partsOf_45 rfl hl (by decide) rfl (fun ls hl => ?_)
      refine lv_iinc (v := (nI (c_b + 1))) (lv' := [(4, .int (nI (c_b + 1))), (3, .int ((nI q_b) ||| (((p1 >>> ((nI i_8) &&& 31)) &&& 1) <<< ((nI c_b) &&& 31)))), (5, .int (nI i_8)), (0, .ref mo), (1, .int (nI j)), (2, .int p1)]) hx hb dX8_partsOf_46 hl (k := 2) rfl (nI_1 _) (by decide) rfl (fun ls hl => ?_)
      refine lv_iinc (v := (nI (i_8 + 1))) (lv' := [(5, .int (nI (i_8 + 1))), (4, .int (nI (c_b + 1))), (3, .int ((nI q_b) ||| (((p1 >>> ((nI i_8) &&& 31)) &&& 1) <<< ((nI c_b) &&& 31)))), (0, .ref mo), (1, .int (nI j)), (2, .int p1)]) hx hb dX8_partsOf_49 hl (k := 2) rfl (nI_1 _) (by decide) rfl (fun ls hl => ?_)
      refine lv_goto (tgt := 8) hx hb dX8_partsOf_52 (by decide) ?_
      exact ih_8 _ (by omega) _ _ _ ⟨(i_8 + 1), (nI (c_b + 1)), ((nI q_b) ||| (((p1 >>> ((nI i_8) &&& 31)) &&& 1) <<< ((nI c_b) &&& 31))), by omega, (by first | exact ⟨c_b, q_b, rfl, rfl, hq_, by omega, by omega⟩ | (have hij : i_8 ≠ j := fun e => c_28 ((mz_b0 (by omega)).mpr (by rw [e]; exact mz_acy_self (by omega) hj ha)); have hc7 : c_b ≤ 7 := (by omega); obtain ⟨r, er, hr⟩ := mz_row (q := q_b) (c := c_b) (p1 >>> (nI i_8 &&& 31)) hq_ hc7; exact ⟨c_b + 1, r, rfl, er, hr, by omega, by omega⟩)), rfl, hS, lv_sub hl [0, 1, 2, 3, 4, 5] rfl, rfl⟩
    · skip
      refine lv_goto (tgt := 49) hx hb dX8_partsOf_31 (by decide) ?_
      refine lv_iinc (v := (nI (i_8 + 1))) (lv' := [(5, .int (nI (i_8 + 1))), (4, .int (nI c_b)), (3, .int (nI q_b)), (0, .ref mo), (1, .int (nI j)), (2, .int p1)]) hx hb dX8_partsOf_49 hl (k := 0) rfl (nI_1 _) (by decide) rfl (fun ls hl => ?_)
      refine lv_goto (tgt := 8) hx hb dX8_partsOf_52 (by decide) ?_
      exact ih_8 _ (by omega) _ _ _ ⟨(i_8 + 1), (nI c_b), (nI q_b), by omega, (by first | exact ⟨c_b, q_b, rfl, rfl, hq_, by omega, by omega⟩ | (have hij : i_8 ≠ j := fun e => c_28 ((mz_b0 (by omega)).mpr (by rw [e]; exact mz_acy_self (by omega) hj ha)); have hc7 : c_b ≤ 7 := (by omega); obtain ⟨r, er, hr⟩ := mz_row (q := q_b) (c := c_b) (p1 >>> (nI i_8 &&& 31)) hq_ hc7; exact ⟨c_b + 1, r, rfl, er, hr, by omega, by omega⟩)), rfl, hS, lv_sub hl [0, 1, 2, 3, 4, 5] rfl, rfl⟩
set_option maxHeartbeats 1000000 in
set_option maxRecDepth 100000 in
theorem mz_m_weightOf (l : Launch) (dC : Nat → ClassId) (dI : Nat → Nat → Nat) (cI cJ cZ : ClassId) (mo : Nat) (m1 : Nat) (m2 : Nat) (m3 : Nat) (m6 : Nat) (m7 : Nat) (m8 : Nat) (m9 : Nat) (m10 : Nat) (m11 : Nat) (m12 : Nat) (m13 : Nat) (m14 : Nat) (m15 : Nat) (m16 : Nat) (n : Nat) (ka : Int64) (kb : Int64) (fp : Nat → Int32) (fb : Nat → Int32) (p1 : Int32) (p2 : Int32) (Hq : Heap) (hn : n ≤ 8) (ha : mz_acy n fp) : Met l yX8_weightOf wsX8_weightOf ({ frames := 1, cells := 0, slots := 0, locals := 25 }) (va_Pc [.ref mo, .int p1, .int p2] (fun U => U.heap = Hq ∧ va_P (dC, dI) vwCl [(mo, .inr (8, [.int (nI n), .ref m1, .ref m2, .ref m3, .long ka, .long kb, .ref m6, .ref m7, .ref m8, .ref m9, .ref m10, .ref m11, .ref m12, .ref m13, .ref m14, .ref m15, .ref m16])), (m2, .inl (cI, 8, .inl fp)), (m3, .inl (cI, 1024, .inl fb))] Hq ∧ va_K (dC, dI) vwCl [(cI, FieldType.int), (cJ, FieldType.long), (cZ, FieldType.boolean)] U ∧ mz_N U)) (va_Ql (fun (r : Int64) (_ : Unit) => True) (fun _ t => t.heap = Hq) (fun _ : Nat => False)) 0 0 (fun _ : Nat => False) := by
  refine Met.ofW (cc := cX8_weightOf) (maxL := 7) (ret := (some .long)) (by decide) rfl ?_
  intro p e s m args below meth c s₁ B hml hv
  obtain ⟨rfl, hH, hP, hK, hN⟩ := hv
  subst hH
  have hx := B.exec
  have hb := B.bytes
  have hr := B.returns
  have hts := atoms_spec (ws := wsX8_weightOf) B.pre
  have hown : s.vm.findClass RX8 = some m.cls := findClass_of_methodNamed B.named
  have hlocks := B.notSynchronized
  have hS : va_S (fun _ : Nat => False) s.heap s.heap [] := va_S.rf
  have hiX8 : ∀ w ∈ u_ws RX8 TX8 17, w ∈ wsX8_weightOf := by decide +kernel
  have hl := lv_entry ([.ref mo, .int p1, .int p2]) (n := 7) (Nat.le_of_ble_eq_true rfl)
  rw [lg_entry_eq]
  generalize (lg_sl ([.ref mo, .int p1, .int p2]) ++ List.replicate (7 - (lg_sl ([.ref mo, .int p1, .int p2])).length) Slot.unset).toArray = ls at hl ⊢
  have hl : lv_has ls 7 [(0, .ref mo), (1, .int p1), (2, .int p2)] := hl
  refine lv_iload_n hx hb dX8_weightOf_0 rfl (lv_at hl 1 rfl) ?_
  refine lv_iload_n hx hb dX8_weightOf_1 rfl (lv_at hl 2 rfl) ?_
  refine lv_bipush (v := 8) hx hb dX8_weightOf_2 (by decide +kernel) ?_
  refine lv_ishr hx hb dX8_weightOf_4 ?_
  refine lv_topi (fun v_4 ev_4 => ?_)
  refine lv_ixor hx hb dX8_weightOf_5 ?_
  refine lv_topi (fun v_5 ev_5 => ?_)
  refine lv_iload_n hx hb dX8_weightOf_6 rfl (lv_at hl 2 rfl) ?_
  refine lv_iand hx hb dX8_weightOf_7 ?_
  refine lv_topi (fun v_7 ev_7 => ?_)
  refine lv_sipush (v := 255) hx hb dX8_weightOf_8 (by decide +kernel) ?_
  refine lv_iand hx hb dX8_weightOf_11 ?_
  obtain ⟨a_11, ha_11, ea_11⟩ := pk_andE (v_7) (m := 255) 8 (by decide)
  have ha_11 : a_11 < 256 := ha_11
  refine mz_ti (y := (nI a_11)) ea_11 ?_
  refine lv_if_eq (tgt := 17) hx hb dX8_weightOf_12 (by decide) (fun c_12 => ?_) (fun c_12 => ?_)
  · skip
    have d_12 : a_11 = 0 := (nI_eq (a := a_11) (b := 0) (by omega) (by omega)).mp c_12
    refine lv_lconst (v := 1) hx hb dX8_weightOf_17 (by decide +kernel) ?_
    refine lv_lstore_n (lv' := [(3, .long 1), (0, .ref mo), (1, .int p1), (2, .int p2)]) hx hb dX8_weightOf_18 rfl hl (by decide) rfl (fun ls hl => ?_)
    refine lv_iconst (v := 0) hx hb dX8_weightOf_19 (by decide +kernel) ?_
    refine lv_istore (lv' := [(5, .int 0), (3, .long 1), (0, .ref mo), (1, .int p1), (2, .int p2)]) hx hb dX8_weightOf_20 hl (by decide) rfl (fun ls hl => ?_)
    refine mz_loopU (fun k H locs ls => ∃ (i_22 : Nat), ∃ (x3_22 : Int64), i_22 ≤ n ∧ H = s.heap ∧ va_S (fun _ : Nat => False) s.heap H locs ∧ lv_has ls 7 [(5, .int (nI i_22)), (3, .long x3_22), (0, .ref mo), (1, .int p1), (2, .int p2)] ∧ k = n - i_22) ?_ _ _ _ _ ⟨0, 1, by omega, rfl, hS, lv_sub hl [0, 1, 2, 3, 4] rfl, rfl⟩
    intro k_22 H locs ls hI_22 ih_22
    obtain ⟨i_22, x3_22, hi_22, hH_22, hS, hl, hk_22⟩ := hI_22
    subst hH_22
    refine lv_iload hx hb dX8_weightOf_22 (lv_at hl 0 rfl) ?_
    refine lv_aload_n hx hb dX8_weightOf_24 rfl (lv_at hl 2 rfl) ?_
    refine va_get (D := (dC, dI)) (ci := 8) (v := .int (nI n)) (C := RX8) (T := TX8) (N := 17) hx hb hts hiX8 hown hK hP 0 rfl rfl 0 (by decide) (hts (.fieldLink RX8 58 "MadeItSoModel" "many" "I") (by decide +kernel)) (fun _ h9 => h9) rfl dX8_weightOf_25 ?_
    refine lv_icmp_ge (tgt := 87) hx hb dX8_weightOf_28 (by decide) (fun c_28 => ?_) (fun c_28 => ?_)
    · skip
      have d_28 : n ≤ i_22 := (nI_leI (a := n) (b := i_22) (by omega) (by omega)).mp c_28
      refine lv_lload_n hx hb dX8_weightOf_87 rfl (lv_at hl 1 rfl) ?_
      refine W.widen (k := 0) (n := 0) (Nat.le_of_ble_eq_true rfl) (Nat.le_of_ble_eq_true rfl) ?_
      exact W.lret (v := x3_22) hx hb hr (fun t ht hW => ⟨⟨x3_22, (), rfl, trivial, ht⟩, hS.F ht⟩) hS.2.2 dX8_weightOf_88
    · skip
      have d_28 : ¬ n ≤ i_22 := fun h => c_28 ((nI_leI (a := n) (b := i_22) (by omega) (by omega)).mpr h)
      refine lv_aload_n hx hb dX8_weightOf_31 rfl (lv_at hl 2 rfl) ?_
      refine lv_iload hx hb dX8_weightOf_32 (lv_at hl 0 rfl) ?_
      refine lv_iload_n hx hb dX8_weightOf_34 rfl (lv_at hl 3 rfl) ?_
      have hPc := hP.sub (ws' := [(mo, .inr (8, [.int (nI n), .ref m1, .ref m2, .ref m3, .long ka, .long kb, .ref m6, .ref m7, .ref m8, .ref m9, .ref m10, .ref m11, .ref m12, .ref m13, .ref m14, .ref m15, .ref m16])), (m2, .inl (cI, 8, .inl fp)), (m3, .inl (cI, 1024, .inl fb))]) [0, 1, 2] rfl
      refine va_calli (va_runV (As := [.int (nI i_22), .int p1]) (rest := []) ⟨hx, hb, hml, hown, hts⟩ (mz_m_partsOf l dC dI cI cJ cZ mo m1 m2 m3 m6 m7 m8 m9 m10 m11 m12 m13 m14 m15 m16 n ka kb fp fb i_22 p1 s.heap (by first | assumption | omega) (by first | assumption | omega) (by first | assumption | omega)) (cwV 2 hts gX8_weightOf_X8_partsOf rfl rfl rfl (by decide +kernel) ⟨Nat.le_of_ble_eq_true rfl, Nat.le_of_ble_eq_true rfl⟩) ⟨fun a U g mk q => mz_blP q, va_recv hK hPc (ci := 8) (q0 := 0) rfl rfl, fun U hU hW => ⟨rfl, hU, hPc, va_K.moved hW.alike hK, mz_nw hW hN⟩⟩ rfl rfl hl.1 rfl (lv_room (Nat.le_of_ble_eq_true rfl)) dX8_weightOf_35 ⟨Nat.le_of_ble_eq_true rfl, Nat.le_of_ble_eq_true rfl⟩) hS (fun q _ h => h.elim) (fun q h => h.elim) (fun r_35 u t H1 locs ht hvm hw_35 hB hz1 hk1 hS => ?_)
      have hE : s.heap = H1 := hB.symm.trans ht
      subst hE
      refine lv_istore (lv' := [(6, .int r_35), (5, .int (nI i_22)), (3, .long x3_22), (0, .ref mo), (1, .int p1), (2, .int p2)]) hx hb dX8_weightOf_38 hl (by decide) rfl (fun ls hl => ?_)
      refine lv_lload_n hx hb dX8_weightOf_40 rfl (lv_at hl 2 rfl) ?_
      refine lv_iload_n hx hb dX8_weightOf_41 rfl (lv_at hl 5 rfl) ?_
      refine lv_iload hx hb dX8_weightOf_42 (lv_at hl 1 rfl) ?_
      refine lv_ishr hx hb dX8_weightOf_44 ?_
      refine lv_topi (fun v_44 ev_44 => ?_)
      refine lv_iconst (v := 1) hx hb dX8_weightOf_45 (by decide +kernel) ?_
      refine lv_iand hx hb dX8_weightOf_46 ?_
      refine lv_topi (fun v_46 ev_46 => ?_)
      refine lv_iconst (v := 1) hx hb dX8_weightOf_47 (by decide +kernel) ?_
      refine lv_icmp_ne (tgt := 57) hx hb dX8_weightOf_48 (by decide) (fun c_48 => ?_) (fun c_48 => ?_)
      · skip
        refine lv_iload_n hx hb dX8_weightOf_57 rfl (lv_at hl 4 rfl) ?_
        refine lv_iload hx hb dX8_weightOf_58 (lv_at hl 1 rfl) ?_
        refine lv_ishr hx hb dX8_weightOf_60 ?_
        refine lv_topi (fun v_60 ev_60 => ?_)
        refine lv_iconst (v := 1) hx hb dX8_weightOf_61 (by decide +kernel) ?_
        refine lv_iand hx hb dX8_weightOf_62 ?_
        refine lv_topi (fun v_62 ev_62 => ?_)
        refine lv_iconst (v := 1) hx hb dX8_weightOf_63 (by decide +kernel) ?_
        refine lv_icmp_ne (tgt := 73) hx hb dX8_weightOf_64 (by decide) (fun c_64 => ?_) (fun c_64 => ?_)
        · skip
          refine lv_bipush (v := 100) hx hb dX8_weightOf_73 (by decide +kernel) ?_
          refine lv_iload hx hb dX8_weightOf_75 (lv_at hl 0 rfl) ?_
          refine lv_isub hx hb dX8_weightOf_77 ?_
          refine lv_topi (fun v_77 ev_77 => ?_)
          refine lv_i2l hx hb dX8_weightOf_78 rfl ?_
          refine lv_topl (fun v_78 ev_78 => ?_)
          refine lv_lmul hx hb dX8_weightOf_79 ?_
          refine lv_topl (fun v_79 ev_79 => ?_)
          refine lv_lstore_n (lv' := [(3, .long v_79), (6, .int r_35), (5, .int (nI i_22)), (0, .ref mo), (1, .int p1), (2, .int p2)]) hx hb dX8_weightOf_80 rfl hl (by decide) rfl (fun ls hl => ?_)
          refine lv_iinc (v := (nI (i_22 + 1))) (lv' := [(5, .int (nI (i_22 + 1))), (3, .long v_79), (6, .int r_35), (0, .ref mo), (1, .int p1), (2, .int p2)]) hx hb dX8_weightOf_81 hl (k := 2) rfl (nI_1 _) (by decide) rfl (fun ls hl => ?_)
          refine lv_goto (tgt := 22) hx hb dX8_weightOf_84 (by decide) ?_
          exact ih_22 _ (by omega) _ _ _ ⟨(i_22 + 1), v_79, by omega, rfl, hS, lv_sub hl [0, 1, 3, 4, 5] rfl, rfl⟩
        · skip
          refine lv_iload hx hb dX8_weightOf_67 (lv_at hl 0 rfl) ?_
          refine lv_i2l hx hb dX8_weightOf_69 rfl ?_
          refine lv_topl (fun v_69 ev_69 => ?_)
          refine lv_goto (tgt := 79) hx hb dX8_weightOf_70 (by decide) ?_
          refine lv_lmul hx hb dX8_weightOf_79 ?_
          refine lv_topl (fun v_79 ev_79 => ?_)
          refine lv_lstore_n (lv' := [(3, .long v_79), (6, .int r_35), (5, .int (nI i_22)), (0, .ref mo), (1, .int p1), (2, .int p2)]) hx hb dX8_weightOf_80 rfl hl (by decide) rfl (fun ls hl => ?_)
          refine lv_iinc (v := (nI (i_22 + 1))) (lv' := [(5, .int (nI (i_22 + 1))), (3, .long v_79), (6, .int r_35), (0, .ref mo), (1, .int p1), (2, .int p2)]) hx hb dX8_weightOf_81 hl (k := 2) rfl (nI_1 _) (by decide) rfl (fun ls hl => ?_)
          refine lv_goto (tgt := 22) hx hb dX8_weightOf_84 (by decide) ?_
          exact ih_22 _ (by omega) _ _ _ ⟨(i_22 + 1), v_79, by omega, rfl, hS, lv_sub hl [0, 1, 3, 4, 5] rfl, rfl⟩
      · skip
        refine lv_ldc2 hx hb hown (hts (.constantLong RX8 96 (100)) (by decide +kernel)) dX8_weightOf_51 ?_
        refine lv_goto (tgt := 79) hx hb dX8_weightOf_54 (by decide) ?_
        refine lv_lmul hx hb dX8_weightOf_79 ?_
        refine lv_topl (fun v_79 ev_79 => ?_)
        refine lv_lstore_n (lv' := [(3, .long v_79), (6, .int r_35), (5, .int (nI i_22)), (0, .ref mo), (1, .int p1), (2, .int p2)]) hx hb dX8_weightOf_80 rfl hl (by decide) rfl (fun ls hl => ?_)
        refine lv_iinc (v := (nI (i_22 + 1))) (lv' := [(5, .int (nI (i_22 + 1))), (3, .long v_79), (6, .int r_35), (0, .ref mo), (1, .int p1), (2, .int p2)]) hx hb dX8_weightOf_81 hl (k := 2) rfl (nI_1 _) (by decide) rfl (fun ls hl => ?_)
        refine lv_goto (tgt := 22) hx hb dX8_weightOf_84 (by decide) ?_
        exact ih_22 _ (by omega) _ _ _ ⟨(i_22 + 1), v_79, by omega, rfl, hS, lv_sub hl [0, 1, 3, 4, 5] rfl, rfl⟩
  · skip
    have d_12 : ¬ a_11 = 0 := fun h => c_12 ((nI_eq (a := a_11) (b := 0) (by omega) (by omega)).mpr h)
    refine lv_lconst (v := 0) hx hb dX8_weightOf_15 (by decide +kernel) ?_
    refine W.widen (k := 0) (n := 0) (Nat.le_of_ble_eq_true rfl) (Nat.le_of_ble_eq_true rfl) ?_
    exact W.lret (v := 0) hx hb hr (fun t ht hW => ⟨⟨0, (), rfl, trivial, ht⟩, hS.F ht⟩) hS.2.2 dX8_weightOf_16
set_option maxHeartbeats 1000000 in
set_option maxRecDepth 100000 in
theorem mz_m_sum (l : Launch) (dC : Nat → ClassId) (dI : Nat → Nat → Nat) (cI cJ cZ : ClassId) (mo : Nat) (m1 : Nat) (m2 : Nat) (m3 : Nat) (m6 : Nat) (m7 : Nat) (m8 : Nat) (m9 : Nat) (m10 : Nat) (m11 : Nat) (m12 : Nat) (m13 : Nat) (m14 : Nat) (m15 : Nat) (m16 : Nat) (n : Nat) (ka : Int64) (kb : Int64) (fp : Nat → Int32) (fb : Nat → Int32) (p1 : Int32) (p2 : Int32) (Hq : Heap) (hn : n ≤ 8) (ha : mz_acy n fp) : Met l yX8_sum wsX8_sum ({ frames := 2, cells := 0, slots := 0, locals := 51 }) (va_Pc [.ref mo, .int p1, .int p2] (fun U => U.heap = Hq ∧ va_P (dC, dI) vwCl [(mo, .inr (8, [.int (nI n), .ref m1, .ref m2, .ref m3, .long ka, .long kb, .ref m6, .ref m7, .ref m8, .ref m9, .ref m10, .ref m11, .ref m12, .ref m13, .ref m14, .ref m15, .ref m16])), (m2, .inl (cI, 8, .inl fp)), (m3, .inl (cI, 1024, .inl fb))] Hq ∧ va_K (dC, dI) vwCl [(cI, FieldType.int), (cJ, FieldType.long), (cZ, FieldType.boolean)] U ∧ mz_N U)) (va_Ql (fun (r : Int64) (_ : Unit) => True) (fun _ t => t.heap = Hq) (fun _ : Nat => False)) 0 0 (fun _ : Nat => False) := by
  refine Met.ofW (cc := cX8_sum) (maxL := 6) (ret := (some .long)) (by decide) rfl ?_
  intro p e s m args below meth c s₁ B hml hv
  obtain ⟨rfl, hH, hP, hK, hN⟩ := hv
  subst hH
  have hx := B.exec
  have hb := B.bytes
  have hr := B.returns
  have hts := atoms_spec (ws := wsX8_sum) B.pre
  have hown : s.vm.findClass RX8 = some m.cls := findClass_of_methodNamed B.named
  have hlocks := B.notSynchronized
  have hS : va_S (fun _ : Nat => False) s.heap s.heap [] := va_S.rf
  have hiX8 : ∀ w ∈ u_ws RX8 TX8 17, w ∈ wsX8_sum := by decide +kernel
  have hl := lv_entry ([.ref mo, .int p1, .int p2]) (n := 6) (Nat.le_of_ble_eq_true rfl)
  rw [lg_entry_eq]
  generalize (lg_sl ([.ref mo, .int p1, .int p2]) ++ List.replicate (6 - (lg_sl ([.ref mo, .int p1, .int p2])).length) Slot.unset).toArray = ls at hl ⊢
  have hl : lv_has ls 6 [(0, .ref mo), (1, .int p1), (2, .int p2)] := hl
  obtain ⟨N2, hN2⟩ : ∃ k : Nat, k = 2 ^ n := ⟨_, rfl⟩
  have h2n : N2 ≤ 256 := by rw [hN2]; exact mz_2n hn
  refine lv_lconst (v := 0) hx hb dX8_sum_0 (by decide +kernel) ?_
  refine lv_lstore_n (lv' := [(3, .long 0), (0, .ref mo), (1, .int p1), (2, .int p2)]) hx hb dX8_sum_1 rfl hl (by decide) rfl (fun ls hl => ?_)
  refine lv_iconst (v := 0) hx hb dX8_sum_2 (by decide +kernel) ?_
  refine lv_istore (lv' := [(5, .int 0), (3, .long 0), (0, .ref mo), (1, .int p1), (2, .int p2)]) hx hb dX8_sum_3 hl (by decide) rfl (fun ls hl => ?_)
  refine mz_loopU (fun k H locs ls => ∃ (i_5 : Nat), ∃ (x3_5 : Int64), i_5 ≤ N2 ∧ H = s.heap ∧ va_S (fun _ : Nat => False) s.heap H locs ∧ lv_has ls 6 [(5, .int (nI i_5)), (3, .long x3_5), (0, .ref mo), (1, .int p1), (2, .int p2)] ∧ k = N2 - i_5) ?_ _ _ _ _ ⟨0, 0, by omega, rfl, hS, lv_sub hl [0, 1, 2, 3, 4] rfl, rfl⟩
  intro k_5 H locs ls hI_5 ih_5
  obtain ⟨i_5, x3_5, hi_5, hH_5, hS, hl, hk_5⟩ := hI_5
  subst hH_5
  refine lv_iload hx hb dX8_sum_5 (lv_at hl 0 rfl) ?_
  refine lv_iconst (v := 1) hx hb dX8_sum_7 (by decide +kernel) ?_
  refine lv_aload_n hx hb dX8_sum_8 rfl (lv_at hl 2 rfl) ?_
  refine va_get (D := (dC, dI)) (ci := 8) (v := .int (nI n)) (C := RX8) (T := TX8) (N := 17) hx hb hts hiX8 hown hK hP 0 rfl rfl 0 (by decide) (hts (.fieldLink RX8 58 "MadeItSoModel" "many" "I") (by decide +kernel)) (fun _ h9 => h9) rfl dX8_sum_9 ?_
  refine lv_ishl hx hb dX8_sum_12 ?_
  refine mz_ti (y := (nI N2)) (by rw [hN2]; exact mz_sh1 (by omega)) ?_
  refine lv_icmp_ge (tgt := 48) hx hb dX8_sum_13 (by decide) (fun c_13 => ?_) (fun c_13 => ?_)
  · skip
    have d_13 : N2 ≤ i_5 := (nI_leI (a := N2) (b := i_5) (by omega) (by omega)).mp c_13
    refine lv_lload_n hx hb dX8_sum_48 rfl (lv_at hl 1 rfl) ?_
    refine W.widen (k := 0) (n := 0) (Nat.le_of_ble_eq_true rfl) (Nat.le_of_ble_eq_true rfl) ?_
    exact W.lret (v := x3_5) hx hb hr (fun t ht hW => ⟨⟨x3_5, (), rfl, trivial, ht⟩, hS.F ht⟩) hS.2.2 dX8_sum_49
  · skip
    have d_13 : ¬ N2 ≤ i_5 := fun h => c_13 ((nI_leI (a := N2) (b := i_5) (by omega) (by omega)).mpr h)
    refine lv_iload hx hb dX8_sum_16 (lv_at hl 0 rfl) ?_
    refine lv_iload_n hx hb dX8_sum_18 rfl (lv_at hl 3 rfl) ?_
    refine lv_bipush (v := 8) hx hb dX8_sum_19 (by decide +kernel) ?_
    refine lv_ishr hx hb dX8_sum_21 ?_
    refine lv_topi (fun v_21 ev_21 => ?_)
    refine lv_ixor hx hb dX8_sum_22 ?_
    refine lv_topi (fun v_22 ev_22 => ?_)
    refine lv_iload_n hx hb dX8_sum_23 rfl (lv_at hl 3 rfl) ?_
    refine lv_iand hx hb dX8_sum_24 ?_
    refine lv_topi (fun v_24 ev_24 => ?_)
    refine lv_sipush (v := 255) hx hb dX8_sum_25 (by decide +kernel) ?_
    refine lv_iand hx hb dX8_sum_28 ?_
    obtain ⟨a_28, ha_28, ea_28⟩ := pk_andE (v_24) (m := 255) 8 (by decide)
    have ha_28 : a_28 < 256 := ha_28
    refine mz_ti (y := (nI a_28)) ea_28 ?_
    refine lv_if_ne (tgt := 42) hx hb dX8_sum_29 (by decide) (fun c_29 => ?_) (fun c_29 => ?_)
    · skip
      have d_29 : ¬ a_28 = 0 := fun h => c_29 ((nI_eq (a := a_28) (b := 0) (by omega) (by omega)).mpr h)
      refine lv_iinc (v := (nI (i_5 + 1))) (lv' := [(5, .int (nI (i_5 + 1))), (3, .long x3_5), (0, .ref mo), (1, .int p1), (2, .int p2)]) hx hb dX8_sum_42 hl (k := 0) rfl (nI_1 _) (by decide) rfl (fun ls hl => ?_)
      refine lv_goto (tgt := 5) hx hb dX8_sum_45 (by decide) ?_
      exact ih_5 _ (by omega) _ _ _ ⟨(i_5 + 1), x3_5, by omega, rfl, hS, lv_sub hl [0, 1, 2, 3, 4] rfl, rfl⟩
    · skip
      have d_29 : a_28 = 0 := (nI_eq (a := a_28) (b := 0) (by omega) (by omega)).mp c_29
      refine lv_lload_n hx hb dX8_sum_32 rfl (lv_at hl 1 rfl) ?_
      refine lv_aload_n hx hb dX8_sum_33 rfl (lv_at hl 2 rfl) ?_
      refine lv_iload hx hb dX8_sum_34 (lv_at hl 0 rfl) ?_
      refine lv_iload_n hx hb dX8_sum_36 rfl (lv_at hl 4 rfl) ?_
      have hPc := hP.sub (ws' := [(mo, .inr (8, [.int (nI n), .ref m1, .ref m2, .ref m3, .long ka, .long kb, .ref m6, .ref m7, .ref m8, .ref m9, .ref m10, .ref m11, .ref m12, .ref m13, .ref m14, .ref m15, .ref m16])), (m2, .inl (cI, 8, .inl fp)), (m3, .inl (cI, 1024, .inl fb))]) [0, 1, 2] rfl
      refine va_calll (va_runV (As := [.int (nI i_5), .int p2]) (rest := [.long x3_5]) ⟨hx, hb, hml, hown, hts⟩ (mz_m_weightOf l dC dI cI cJ cZ mo m1 m2 m3 m6 m7 m8 m9 m10 m11 m12 m13 m14 m15 m16 n ka kb fp fb (nI i_5) p2 s.heap (by first | assumption | omega) (by first | assumption | omega)) (cwV 2 hts gX8_sum_X8_weightOf rfl rfl rfl (by decide +kernel) ⟨Nat.le_of_ble_eq_true rfl, Nat.le_of_ble_eq_true rfl⟩) ⟨fun a U g mk q => mz_blP q, va_recv hK hPc (ci := 8) (q0 := 0) rfl rfl, fun U hU hW => ⟨rfl, hU, hPc, va_K.moved hW.alike hK, mz_nw hW hN⟩⟩ rfl rfl hl.1 rfl (lv_room (Nat.le_of_ble_eq_true rfl)) dX8_sum_37 ⟨Nat.le_of_ble_eq_true rfl, Nat.le_of_ble_eq_true rfl⟩) hS (fun q _ h => h.elim) (fun q h => h.elim) (fun r_37 u t H1 locs ht hvm hw_37 hB hz1 hk1 hS => ?_)
      have hE : s.heap = H1 := hB.symm.trans ht
      subst hE
      refine lv_ladd hx hb dX8_sum_40 ?_
      refine lv_topl (fun v_40 ev_40 => ?_)
      refine lv_lstore_n (lv' := [(3, .long v_40), (5, .int (nI i_5)), (0, .ref mo), (1, .int p1), (2, .int p2)]) hx hb dX8_sum_41 rfl hl (by decide) rfl (fun ls hl => ?_)
      refine lv_iinc (v := (nI (i_5 + 1))) (lv' := [(5, .int (nI (i_5 + 1))), (3, .long v_40), (0, .ref mo), (1, .int p1), (2, .int p2)]) hx hb dX8_sum_42 hl (k := 1) rfl (nI_1 _) (by decide) rfl (fun ls hl => ?_)
      refine lv_goto (tgt := 5) hx hb dX8_sum_45 (by decide) ?_
      exact ih_5 _ (by omega) _ _ _ ⟨(i_5 + 1), v_40, by omega, rfl, hS, lv_sub hl [0, 1, 2, 3, 4] rfl, rfl⟩
set_option maxHeartbeats 1000000 in
set_option maxRecDepth 100000 in
theorem mz_m_shared (l : Launch) (dC : Nat → ClassId) (dI : Nat → Nat → Nat) (cI cJ cZ : ClassId) (p0 : Int64) (p1 : Int64) (Hq : Heap) (hb9 : ¬ p1 = 0) : Met l yX8_shared wsX8_shared ({ frames := 0, cells := 0, slots := 0, locals := 0 }) (va_Pc [.long p0, .long p1] (fun U => U.heap = Hq ∧ va_P (dC, dI) vwCl [] Hq ∧ va_K (dC, dI) vwCl [(cI, FieldType.int), (cJ, FieldType.long), (cZ, FieldType.boolean)] U ∧ mz_N U)) (va_Ql (fun (r : Int64) (_ : Unit) => ¬ r = 0) (fun _ t => t.heap = Hq) (fun _ : Nat => False)) 0 0 (fun _ : Nat => False) := by
  refine Met.ofW (cc := cX8_shared) (maxL := 10) (ret := (some .long)) (by decide) rfl ?_
  intro p e s m args below meth c s₁ B hml hv
  obtain ⟨rfl, hH, hP, hK, hN⟩ := hv
  subst hH
  have hx := B.exec
  have hb := B.bytes
  have hr := B.returns
  have hts := atoms_spec (ws := wsX8_shared) B.pre
  have hown : s.vm.findClass RX8 = some m.cls := findClass_of_methodNamed B.named
  have hlocks := B.notSynchronized
  have hS : va_S (fun _ : Nat => False) s.heap s.heap [] := va_S.rf
  have hl := lv_entry ([.long p0, .long p1]) (n := 10) (Nat.le_of_ble_eq_true rfl)
  rw [lg_entry_eq]
  generalize (lg_sl ([.long p0, .long p1]) ++ List.replicate (10 - (lg_sl ([.long p0, .long p1])).length) Slot.unset).toArray = ls at hl ⊢
  have hl : lv_has ls 10 [(0, .long p0), (2, .long p1)] := hl
  refine lv_lload_n hx hb dX8_shared_0 rfl (lv_at hl 0 rfl) ?_
  refine lv_lstore (lv' := [(4, .long p0), (0, .long p0), (2, .long p1)]) hx hb dX8_shared_1 hl (by decide) rfl (fun ls hl => ?_)
  refine lv_lload_n hx hb dX8_shared_3 rfl (lv_at hl 2 rfl) ?_
  refine lv_lstore (lv' := [(6, .long p1), (4, .long p0), (0, .long p0), (2, .long p1)]) hx hb dX8_shared_4 hl (by decide) rfl (fun ls hl => ?_)
  refine mz_loopU (fun k H locs ls => ∃ (x6_6 : Int64), ∃ (x4_6 : Int64), (¬ (x4_6 = 0 ∧ x6_6 = 0)) ∧ H = s.heap ∧ va_S (fun _ : Nat => False) s.heap H locs ∧ lv_has ls 10 [(6, .long x6_6), (4, .long x4_6), (0, .long p0), (2, .long p1)] ∧ k = x6_6.toInt.natAbs) ?_ _ _ _ _ ⟨p1, p0, (fun h => hb9 h.2), rfl, hS, lv_sub hl [0, 1, 2, 3] rfl, rfl⟩
  intro k_6 H locs ls hI_6 ih_6
  obtain ⟨x6_6, x4_6, hz_6, hH_6, hS, hl, hk_6⟩ := hI_6
  subst hH_6
  refine lv_lload hx hb dX8_shared_6 (lv_at hl 0 rfl) ?_
  refine lv_lconst (v := 0) hx hb dX8_shared_8 (by decide +kernel) ?_
  refine W.lcmp hx hb dX8_shared_9 ?_
  refine lv_if_eq (tgt := 31) hx hb dX8_shared_10 (by decide) (fun c_10 => ?_) (fun c_10 => ?_)
  · skip
    have d_10 := mz_lc1 c_10
    refine lv_lload hx hb dX8_shared_31 (lv_at hl 1 rfl) ?_
    refine W.widen (k := 0) (n := 0) (Nat.le_of_ble_eq_true rfl) (Nat.le_of_ble_eq_true rfl) ?_
    exact W.lret (v := x4_6) hx hb hr (fun t ht hW => ⟨⟨x4_6, (), rfl, (fun h => hz_6 ⟨h, d_10⟩), ht⟩, hS.F ht⟩) hS.2.2 dX8_shared_33
  · skip
    have d_10 := mz_lc0 c_10
    refine lv_lload hx hb dX8_shared_13 (lv_at hl 1 rfl) ?_
    refine lv_lload hx hb dX8_shared_15 (lv_at hl 0 rfl) ?_
    refine lv_lrem hx hb dX8_shared_17 (by first | assumption | omega) ?_
    refine lv_topl (fun v_17 ev_17 => ?_)
    refine lv_lstore (lv' := [(8, .long v_17), (6, .long x6_6), (4, .long x4_6), (0, .long p0), (2, .long p1)]) hx hb dX8_shared_18 hl (by decide) rfl (fun ls hl => ?_)
    refine lv_lload hx hb dX8_shared_20 (lv_at hl 1 rfl) ?_
    refine lv_lstore (lv' := [(4, .long x6_6), (8, .long v_17), (6, .long x6_6), (0, .long p0), (2, .long p1)]) hx hb dX8_shared_22 hl (by decide) rfl (fun ls hl => ?_)
    refine lv_lload hx hb dX8_shared_24 (lv_at hl 1 rfl) ?_
    refine lv_lstore (lv' := [(6, .long v_17), (4, .long x6_6), (8, .long v_17), (0, .long p0), (2, .long p1)]) hx hb dX8_shared_26 hl (by decide) rfl (fun ls hl => ?_)
    refine lv_goto (tgt := 6) hx hb dX8_shared_28 (by decide) ?_
    exact ih_6 _ (by rw [hk_6, ev_17]; exact mz_lrem d_10) _ _ _ ⟨v_17, x6_6, (fun h => d_10 h.1), rfl, hS, lv_sub hl [0, 1, 3, 4] rfl, rfl⟩
set_option maxHeartbeats 1000000 in
set_option maxRecDepth 100000 in
theorem mz_m_seen (l : Launch) (dC : Nat → ClassId) (dI : Nat → Nat → Nat) (cI cJ cZ : ClassId) (mo : Nat) (m1 : Nat) (m2 : Nat) (m3 : Nat) (m6 : Nat) (m7 : Nat) (m8 : Nat) (m9 : Nat) (m10 : Nat) (m11 : Nat) (m12 : Nat) (m13 : Nat) (m14 : Nat) (m15 : Nat) (m16 : Nat) (n : Nat) (ka : Int64) (kb : Int64) (fs : Nat → Int32) (Hq : Heap) (hn : n ≤ 8) : Met l yX8_seen wsX8_seen ({ frames := 0, cells := 0, slots := 0, locals := 0 }) (va_Pc [.ref mo] (fun U => U.heap = Hq ∧ va_P (dC, dI) vwCl [(mo, .inr (8, [.int (nI n), .ref m1, .ref m2, .ref m3, .long ka, .long kb, .ref m6, .ref m7, .ref m8, .ref m9, .ref m10, .ref m11, .ref m12, .ref m13, .ref m14, .ref m15, .ref m16])), (m1, .inl (cZ, 8, .inl fs))] Hq ∧ va_K (dC, dI) vwCl [(cI, FieldType.int), (cJ, FieldType.long), (cZ, FieldType.boolean)] U ∧ mz_N U)) (va_Qi (fun (r : Int32) (_ : Unit) => True) (fun _ t => t.heap = Hq) (fun _ : Nat => False)) 0 0 (fun _ : Nat => False) := by
  refine Met.ofW (cc := cX8_seen) (maxL := 3) (ret := (some .int)) (by decide) rfl ?_
  intro p e s m args below meth c s₁ B hml hv
  obtain ⟨rfl, hH, hP, hK, hN⟩ := hv
  subst hH
  have hx := B.exec
  have hb := B.bytes
  have hr := B.returns
  have hts := atoms_spec (ws := wsX8_seen) B.pre
  have hown : s.vm.findClass RX8 = some m.cls := findClass_of_methodNamed B.named
  have hlocks := B.notSynchronized
  have hS : va_S (fun _ : Nat => False) s.heap s.heap [] := va_S.rf
  have hiX8 : ∀ w ∈ u_ws RX8 TX8 17, w ∈ wsX8_seen := by decide +kernel
  have hl := lv_entry ([.ref mo]) (n := 3) (Nat.le_of_ble_eq_true rfl)
  rw [lg_entry_eq]
  generalize (lg_sl ([.ref mo]) ++ List.replicate (3 - (lg_sl ([.ref mo])).length) Slot.unset).toArray = ls at hl ⊢
  have hl : lv_has ls 3 [(0, .ref mo)] := hl
  refine lv_iconst (v := 0) hx hb dX8_seen_0 (by decide +kernel) ?_
  refine lv_istore_n (lv' := [(1, .int 0), (0, .ref mo)]) hx hb dX8_seen_1 rfl hl (by decide) rfl (fun ls hl => ?_)
  refine lv_iconst (v := 0) hx hb dX8_seen_2 (by decide +kernel) ?_
  refine lv_istore_n (lv' := [(2, .int 0), (1, .int 0), (0, .ref mo)]) hx hb dX8_seen_3 rfl hl (by decide) rfl (fun ls hl => ?_)
  refine mz_loopU (fun k H locs ls => ∃ (i_4 : Nat), ∃ (x1_4 : Int32), i_4 ≤ n ∧ H = s.heap ∧ va_S (fun _ : Nat => False) s.heap H locs ∧ lv_has ls 3 [(2, .int (nI i_4)), (1, .int x1_4), (0, .ref mo)] ∧ k = n - i_4) ?_ _ _ _ _ ⟨0, 0, by omega, rfl, hS, lv_sub hl [0, 1, 2] rfl, rfl⟩
  intro k_4 H locs ls hI_4 ih_4
  obtain ⟨i_4, x1_4, hi_4, hH_4, hS, hl, hk_4⟩ := hI_4
  subst hH_4
  refine lv_iload_n hx hb dX8_seen_4 rfl (lv_at hl 0 rfl) ?_
  refine lv_aload_n hx hb dX8_seen_5 rfl (lv_at hl 2 rfl) ?_
  refine va_get (D := (dC, dI)) (ci := 8) (v := .int (nI n)) (C := RX8) (T := TX8) (N := 17) hx hb hts hiX8 hown hK hP 0 rfl rfl 0 (by decide) (hts (.fieldLink RX8 58 "MadeItSoModel" "many" "I") (by decide +kernel)) (fun _ h9 => h9) rfl dX8_seen_6 ?_
  refine lv_icmp_ge (tgt := 37) hx hb dX8_seen_9 (by decide) (fun c_9 => ?_) (fun c_9 => ?_)
  · skip
    have d_9 : n ≤ i_4 := (nI_leI (a := n) (b := i_4) (by omega) (by omega)).mp c_9
    refine lv_iload_n hx hb dX8_seen_37 rfl (lv_at hl 1 rfl) ?_
    refine W.widen (k := 0) (n := 0) (Nat.le_of_ble_eq_true rfl) (Nat.le_of_ble_eq_true rfl) ?_
    exact W.iret (v := x1_4) hx hb hr (fun t ht hW => ⟨⟨x1_4, (), rfl, trivial, ht⟩, hS.F ht⟩) hS.2.2 dX8_seen_38
  · skip
    have d_9 : ¬ n ≤ i_4 := fun h => c_9 ((nI_leI (a := n) (b := i_4) (by omega) (by omega)).mpr h)
    refine lv_iload_n hx hb dX8_seen_12 rfl (lv_at hl 1 rfl) ?_
    refine lv_aload_n hx hb dX8_seen_13 rfl (lv_at hl 2 rfl) ?_
    refine va_get (D := (dC, dI)) (ci := 8) (v := .ref m1) (C := RX8) (T := TX8) (N := 17) hx hb hts hiX8 hown hK hP 0 rfl rfl 1 (by decide) (hts (.fieldLink RX8 9 "MadeItSoModel" "isSeen" "[Z") (by decide +kernel)) (fun _ h9 => h9) rfl dX8_seen_14 ?_
    refine lv_iload_n hx hb dX8_seen_17 rfl (lv_at hl 0 rfl) ?_
    refine va_zald hx hb hK hP 1 2 rfl rfl (vp_in_nI (by omega) (by omega)) dX8_seen_18 ?_
    refine lv_topi (fun v_18 ev_18 => ?_)
    refine lv_if_eq (tgt := 28) hx hb dX8_seen_19 (by decide) (fun c_19 => ?_) (fun c_19 => ?_)
    · skip
      refine lv_iconst (v := 0) hx hb dX8_seen_28 (by decide +kernel) ?_
      refine lv_ior hx hb dX8_seen_29 ?_
      refine lv_topi (fun v_29 ev_29 => ?_)
      refine lv_istore_n (lv' := [(1, .int v_29), (2, .int (nI i_4)), (0, .ref mo)]) hx hb dX8_seen_30 rfl hl (by decide) rfl (fun ls hl => ?_)
      refine lv_iinc (v := (nI (i_4 + 1))) (lv' := [(2, .int (nI (i_4 + 1))), (1, .int v_29), (0, .ref mo)]) hx hb dX8_seen_31 hl (k := 1) rfl (nI_1 _) (by decide) rfl (fun ls hl => ?_)
      refine lv_goto (tgt := 4) hx hb dX8_seen_34 (by decide) ?_
      exact ih_4 _ (by omega) _ _ _ ⟨(i_4 + 1), v_29, by omega, rfl, hS, lv_sub hl [0, 1, 2] rfl, rfl⟩
    · skip
      refine lv_iconst (v := 1) hx hb dX8_seen_22 (by decide +kernel) ?_
      refine lv_iload_n hx hb dX8_seen_23 rfl (lv_at hl 0 rfl) ?_
      refine lv_ishl hx hb dX8_seen_24 ?_
      refine mz_ti (y := (nI (2 ^ i_4))) (mz_sh1 (by omega)) ?_
      refine lv_goto (tgt := 29) hx hb dX8_seen_25 (by decide) ?_
      refine lv_ior hx hb dX8_seen_29 ?_
      refine lv_topi (fun v_29 ev_29 => ?_)
      refine lv_istore_n (lv' := [(1, .int v_29), (2, .int (nI i_4)), (0, .ref mo)]) hx hb dX8_seen_30 rfl hl (by decide) rfl (fun ls hl => ?_)
      refine lv_iinc (v := (nI (i_4 + 1))) (lv' := [(2, .int (nI (i_4 + 1))), (1, .int v_29), (0, .ref mo)]) hx hb dX8_seen_31 hl (k := 1) rfl (nI_1 _) (by decide) rfl (fun ls hl => ?_)
      refine lv_goto (tgt := 4) hx hb dX8_seen_34 (by decide) ?_
      exact ih_4 _ (by omega) _ _ _ ⟨(i_4 + 1), v_29, by omega, rfl, hS, lv_sub hl [0, 1, 2] rfl, rfl⟩
set_option maxHeartbeats 1000000 in
set_option maxRecDepth 100000 in
theorem mz_m_withOne (l : Launch) (dC : Nat → ClassId) (dI : Nat → Nat → Nat) (cI cJ cZ : ClassId) (p0 : Int32) (p1 : Int32) (p2 : Int32) (Hq : Heap)  : Met l yX8_withOne wsX8_withOne ({ frames := 0, cells := 0, slots := 0, locals := 0 }) (va_Pc [.int p0, .int p1, .int p2] (fun U => U.heap = Hq ∧ va_P (dC, dI) vwCl [] Hq ∧ va_K (dC, dI) vwCl [(cI, FieldType.int), (cJ, FieldType.long), (cZ, FieldType.boolean)] U ∧ mz_N U)) (va_Qi (fun (r : Int32) (_ : Unit) => True) (fun _ t => t.heap = Hq) (fun _ : Nat => False)) 0 0 (fun _ : Nat => False) := by
  refine Met.ofW (cc := cX8_withOne) (maxL := 3) (ret := (some .int)) (by decide) rfl ?_
  intro p e s m args below meth c s₁ B hml hv
  obtain ⟨rfl, hH, hP, hK, hN⟩ := hv
  subst hH
  have hx := B.exec
  have hb := B.bytes
  have hr := B.returns
  have hts := atoms_spec (ws := wsX8_withOne) B.pre
  have hown : s.vm.findClass RX8 = some m.cls := findClass_of_methodNamed B.named
  have hlocks := B.notSynchronized
  have hS : va_S (fun _ : Nat => False) s.heap s.heap [] := va_S.rf
  have hl := lv_entry ([.int p0, .int p1, .int p2]) (n := 3) (Nat.le_of_ble_eq_true rfl)
  rw [lg_entry_eq]
  generalize (lg_sl ([.int p0, .int p1, .int p2]) ++ List.replicate (3 - (lg_sl ([.int p0, .int p1, .int p2])).length) Slot.unset).toArray = ls at hl ⊢
  have hl : lv_has ls 3 [(0, .int p0), (1, .int p1), (2, .int p2)] := hl
  refine lv_iload_n hx hb dX8_withOne_0 rfl (lv_at hl 0 rfl) ?_
  refine lv_iconst (v := 1) hx hb dX8_withOne_1 (by decide +kernel) ?_
  refine lv_iload_n hx hb dX8_withOne_2 rfl (lv_at hl 1 rfl) ?_
  refine lv_ishl hx hb dX8_withOne_3 ?_
  refine lv_topi (fun v_3 ev_3 => ?_)
  refine lv_ior hx hb dX8_withOne_4 ?_
  refine lv_topi (fun v_4 ev_4 => ?_)
  refine lv_iload_n hx hb dX8_withOne_5 rfl (lv_at hl 2 rfl) ?_
  refine lv_bipush (v := 8) hx hb dX8_withOne_6 (by decide +kernel) ?_
  refine lv_iload_n hx hb dX8_withOne_8 rfl (lv_at hl 1 rfl) ?_
  refine lv_iadd hx hb dX8_withOne_9 ?_
  refine lv_topi (fun v_9 ev_9 => ?_)
  refine lv_ishl hx hb dX8_withOne_10 ?_
  refine lv_topi (fun v_10 ev_10 => ?_)
  refine lv_ior hx hb dX8_withOne_11 ?_
  refine lv_topi (fun v_11 ev_11 => ?_)
  refine W.widen (k := 0) (n := 0) (Nat.le_of_ble_eq_true rfl) (Nat.le_of_ble_eq_true rfl) ?_
  exact W.iret (v := v_11) hx hb hr (fun t ht hW => ⟨⟨v_11, (), rfl, trivial, ht⟩, hS.F ht⟩) hS.2.2 dX8_withOne_12
set_option maxHeartbeats 1000000 in
set_option maxRecDepth 100000 in
theorem mz_m_most (l : Launch) (dC : Nat → ClassId) (dI : Nat → Nat → Nat) (cI cJ cZ : ClassId) (p0 : Int64) (p1 : Int64) (Hq : Heap)  : Met l yX8_most wsX8_most ({ frames := 0, cells := 0, slots := 0, locals := 0 }) (va_Pc [.long p0, .long p1] (fun U => U.heap = Hq ∧ va_P (dC, dI) vwCl [] Hq ∧ va_K (dC, dI) vwCl [(cI, FieldType.int), (cJ, FieldType.long), (cZ, FieldType.boolean)] U ∧ mz_N U)) (va_Ql (fun (r : Int64) (_ : Unit) => True) (fun _ t => t.heap = Hq) (fun _ : Nat => False)) 0 0 (fun _ : Nat => False) := by
  refine Met.ofW (cc := cX8_most) (maxL := 4) (ret := (some .long)) (by decide) rfl ?_
  intro p e s m args below meth c s₁ B hml hv
  obtain ⟨rfl, hH, hP, hK, hN⟩ := hv
  subst hH
  have hx := B.exec
  have hb := B.bytes
  have hr := B.returns
  have hts := atoms_spec (ws := wsX8_most) B.pre
  have hown : s.vm.findClass RX8 = some m.cls := findClass_of_methodNamed B.named
  have hlocks := B.notSynchronized
  have hS : va_S (fun _ : Nat => False) s.heap s.heap [] := va_S.rf
  have hl := lv_entry ([.long p0, .long p1]) (n := 4) (Nat.le_of_ble_eq_true rfl)
  rw [lg_entry_eq]
  generalize (lg_sl ([.long p0, .long p1]) ++ List.replicate (4 - (lg_sl ([.long p0, .long p1])).length) Slot.unset).toArray = ls at hl ⊢
  have hl : lv_has ls 4 [(0, .long p0), (2, .long p1)] := hl
  refine lv_lload_n hx hb dX8_most_0 rfl (lv_at hl 0 rfl) ?_
  refine lv_lload_n hx hb dX8_most_1 rfl (lv_at hl 1 rfl) ?_
  refine W.lcmp hx hb dX8_most_2 ?_
  refine lv_if_le (tgt := 10) hx hb dX8_most_3 (by decide) (fun c_3 => ?_) (fun c_3 => ?_)
  · skip
    refine lv_lload_n hx hb dX8_most_10 rfl (lv_at hl 1 rfl) ?_
    refine W.widen (k := 0) (n := 0) (Nat.le_of_ble_eq_true rfl) (Nat.le_of_ble_eq_true rfl) ?_
    exact W.lret (v := p1) hx hb hr (fun t ht hW => ⟨⟨p1, (), rfl, trivial, ht⟩, hS.F ht⟩) hS.2.2 dX8_most_11
  · skip
    refine lv_lload_n hx hb dX8_most_6 rfl (lv_at hl 0 rfl) ?_
    refine lv_goto (tgt := 11) hx hb dX8_most_7 (by decide) ?_
    refine W.widen (k := 0) (n := 0) (Nat.le_of_ble_eq_true rfl) (Nat.le_of_ble_eq_true rfl) ?_
    exact W.lret (v := p0) hx hb hr (fun t ht hW => ⟨⟨p0, (), rfl, trivial, ht⟩, hS.F ht⟩) hS.2.2 dX8_most_11
set_option maxHeartbeats 1000000 in
set_option maxRecDepth 100000 in
theorem mz_m_lesser (l : Launch) (dC : Nat → ClassId) (dI : Nat → Nat → Nat) (cI cJ cZ : ClassId) (p0 : Int64) (p1 : Int64) (Hq : Heap)  : Met l yX8_lesser wsX8_lesser ({ frames := 0, cells := 0, slots := 0, locals := 0 }) (va_Pc [.long p0, .long p1] (fun U => U.heap = Hq ∧ va_P (dC, dI) vwCl [] Hq ∧ va_K (dC, dI) vwCl [(cI, FieldType.int), (cJ, FieldType.long), (cZ, FieldType.boolean)] U ∧ mz_N U)) (va_Ql (fun (r : Int64) (_ : Unit) => True) (fun _ t => t.heap = Hq) (fun _ : Nat => False)) 0 0 (fun _ : Nat => False) := by
  refine Met.ofW (cc := cX8_lesser) (maxL := 4) (ret := (some .long)) (by decide) rfl ?_
  intro p e s m args below meth c s₁ B hml hv
  obtain ⟨rfl, hH, hP, hK, hN⟩ := hv
  subst hH
  have hx := B.exec
  have hb := B.bytes
  have hr := B.returns
  have hts := atoms_spec (ws := wsX8_lesser) B.pre
  have hown : s.vm.findClass RX8 = some m.cls := findClass_of_methodNamed B.named
  have hlocks := B.notSynchronized
  have hS : va_S (fun _ : Nat => False) s.heap s.heap [] := va_S.rf
  have hl := lv_entry ([.long p0, .long p1]) (n := 4) (Nat.le_of_ble_eq_true rfl)
  rw [lg_entry_eq]
  generalize (lg_sl ([.long p0, .long p1]) ++ List.replicate (4 - (lg_sl ([.long p0, .long p1])).length) Slot.unset).toArray = ls at hl ⊢
  have hl : lv_has ls 4 [(0, .long p0), (2, .long p1)] := hl
  refine lv_lload_n hx hb dX8_lesser_0 rfl (lv_at hl 0 rfl) ?_
  refine lv_lload_n hx hb dX8_lesser_1 rfl (lv_at hl 1 rfl) ?_
  refine W.lcmp hx hb dX8_lesser_2 ?_
  refine lv_if_ge (tgt := 10) hx hb dX8_lesser_3 (by decide) (fun c_3 => ?_) (fun c_3 => ?_)
  · skip
    refine lv_lload_n hx hb dX8_lesser_10 rfl (lv_at hl 1 rfl) ?_
    refine W.widen (k := 0) (n := 0) (Nat.le_of_ble_eq_true rfl) (Nat.le_of_ble_eq_true rfl) ?_
    exact W.lret (v := p1) hx hb hr (fun t ht hW => ⟨⟨p1, (), rfl, trivial, ht⟩, hS.F ht⟩) hS.2.2 dX8_lesser_11
  · skip
    refine lv_lload_n hx hb dX8_lesser_6 rfl (lv_at hl 0 rfl) ?_
    refine lv_goto (tgt := 11) hx hb dX8_lesser_7 (by decide) ?_
    refine W.widen (k := 0) (n := 0) (Nat.le_of_ble_eq_true rfl) (Nat.le_of_ble_eq_true rfl) ?_
    exact W.lret (v := p0) hx hb hr (fun t ht hW => ⟨⟨p0, (), rfl, trivial, ht⟩, hS.F ht⟩) hS.2.2 dX8_lesser_11
set_option maxHeartbeats 1000000 in
set_option maxRecDepth 100000 in
theorem mz_m_isArrow (l : Launch) (dC : Nat → ClassId) (dI : Nat → Nat → Nat) (cI cJ cZ : ClassId) (mo : Nat) (m1 : Nat) (m2 : Nat) (m3 : Nat) (m6 : Nat) (m7 : Nat) (m8 : Nat) (m9 : Nat) (m10 : Nat) (m11 : Nat) (m12 : Nat) (m13 : Nat) (m14 : Nat) (m15 : Nat) (m16 : Nat) (n : Nat) (ka : Int64) (kb : Int64) (fp : Nat → Int32) (j : Nat) (p0 : Int32) (p2 : Int32) (p3 : Int32) (Hq : Heap) (hj : j < 8) : Met l yX8_isArrow wsX8_isArrow ({ frames := 1, cells := 0, slots := 0, locals := 23 }) (va_Pc [.ref mo, .int p0, .int (nI j), .int p2, .int p3] (fun U => U.heap = Hq ∧ va_P (dC, dI) vwCl [(mo, .inr (8, [.int (nI n), .ref m1, .ref m2, .ref m3, .long ka, .long kb, .ref m6, .ref m7, .ref m8, .ref m9, .ref m10, .ref m11, .ref m12, .ref m13, .ref m14, .ref m15, .ref m16])), (m2, .inl (cI, 8, .inl fp))] Hq ∧ va_K (dC, dI) vwCl [(cI, FieldType.int), (cJ, FieldType.long), (cZ, FieldType.boolean)] U ∧ mz_N U)) (va_Qi (fun (r : Int32) (_ : Unit) => r = 0 ∨ r = 1) (fun _ t => t.heap = Hq) (fun _ : Nat => False)) 0 0 (fun _ : Nat => False) := by
  refine Met.ofW (cc := cX8_isArrow) (maxL := 5) (ret := (some .boolean)) (by decide) rfl ?_
  intro p e s m args below meth c s₁ B hml hv
  obtain ⟨rfl, hH, hP, hK, hN⟩ := hv
  subst hH
  have hx := B.exec
  have hb := B.bytes
  have hr := B.returns
  have hts := atoms_spec (ws := wsX8_isArrow) B.pre
  have hown : s.vm.findClass RX8 = some m.cls := findClass_of_methodNamed B.named
  have hlocks := B.notSynchronized
  have hS : va_S (fun _ : Nat => False) s.heap s.heap [] := va_S.rf
  have hl := lv_entry ([.ref mo, .int p0, .int (nI j), .int p2, .int p3]) (n := 5) (Nat.le_of_ble_eq_true rfl)
  rw [lg_entry_eq]
  generalize (lg_sl ([.ref mo, .int p0, .int (nI j), .int p2, .int p3]) ++ List.replicate (5 - (lg_sl ([.ref mo, .int p0, .int (nI j), .int p2, .int p3])).length) Slot.unset).toArray = ls at hl ⊢
  have hl : lv_has ls 5 [(0, .ref mo), (1, .int p0), (2, .int (nI j)), (3, .int p2), (4, .int p3)] := hl
  refine lv_aload_n hx hb dX8_isArrow_0 rfl (lv_at hl 0 rfl) ?_
  refine lv_iload_n hx hb dX8_isArrow_1 rfl (lv_at hl 2 rfl) ?_
  refine lv_iload_n hx hb dX8_isArrow_2 rfl (lv_at hl 3 rfl) ?_
  refine lv_iload hx hb dX8_isArrow_3 (lv_at hl 4 rfl) ?_
  have hPc := hP.sub (ws' := [(mo, .inr (8, [.int (nI n), .ref m1, .ref m2, .ref m3, .long ka, .long kb, .ref m6, .ref m7, .ref m8, .ref m9, .ref m10, .ref m11, .ref m12, .ref m13, .ref m14, .ref m15, .ref m16])), (m2, .inl (cI, 8, .inl fp))]) [0, 1] rfl
  refine va_calli (va_runV (As := [.int (nI j), .int p2, .int p3]) (rest := []) ⟨hx, hb, hml, hown, hts⟩ (mz_m_pw l dC dI cI cJ cZ mo m1 m2 m3 m6 m7 m8 m9 m10 m11 m12 m13 m14 m15 m16 n ka kb fp j p2 p3 s.heap (by first | assumption | omega)) (cwV 3 hts gX8_isArrow_X8_parentsWithout rfl rfl rfl (by decide +kernel) ⟨Nat.le_of_ble_eq_true rfl, Nat.le_of_ble_eq_true rfl⟩) ⟨fun a U g mk q => mz_blP q, va_recv hK hPc (ci := 8) (q0 := 0) rfl rfl, fun U hU hW => ⟨rfl, hU, hPc, va_K.moved hW.alike hK, mz_nw hW hN⟩⟩ rfl rfl hl.1 rfl (lv_room (Nat.le_of_ble_eq_true rfl)) dX8_isArrow_5 ⟨Nat.le_of_ble_eq_true rfl, Nat.le_of_ble_eq_true rfl⟩) hS (fun q _ h => h.elim) (fun q h => h.elim) (fun r_5 u t H1 locs ht hvm hw_5 hB hz1 hk1 hS => ?_)
  have hE : s.heap = H1 := hB.symm.trans ht
  subst hE
  refine lv_iload_n hx hb dX8_isArrow_8 rfl (lv_at hl 1 rfl) ?_
  refine lv_ishr hx hb dX8_isArrow_9 ?_
  refine lv_topi (fun v_9 ev_9 => ?_)
  refine lv_iconst (v := 1) hx hb dX8_isArrow_10 (by decide +kernel) ?_
  refine lv_iand hx hb dX8_isArrow_11 ?_
  refine lv_topi (fun v_11 ev_11 => ?_)
  refine lv_iconst (v := 1) hx hb dX8_isArrow_12 (by decide +kernel) ?_
  refine lv_icmp_ne (tgt := 20) hx hb dX8_isArrow_13 (by decide) (fun c_13 => ?_) (fun c_13 => ?_)
  · skip
    refine lv_iconst (v := 0) hx hb dX8_isArrow_20 (by decide +kernel) ?_
    refine W.widen (k := 0) (n := 0) (Nat.le_of_ble_eq_true rfl) (Nat.le_of_ble_eq_true rfl) ?_
    exact W.zret (v := 0) hx hb hr (mz_nz (by decide +kernel)) (fun t ht hW => ⟨⟨0, (), rfl, Or.inl rfl, ht⟩, hS.F ht⟩) hS.2.2 dX8_isArrow_21
  · skip
    refine lv_iconst (v := 1) hx hb dX8_isArrow_16 (by decide +kernel) ?_
    refine lv_goto (tgt := 21) hx hb dX8_isArrow_17 (by decide) ?_
    refine W.widen (k := 0) (n := 0) (Nat.le_of_ble_eq_true rfl) (Nat.le_of_ble_eq_true rfl) ?_
    exact W.zret (v := 1) hx hb hr (mz_nz (by decide +kernel)) (fun t ht hW => ⟨⟨1, (), rfl, Or.inr rfl, ht⟩, hS.F ht⟩) hS.2.2 dX8_isArrow_21
set_option maxHeartbeats 1000000 in
set_option maxRecDepth 100000 in
theorem mz_m_isLeast (l : Launch) (dC : Nat → ClassId) (dI : Nat → Nat → Nat) (cI cJ cZ : ClassId) (mo : Nat) (m1 : Nat) (m2 : Nat) (m3 : Nat) (m6 : Nat) (m7 : Nat) (m8 : Nat) (m9 : Nat) (m10 : Nat) (m11 : Nat) (m12 : Nat) (m13 : Nat) (m14 : Nat) (m15 : Nat) (m16 : Nat) (n : Nat) (ka : Int64) (kb : Int64) (fr : Nat → Int32) (z : Nat) (Hq : Heap) (hz : z < 256) : Met l yX8_isLeast wsX8_isLeast ({ frames := 0, cells := 0, slots := 0, locals := 0 }) (va_Pc [.ref mo, .int (nI z)] (fun U => U.heap = Hq ∧ va_P (dC, dI) vwCl [(mo, .inr (8, [.int (nI n), .ref m1, .ref m2, .ref m3, .long ka, .long kb, .ref m6, .ref m7, .ref m8, .ref m9, .ref m10, .ref m11, .ref m12, .ref m13, .ref m14, .ref m15, .ref m16])), (m8, .inl (cZ, 256, .inl fr))] Hq ∧ va_K (dC, dI) vwCl [(cI, FieldType.int), (cJ, FieldType.long), (cZ, FieldType.boolean)] U ∧ mz_N U)) (va_Qi (fun (r : Int32) (_ : Unit) => r = 0 ∨ r = 1) (fun _ t => t.heap = Hq) (fun _ : Nat => False)) 0 0 (fun _ : Nat => False) := by
  refine Met.ofW (cc := cX8_isLeast) (maxL := 3) (ret := (some .boolean)) (by decide) rfl ?_
  intro p e s m args below meth c s₁ B hml hv
  obtain ⟨rfl, hH, hP, hK, hN⟩ := hv
  subst hH
  have hx := B.exec
  have hb := B.bytes
  have hr := B.returns
  have hts := atoms_spec (ws := wsX8_isLeast) B.pre
  have hown : s.vm.findClass RX8 = some m.cls := findClass_of_methodNamed B.named
  have hlocks := B.notSynchronized
  have hS : va_S (fun _ : Nat => False) s.heap s.heap [] := va_S.rf
  have hiX8 : ∀ w ∈ u_ws RX8 TX8 17, w ∈ wsX8_isLeast := by decide +kernel
  have hl := lv_entry ([.ref mo, .int (nI z)]) (n := 3) (Nat.le_of_ble_eq_true rfl)
  rw [lg_entry_eq]
  generalize (lg_sl ([.ref mo, .int (nI z)]) ++ List.replicate (3 - (lg_sl ([.ref mo, .int (nI z)])).length) Slot.unset).toArray = ls at hl ⊢
  have hl : lv_has ls 3 [(0, .ref mo), (1, .int (nI z))] := hl
  refine lv_aload_n hx hb dX8_isLeast_0 rfl (lv_at hl 0 rfl) ?_
  refine va_get (D := (dC, dI)) (ci := 8) (v := .ref m8) (C := RX8) (T := TX8) (N := 17) hx hb hts hiX8 hown hK hP 0 rfl rfl 8 (by decide) (hts (.fieldLink RX8 30 "MadeItSoModel" "isBarring" "[Z") (by decide +kernel)) (fun _ h9 => h9) rfl dX8_isLeast_1 ?_
  refine lv_iload_n hx hb dX8_isLeast_4 rfl (lv_at hl 1 rfl) ?_
  refine va_zald hx hb hK hP 1 2 rfl rfl (vp_in_nI (by omega) (by omega)) dX8_isLeast_5 ?_
  refine lv_topi (fun v_5 ev_5 => ?_)
  refine lv_if_ne (tgt := 11) hx hb dX8_isLeast_6 (by decide) (fun c_6 => ?_) (fun c_6 => ?_)
  · skip
    refine lv_iconst (v := 0) hx hb dX8_isLeast_11 (by decide +kernel) ?_
    refine lv_istore_n (lv' := [(2, .int 0), (0, .ref mo), (1, .int (nI z))]) hx hb dX8_isLeast_12 rfl hl (by decide) rfl (fun ls hl => ?_)
    refine mz_loopU (fun k H locs ls => ∃ (i_13 : Nat), i_13 ≤ z ∧ H = s.heap ∧ va_S (fun _ : Nat => False) s.heap H locs ∧ lv_has ls 3 [(2, .int (nI i_13)), (0, .ref mo), (1, .int (nI z))] ∧ k = z - i_13) ?_ _ _ _ _ ⟨0, by omega, rfl, hS, lv_sub hl [0, 1, 2] rfl, rfl⟩
    intro k_13 H locs ls hI_13 ih_13
    obtain ⟨i_13, hi_13, hH_13, hS, hl, hk_13⟩ := hI_13
    subst hH_13
    refine lv_iload_n hx hb dX8_isLeast_13 rfl (lv_at hl 0 rfl) ?_
    refine lv_iload_n hx hb dX8_isLeast_14 rfl (lv_at hl 2 rfl) ?_
    refine lv_icmp_ge (tgt := 42) hx hb dX8_isLeast_15 (by decide) (fun c_15 => ?_) (fun c_15 => ?_)
    · skip
      have d_15 : z ≤ i_13 := (nI_leI (a := z) (b := i_13) (by omega) (by omega)).mp c_15
      refine lv_iconst (v := 1) hx hb dX8_isLeast_42 (by decide +kernel) ?_
      refine W.widen (k := 0) (n := 0) (Nat.le_of_ble_eq_true rfl) (Nat.le_of_ble_eq_true rfl) ?_
      exact W.zret (v := 1) hx hb hr (mz_nz (by decide +kernel)) (fun t ht hW => ⟨⟨1, (), rfl, Or.inr rfl, ht⟩, hS.F ht⟩) hS.2.2 dX8_isLeast_43
    · skip
      have d_15 : ¬ z ≤ i_13 := fun h => c_15 ((nI_leI (a := z) (b := i_13) (by omega) (by omega)).mpr h)
      refine lv_iload_n hx hb dX8_isLeast_18 rfl (lv_at hl 0 rfl) ?_
      refine lv_iload_n hx hb dX8_isLeast_19 rfl (lv_at hl 2 rfl) ?_
      refine lv_iand hx hb dX8_isLeast_20 ?_
      refine lv_topi (fun v_20 ev_20 => ?_)
      refine lv_iload_n hx hb dX8_isLeast_21 rfl (lv_at hl 0 rfl) ?_
      refine lv_icmp_ne (tgt := 36) hx hb dX8_isLeast_22 (by decide) (fun c_22 => ?_) (fun c_22 => ?_)
      · skip
        refine lv_iinc (v := (nI (i_13 + 1))) (lv' := [(2, .int (nI (i_13 + 1))), (0, .ref mo), (1, .int (nI z))]) hx hb dX8_isLeast_36 hl (k := 0) rfl (nI_1 _) (by decide) rfl (fun ls hl => ?_)
        refine lv_goto (tgt := 13) hx hb dX8_isLeast_39 (by decide) ?_
        exact ih_13 _ (by omega) _ _ _ ⟨(i_13 + 1), by omega, rfl, hS, lv_sub hl [0, 1, 2] rfl, rfl⟩
      · skip
        refine lv_aload_n hx hb dX8_isLeast_25 rfl (lv_at hl 1 rfl) ?_
        refine va_get (D := (dC, dI)) (ci := 8) (v := .ref m8) (C := RX8) (T := TX8) (N := 17) hx hb hts hiX8 hown hK hP 0 rfl rfl 8 (by decide) (hts (.fieldLink RX8 30 "MadeItSoModel" "isBarring" "[Z") (by decide +kernel)) (fun _ h9 => h9) rfl dX8_isLeast_26 ?_
        refine lv_iload_n hx hb dX8_isLeast_29 rfl (lv_at hl 0 rfl) ?_
        refine va_zald hx hb hK hP 1 2 rfl rfl (vp_in_nI (by omega) (by omega)) dX8_isLeast_30 ?_
        refine lv_topi (fun v_30 ev_30 => ?_)
        refine lv_if_eq (tgt := 36) hx hb dX8_isLeast_31 (by decide) (fun c_31 => ?_) (fun c_31 => ?_)
        · skip
          refine lv_iinc (v := (nI (i_13 + 1))) (lv' := [(2, .int (nI (i_13 + 1))), (0, .ref mo), (1, .int (nI z))]) hx hb dX8_isLeast_36 hl (k := 0) rfl (nI_1 _) (by decide) rfl (fun ls hl => ?_)
          refine lv_goto (tgt := 13) hx hb dX8_isLeast_39 (by decide) ?_
          exact ih_13 _ (by omega) _ _ _ ⟨(i_13 + 1), by omega, rfl, hS, lv_sub hl [0, 1, 2] rfl, rfl⟩
        · skip
          refine lv_iconst (v := 0) hx hb dX8_isLeast_34 (by decide +kernel) ?_
          refine W.widen (k := 0) (n := 0) (Nat.le_of_ble_eq_true rfl) (Nat.le_of_ble_eq_true rfl) ?_
          exact W.zret (v := 0) hx hb hr (mz_nz (by decide +kernel)) (fun t ht hW => ⟨⟨0, (), rfl, Or.inl rfl, ht⟩, hS.F ht⟩) hS.2.2 dX8_isLeast_35
  · skip
    refine lv_iconst (v := 0) hx hb dX8_isLeast_9 (by decide +kernel) ?_
    refine W.widen (k := 0) (n := 0) (Nat.le_of_ble_eq_true rfl) (Nat.le_of_ble_eq_true rfl) ?_
    exact W.zret (v := 0) hx hb hr (mz_nz (by decide +kernel)) (fun t ht hW => ⟨⟨0, (), rfl, Or.inl rfl, ht⟩, hS.F ht⟩) hS.2.2 dX8_isLeast_10
set_option maxHeartbeats 1000000 in
set_option maxRecDepth 100000 in
theorem mz_m_times_up (l : Launch) (dC : Nat → ClassId) (dI : Nat → Nat → Nat) (cI cJ cZ : ClassId) (mo : Nat) (m1 : Nat) (m2 : Nat) (m3 : Nat) (m6 : Nat) (m7 : Nat) (m8 : Nat) (m9 : Nat) (m10 : Nat) (m11 : Nat) (m12 : Nat) (m13 : Nat) (m14 : Nat) (m15 : Nat) (m16 : Nat) (n : Nat) (ka : Int64) (kb : Int64) (fh : Nat → Int64) (fu : Nat → Int64) (p2 : Int64) (sz : Nat)  : Met l yX8_times wsX8_times ({ frames := 0, cells := 0, slots := 0, locals := 0 }) (va_Pc [.ref mo, .ref m9, .long p2] (fun U => U.heap.size = sz ∧ va_P (dC, dI) vwCl [(mo, .inr (8, [.int (nI n), .ref m1, .ref m2, .ref m3, .long ka, .long kb, .ref m6, .ref m7, .ref m8, .ref m9, .ref m10, .ref m11, .ref m12, .ref m13, .ref m14, .ref m15, .ref m16])), (m11, .inl (cJ, 200, .inr (.inl fh))), (m9, .inl (cJ, 200, .inr (.inl fu)))] U.heap ∧ va_K (dC, dI) vwCl [(cI, FieldType.int), (cJ, FieldType.long), (cZ, FieldType.boolean)] U ∧ va_D (fun _ => True) [(mo, .inr (8, [.int (nI n), .ref m1, .ref m2, .ref m3, .long ka, .long kb, .ref m6, .ref m7, .ref m8, .ref m9, .ref m10, .ref m11, .ref m12, .ref m13, .ref m14, .ref m15, .ref m16])), (m11, .inl (cJ, 200, .inr (.inl fh))), (m9, .inl (cJ, 200, .inr (.inl fu)))] ∧ mz_N U)) (va_Qv (fun (_ : Unit) => True) (fun _ t => ∃ (gh : Nat → Int64), va_P (dC, dI) vwCl [(mo, .inr (8, [.int (nI n), .ref m1, .ref m2, .ref m3, .long ka, .long kb, .ref m6, .ref m7, .ref m8, .ref m9, .ref m10, .ref m11, .ref m12, .ref m13, .ref m14, .ref m15, .ref m16])), (m11, .inl (cJ, 200, .inr (.inl gh))), (m9, .inl (cJ, 200, .inr (.inl fu)))] t.heap ∧ va_D (va_A [(mo, .inr (8, [.int (nI n), .ref m1, .ref m2, .ref m3, .long ka, .long kb, .ref m6, .ref m7, .ref m8, .ref m9, .ref m10, .ref m11, .ref m12, .ref m13, .ref m14, .ref m15, .ref m16])), (m11, .inl (cJ, 200, .inr (.inl fh))), (m9, .inl (cJ, 200, .inr (.inl fu)))] sz) [(mo, .inr (8, [.int (nI n), .ref m1, .ref m2, .ref m3, .long ka, .long kb, .ref m6, .ref m7, .ref m8, .ref m9, .ref m10, .ref m11, .ref m12, .ref m13, .ref m14, .ref m15, .ref m16])), (m11, .inl (cJ, 200, .inr (.inl gh))), (m9, .inl (cJ, 200, .inr (.inl fu)))]) (va_A [(mo, .inr (8, [.int (nI n), .ref m1, .ref m2, .ref m3, .long ka, .long kb, .ref m6, .ref m7, .ref m8, .ref m9, .ref m10, .ref m11, .ref m12, .ref m13, .ref m14, .ref m15, .ref m16])), (m11, .inl (cJ, 200, .inr (.inl fh))), (m9, .inl (cJ, 200, .inr (.inl fu)))] sz)) 0 0 (va_A [(mo, .inr (8, [.int (nI n), .ref m1, .ref m2, .ref m3, .long ka, .long kb, .ref m6, .ref m7, .ref m8, .ref m9, .ref m10, .ref m11, .ref m12, .ref m13, .ref m14, .ref m15, .ref m16])), (m11, .inl (cJ, 200, .inr (.inl fh))), (m9, .inl (cJ, 200, .inr (.inl fu)))] sz) := by
  refine Met.ofW (cc := cX8_times) (maxL := 12) (ret := none) (by decide) rfl ?_
  intro p e s m args below meth c s₁ B hml hv
  obtain ⟨rfl, hsz, hP, hK, hD0, hN⟩ := hv
  subst hsz
  have hx := B.exec
  have hb := B.bytes
  have hr := B.returns
  have hts := atoms_spec (ws := wsX8_times) B.pre
  have hown : s.vm.findClass RX8 = some m.cls := findClass_of_methodNamed B.named
  have hlocks := B.notSynchronized
  have hD := hD0.self (sz := s.heap.size)
  generalize hAe : va_A [(mo, .inr (8, [.int (nI n), .ref m1, .ref m2, .ref m3, .long ka, .long kb, .ref m6, .ref m7, .ref m8, .ref m9, .ref m10, .ref m11, .ref m12, .ref m13, .ref m14, .ref m15, .ref m16])), (m11, .inl (cJ, 200, .inr (.inl fh))), (m9, .inl (cJ, 200, .inr (.inl fu)))] s.heap.size = A at hD ⊢
  have hA : ∀ q : Nat, s.heap.size ≤ q → A q := fun q h => by rw [← hAe]; exact Or.inr h
  have hS : va_S A s.heap s.heap [] := va_S.rf
  have hiX8 : ∀ w ∈ u_ws RX8 TX8 17, w ∈ wsX8_times := by decide +kernel
  have hl := lv_entry ([.ref mo, .ref m9, .long p2]) (n := 12) (Nat.le_of_ble_eq_true rfl)
  rw [lg_entry_eq]
  generalize (lg_sl ([.ref mo, .ref m9, .long p2]) ++ List.replicate (12 - (lg_sl ([.ref mo, .ref m9, .long p2])).length) Slot.unset).toArray = ls at hl ⊢
  have hl : lv_has ls 12 [(0, .ref mo), (1, .ref m9), (2, .long p2)] := hl
  refine lv_iconst (v := 0) hx hb dX8_times_0 (by decide +kernel) ?_
  refine lv_istore (lv' := [(4, .int 0), (0, .ref mo), (1, .ref m9), (2, .long p2)]) hx hb dX8_times_1 hl (by decide) rfl (fun ls hl => ?_)
  refine mz_loopU (fun k H locs ls => ∃ (i_3 : Nat), ∃ (fm11_3 : Nat → Int64), i_3 ≤ 200 ∧ va_P (dC, dI) vwCl [(mo, .inr (8, [.int (nI n), .ref m1, .ref m2, .ref m3, .long ka, .long kb, .ref m6, .ref m7, .ref m8, .ref m9, .ref m10, .ref m11, .ref m12, .ref m13, .ref m14, .ref m15, .ref m16])), (m11, .inl (cJ, 200, .inr (.inl fm11_3))), (m9, .inl (cJ, 200, .inr (.inl fu)))] H ∧ va_D A [(mo, .inr (8, [.int (nI n), .ref m1, .ref m2, .ref m3, .long ka, .long kb, .ref m6, .ref m7, .ref m8, .ref m9, .ref m10, .ref m11, .ref m12, .ref m13, .ref m14, .ref m15, .ref m16])), (m11, .inl (cJ, 200, .inr (.inl fm11_3))), (m9, .inl (cJ, 200, .inr (.inl fu)))] ∧ va_S A s.heap H locs ∧ lv_has ls 12 [(4, .int (nI i_3)), (0, .ref mo), (1, .ref m9), (2, .long p2)] ∧ k = 200 - i_3) ?_ _ _ _ _ ⟨0, fh, by omega, hP, hD, hS, lv_sub hl [0, 1, 2, 3] rfl, rfl⟩
  intro k_3 H locs ls hI_3 ih_3
  obtain ⟨i_3, fm11_3, hi_3, hP, hD, hS, hl, hk_3⟩ := hI_3
  refine lv_iload hx hb dX8_times_3 (lv_at hl 0 rfl) ?_
  refine lv_sipush (v := 200) hx hb dX8_times_5 (by decide +kernel) ?_
  refine lv_icmp_ge (tgt := 25) hx hb dX8_times_8 (by decide) (fun c_8 => ?_) (fun c_8 => ?_)
  · skip
    have d_8 : 200 ≤ i_3 := (nI_leI (a := 200) (b := i_3) (by omega) (by omega)).mp c_8
    refine lv_iconst (v := 0) hx hb dX8_times_25 (by decide +kernel) ?_
    refine lv_istore (lv' := [(4, .int 0), (0, .ref mo), (1, .ref m9), (2, .long p2)]) hx hb dX8_times_26 hl (by decide) rfl (fun ls hl => ?_)
    refine mz_loopU (fun k H locs ls => ∃ (i_28 : Nat), ∃ (fm11_28 : Nat → Int64), i_28 ≤ 3 ∧ va_P (dC, dI) vwCl [(mo, .inr (8, [.int (nI n), .ref m1, .ref m2, .ref m3, .long ka, .long kb, .ref m6, .ref m7, .ref m8, .ref m9, .ref m10, .ref m11, .ref m12, .ref m13, .ref m14, .ref m15, .ref m16])), (m11, .inl (cJ, 200, .inr (.inl fm11_28))), (m9, .inl (cJ, 200, .inr (.inl fu)))] H ∧ va_D A [(mo, .inr (8, [.int (nI n), .ref m1, .ref m2, .ref m3, .long ka, .long kb, .ref m6, .ref m7, .ref m8, .ref m9, .ref m10, .ref m11, .ref m12, .ref m13, .ref m14, .ref m15, .ref m16])), (m11, .inl (cJ, 200, .inr (.inl fm11_28))), (m9, .inl (cJ, 200, .inr (.inl fu)))] ∧ va_S A s.heap H locs ∧ lv_has ls 12 [(4, .int (nI i_28)), (0, .ref mo), (1, .ref m9), (2, .long p2)] ∧ k = 3 - i_28) ?_ _ _ _ _ ⟨0, fm11_3, by omega, hP, hD, hS, lv_sub hl [0, 1, 2, 3] rfl, rfl⟩
    intro k_28 H locs ls hI_28 ih_28
    obtain ⟨i_28, fm11_28, hi_28, hP, hD, hS, hl, hk_28⟩ := hI_28
    refine lv_iload hx hb dX8_times_28 (lv_at hl 0 rfl) ?_
    refine lv_iconst (v := 3) hx hb dX8_times_30 (by decide +kernel) ?_
    refine lv_icmp_ge (tgt := 122) hx hb dX8_times_31 (by decide) (fun c_31 => ?_) (fun c_31 => ?_)
    · skip
      have d_31 : 3 ≤ i_28 := (nI_leI (a := 3) (b := i_28) (by omega) (by omega)).mp c_31
      have hP9 := hP.sub (ws' := [(mo, .inr (8, [.int (nI n), .ref m1, .ref m2, .ref m3, .long ka, .long kb, .ref m6, .ref m7, .ref m8, .ref m9, .ref m10, .ref m11, .ref m12, .ref m13, .ref m14, .ref m15, .ref m16])), (m11, .inl (cJ, 200, .inr (.inl fm11_28))), (m9, .inl (cJ, 200, .inr (.inl fu)))]) [0, 1, 2] rfl
      have hD9 := hD.sub (ws' := [(mo, .inr (8, [.int (nI n), .ref m1, .ref m2, .ref m3, .long ka, .long kb, .ref m6, .ref m7, .ref m8, .ref m9, .ref m10, .ref m11, .ref m12, .ref m13, .ref m14, .ref m15, .ref m16])), (m11, .inl (cJ, 200, .inr (.inl fm11_28))), (m9, .inl (cJ, 200, .inr (.inl fu)))]) [0, 1, 2] (by decide) rfl
      refine W.widen (k := 0) (n := 0) (Nat.le_of_ble_eq_true rfl) (Nat.le_of_ble_eq_true rfl) ?_
      exact W.vret hx hb hr (fun t ht hW => ⟨⟨(), rfl, trivial, fm11_28, by rw [ht]; exact hP9, hD9⟩, hS.F ht⟩) hS.2.2 dX8_times_122
    · skip
      have d_31 : ¬ 3 ≤ i_28 := fun h => c_31 ((nI_leI (a := 3) (b := i_28) (by omega) (by omega)).mpr h)
      refine lv_lload_n hx hb dX8_times_34 rfl (lv_at hl 3 rfl) ?_
      refine lv_bipush (v := 24) hx hb dX8_times_35 (by decide +kernel) ?_
      refine lv_iload hx hb dX8_times_37 (lv_at hl 0 rfl) ?_
      refine lv_imul hx hb dX8_times_39 ?_
      refine mz_ti (y := (nI (24 * i_28))) (pk_mul _ _) ?_
      refine lv_lshr hx hb dX8_times_40 rfl ?_
      refine lv_topl (fun v_40 ev_40 => ?_)
      refine lv_ldc2 hx hb hown (hts (.constantLong RX8 144 (16777215)) (by decide +kernel)) dX8_times_41 ?_
      refine lv_land hx hb dX8_times_44 ?_
      refine lv_topl (fun v_44 ev_44 => ?_)
      refine lv_lstore (lv' := [(5, .long v_44), (4, .int (nI i_28)), (0, .ref mo), (1, .ref m9), (2, .long p2)]) hx hb dX8_times_45 hl (by decide) rfl (fun ls hl => ?_)
      refine lv_lconst (v := 0) hx hb dX8_times_47 (by decide +kernel) ?_
      refine lv_lstore (lv' := [(7, .long 0), (5, .long v_44), (4, .int (nI i_28)), (0, .ref mo), (1, .ref m9), (2, .long p2)]) hx hb dX8_times_48 hl (by decide) rfl (fun ls hl => ?_)
      refine lv_iconst (v := 0) hx hb dX8_times_50 (by decide +kernel) ?_
      refine lv_istore (lv' := [(9, .int 0), (7, .long 0), (5, .long v_44), (4, .int (nI i_28)), (0, .ref mo), (1, .ref m9), (2, .long p2)]) hx hb dX8_times_51 hl (by decide) rfl (fun ls hl => ?_)
      refine mz_loopU (fun k H locs ls => ∃ (i_53 : Nat), ∃ (x7_53 : Int64), ∃ (fm11_53 : Nat → Int64), i_53 ≤ 200 ∧ va_P (dC, dI) vwCl [(mo, .inr (8, [.int (nI n), .ref m1, .ref m2, .ref m3, .long ka, .long kb, .ref m6, .ref m7, .ref m8, .ref m9, .ref m10, .ref m11, .ref m12, .ref m13, .ref m14, .ref m15, .ref m16])), (m11, .inl (cJ, 200, .inr (.inl fm11_53))), (m9, .inl (cJ, 200, .inr (.inl fu)))] H ∧ va_D A [(mo, .inr (8, [.int (nI n), .ref m1, .ref m2, .ref m3, .long ka, .long kb, .ref m6, .ref m7, .ref m8, .ref m9, .ref m10, .ref m11, .ref m12, .ref m13, .ref m14, .ref m15, .ref m16])), (m11, .inl (cJ, 200, .inr (.inl fm11_53))), (m9, .inl (cJ, 200, .inr (.inl fu)))] ∧ va_S A s.heap H locs ∧ lv_has ls 12 [(9, .int (nI i_53)), (7, .long x7_53), (5, .long v_44), (4, .int (nI i_28)), (0, .ref mo), (1, .ref m9), (2, .long p2)] ∧ k = 200 - i_53) ?_ _ _ _ _ ⟨0, 0, fm11_28, by omega, hP, hD, hS, lv_sub hl [0, 1, 2, 3, 4, 5, 6] rfl, rfl⟩
      intro k_53 H locs ls hI_53 ih_53
      obtain ⟨i_53, x7_53, fm11_53, hi_53, hP, hD, hS, hl, hk_53⟩ := hI_53
      refine lv_iload hx hb dX8_times_53 (lv_at hl 0 rfl) ?_
      refine lv_iload hx hb dX8_times_55 (lv_at hl 3 rfl) ?_
      refine lv_iadd hx hb dX8_times_57 ?_
      refine mz_ti (y := (nI (i_53 + i_28))) (nI_add _ _) ?_
      refine lv_sipush (v := 200) hx hb dX8_times_58 (by decide +kernel) ?_
      refine lv_icmp_ge (tgt := 116) hx hb dX8_times_61 (by decide) (fun c_61 => ?_) (fun c_61 => ?_)
      · skip
        have d_61 : 200 ≤ (i_53 + i_28) := (nI_leI (a := 200) (b := (i_53 + i_28)) (by omega) (by omega)).mp c_61
        refine lv_iinc (v := (nI (i_28 + 1))) (lv' := [(4, .int (nI (i_28 + 1))), (9, .int (nI i_53)), (7, .long x7_53), (5, .long v_44), (0, .ref mo), (1, .ref m9), (2, .long p2)]) hx hb dX8_times_116 hl (k := 3) rfl (nI_1 _) (by decide) rfl (fun ls hl => ?_)
        refine lv_goto (tgt := 28) hx hb dX8_times_119 (by decide) ?_
        exact ih_28 _ (by omega) _ _ _ ⟨(i_28 + 1), fm11_53, by omega, hP, hD, hS, lv_sub hl [0, 4, 5, 6] rfl, rfl⟩
      · skip
        have d_61 : ¬ 200 ≤ (i_53 + i_28) := fun h => c_61 ((nI_leI (a := 200) (b := (i_53 + i_28)) (by omega) (by omega)).mpr h)
        refine lv_aload_n hx hb dX8_times_64 rfl (lv_at hl 4 rfl) ?_
        refine va_get (D := (dC, dI)) (ci := 8) (v := .ref m11) (C := RX8) (T := TX8) (N := 17) hx hb hts hiX8 hown hK hP 0 rfl rfl 11 (by decide) (hts (.fieldLink RX8 40 "MadeItSoModel" "helper" "[J") (by decide +kernel)) (fun _ h9 => h9) rfl dX8_times_65 ?_
        refine lv_iload hx hb dX8_times_68 (lv_at hl 0 rfl) ?_
        refine lv_iload hx hb dX8_times_70 (lv_at hl 3 rfl) ?_
        refine lv_iadd hx hb dX8_times_72 ?_
        refine mz_ti (y := (nI (i_53 + i_28))) (nI_add _ _) ?_
        refine va_lald hx hb hK hP 1 1 rfl rfl (vp_in_nI (by omega) (by omega)) dX8_times_73 ?_
        refine lv_topl (fun v_73 ev_73 => ?_)
        refine lv_aload_n hx hb dX8_times_74 rfl (lv_at hl 5 rfl) ?_
        refine lv_iload hx hb dX8_times_75 (lv_at hl 0 rfl) ?_
        refine va_lald hx hb hK hP 2 1 rfl rfl (vp_in_nI (by omega) (by omega)) dX8_times_77 ?_
        refine lv_topl (fun v_77 ev_77 => ?_)
        refine lv_lload hx hb dX8_times_78 (lv_at hl 2 rfl) ?_
        refine lv_lmul hx hb dX8_times_80 ?_
        refine lv_topl (fun v_80 ev_80 => ?_)
        refine lv_ladd hx hb dX8_times_81 ?_
        refine lv_topl (fun v_81 ev_81 => ?_)
        refine lv_lload hx hb dX8_times_82 (lv_at hl 1 rfl) ?_
        refine lv_ladd hx hb dX8_times_84 ?_
        refine lv_topl (fun v_84 ev_84 => ?_)
        refine lv_lstore (lv' := [(10, .long v_84), (9, .int (nI i_53)), (7, .long x7_53), (5, .long v_44), (4, .int (nI i_28)), (0, .ref mo), (1, .ref m9), (2, .long p2)]) hx hb dX8_times_85 hl (by decide) rfl (fun ls hl => ?_)
        refine lv_aload_n hx hb dX8_times_87 rfl (lv_at hl 5 rfl) ?_
        refine va_get (D := (dC, dI)) (ci := 8) (v := .ref m11) (C := RX8) (T := TX8) (N := 17) hx hb hts hiX8 hown hK hP 0 rfl rfl 11 (by decide) (hts (.fieldLink RX8 40 "MadeItSoModel" "helper" "[J") (by decide +kernel)) (fun _ h9 => h9) rfl dX8_times_88 ?_
        refine lv_iload hx hb dX8_times_91 (lv_at hl 1 rfl) ?_
        refine lv_iload hx hb dX8_times_93 (lv_at hl 4 rfl) ?_
        refine lv_iadd hx hb dX8_times_95 ?_
        refine mz_ti (y := (nI (i_53 + i_28))) (nI_add _ _) ?_
        refine lv_lload hx hb dX8_times_96 (lv_at hl 0 rfl) ?_
        refine lv_ldc2 hx hb hown (hts (.constantLong RX8 144 (16777215)) (by decide +kernel)) dX8_times_98 ?_
        refine lv_land hx hb dX8_times_101 ?_
        refine lv_topl (fun v_101 ev_101 => ?_)
        refine va_last hx hb hK hP hD hS 1 1 rfl rfl (vp_in_nI (by omega) (by omega)) dX8_times_102 (fun H locs hP hD hS => ?_)
        have hP : va_P (dC, dI) vwCl [(mo, .inr (8, [.int (nI n), .ref m1, .ref m2, .ref m3, .long ka, .long kb, .ref m6, .ref m7, .ref m8, .ref m9, .ref m10, .ref m11, .ref m12, .ref m13, .ref m14, .ref m15, .ref m16])), (m11, .inl (cJ, 200, .inr (.inl (vp_updL fm11_53 ((nI (i_53 + i_28)) : Int32).toNatClampNeg v_101)))), (m9, .inl (cJ, 200, .inr (.inl fu)))] H := hP
        have hD : va_D A [(mo, .inr (8, [.int (nI n), .ref m1, .ref m2, .ref m3, .long ka, .long kb, .ref m6, .ref m7, .ref m8, .ref m9, .ref m10, .ref m11, .ref m12, .ref m13, .ref m14, .ref m15, .ref m16])), (m11, .inl (cJ, 200, .inr (.inl (vp_updL fm11_53 ((nI (i_53 + i_28)) : Int32).toNatClampNeg v_101)))), (m9, .inl (cJ, 200, .inr (.inl fu)))] := hD
        generalize (vp_updL fm11_53 ((nI (i_53 + i_28)) : Int32).toNatClampNeg v_101) = f_102 at hP hD
        refine lv_lload hx hb dX8_times_103 (lv_at hl 0 rfl) ?_
        refine lv_bipush (v := 24) hx hb dX8_times_105 (by decide +kernel) ?_
        refine lv_lshr hx hb dX8_times_107 rfl ?_
        refine lv_topl (fun v_107 ev_107 => ?_)
        refine lv_lstore (lv' := [(7, .long v_107), (10, .long v_84), (9, .int (nI i_53)), (5, .long v_44), (4, .int (nI i_28)), (0, .ref mo), (1, .ref m9), (2, .long p2)]) hx hb dX8_times_108 hl (by decide) rfl (fun ls hl => ?_)
        refine lv_iinc (v := (nI (i_53 + 1))) (lv' := [(9, .int (nI (i_53 + 1))), (7, .long v_107), (10, .long v_84), (5, .long v_44), (4, .int (nI i_28)), (0, .ref mo), (1, .ref m9), (2, .long p2)]) hx hb dX8_times_110 hl (k := 2) rfl (nI_1 _) (by decide) rfl (fun ls hl => ?_)
        refine lv_goto (tgt := 53) hx hb dX8_times_113 (by decide) ?_
        exact ih_53 _ (by omega) _ _ _ ⟨(i_53 + 1), v_107, f_102, by omega, hP, hD, hS, lv_sub hl [0, 1, 3, 4, 5, 6, 7] rfl, rfl⟩
  · skip
    have d_8 : ¬ 200 ≤ i_3 := fun h => c_8 ((nI_leI (a := 200) (b := i_3) (by omega) (by omega)).mpr h)
    refine lv_aload_n hx hb dX8_times_11 rfl (lv_at hl 1 rfl) ?_
    refine va_get (D := (dC, dI)) (ci := 8) (v := .ref m11) (C := RX8) (T := TX8) (N := 17) hx hb hts hiX8 hown hK hP 0 rfl rfl 11 (by decide) (hts (.fieldLink RX8 40 "MadeItSoModel" "helper" "[J") (by decide +kernel)) (fun _ h9 => h9) rfl dX8_times_12 ?_
    refine lv_iload hx hb dX8_times_15 (lv_at hl 0 rfl) ?_
    refine lv_lconst (v := 0) hx hb dX8_times_17 (by decide +kernel) ?_
    refine va_last hx hb hK hP hD hS 1 1 rfl rfl (vp_in_nI (by omega) (by omega)) dX8_times_18 (fun H locs hP hD hS => ?_)
    have hP : va_P (dC, dI) vwCl [(mo, .inr (8, [.int (nI n), .ref m1, .ref m2, .ref m3, .long ka, .long kb, .ref m6, .ref m7, .ref m8, .ref m9, .ref m10, .ref m11, .ref m12, .ref m13, .ref m14, .ref m15, .ref m16])), (m11, .inl (cJ, 200, .inr (.inl (vp_updL fm11_3 ((nI i_3) : Int32).toNatClampNeg 0)))), (m9, .inl (cJ, 200, .inr (.inl fu)))] H := hP
    have hD : va_D A [(mo, .inr (8, [.int (nI n), .ref m1, .ref m2, .ref m3, .long ka, .long kb, .ref m6, .ref m7, .ref m8, .ref m9, .ref m10, .ref m11, .ref m12, .ref m13, .ref m14, .ref m15, .ref m16])), (m11, .inl (cJ, 200, .inr (.inl (vp_updL fm11_3 ((nI i_3) : Int32).toNatClampNeg 0)))), (m9, .inl (cJ, 200, .inr (.inl fu)))] := hD
    generalize (vp_updL fm11_3 ((nI i_3) : Int32).toNatClampNeg 0) = f_18 at hP hD
    refine lv_iinc (v := (nI (i_3 + 1))) (lv' := [(4, .int (nI (i_3 + 1))), (0, .ref mo), (1, .ref m9), (2, .long p2)]) hx hb dX8_times_19 hl (k := 0) rfl (nI_1 _) (by decide) rfl (fun ls hl => ?_)
    refine lv_goto (tgt := 3) hx hb dX8_times_22 (by decide) ?_
    exact ih_3 _ (by omega) _ _ _ ⟨(i_3 + 1), f_18, by omega, hP, hD, hS, lv_sub hl [0, 1, 2, 3] rfl, rfl⟩
set_option maxHeartbeats 1000000 in
set_option maxRecDepth 100000 in
theorem mz_m_times_down (l : Launch) (dC : Nat → ClassId) (dI : Nat → Nat → Nat) (cI cJ cZ : ClassId) (mo : Nat) (m1 : Nat) (m2 : Nat) (m3 : Nat) (m6 : Nat) (m7 : Nat) (m8 : Nat) (m9 : Nat) (m10 : Nat) (m11 : Nat) (m12 : Nat) (m13 : Nat) (m14 : Nat) (m15 : Nat) (m16 : Nat) (n : Nat) (ka : Int64) (kb : Int64) (fh : Nat → Int64) (fd : Nat → Int64) (p2 : Int64) (sz : Nat)  : Met l yX8_times wsX8_times ({ frames := 0, cells := 0, slots := 0, locals := 0 }) (va_Pc [.ref mo, .ref m10, .long p2] (fun U => U.heap.size = sz ∧ va_P (dC, dI) vwCl [(mo, .inr (8, [.int (nI n), .ref m1, .ref m2, .ref m3, .long ka, .long kb, .ref m6, .ref m7, .ref m8, .ref m9, .ref m10, .ref m11, .ref m12, .ref m13, .ref m14, .ref m15, .ref m16])), (m11, .inl (cJ, 200, .inr (.inl fh))), (m10, .inl (cJ, 200, .inr (.inl fd)))] U.heap ∧ va_K (dC, dI) vwCl [(cI, FieldType.int), (cJ, FieldType.long), (cZ, FieldType.boolean)] U ∧ va_D (fun _ => True) [(mo, .inr (8, [.int (nI n), .ref m1, .ref m2, .ref m3, .long ka, .long kb, .ref m6, .ref m7, .ref m8, .ref m9, .ref m10, .ref m11, .ref m12, .ref m13, .ref m14, .ref m15, .ref m16])), (m11, .inl (cJ, 200, .inr (.inl fh))), (m10, .inl (cJ, 200, .inr (.inl fd)))] ∧ mz_N U)) (va_Qv (fun (_ : Unit) => True) (fun _ t => ∃ (gh : Nat → Int64), va_P (dC, dI) vwCl [(mo, .inr (8, [.int (nI n), .ref m1, .ref m2, .ref m3, .long ka, .long kb, .ref m6, .ref m7, .ref m8, .ref m9, .ref m10, .ref m11, .ref m12, .ref m13, .ref m14, .ref m15, .ref m16])), (m11, .inl (cJ, 200, .inr (.inl gh))), (m10, .inl (cJ, 200, .inr (.inl fd)))] t.heap ∧ va_D (va_A [(mo, .inr (8, [.int (nI n), .ref m1, .ref m2, .ref m3, .long ka, .long kb, .ref m6, .ref m7, .ref m8, .ref m9, .ref m10, .ref m11, .ref m12, .ref m13, .ref m14, .ref m15, .ref m16])), (m11, .inl (cJ, 200, .inr (.inl fh))), (m10, .inl (cJ, 200, .inr (.inl fd)))] sz) [(mo, .inr (8, [.int (nI n), .ref m1, .ref m2, .ref m3, .long ka, .long kb, .ref m6, .ref m7, .ref m8, .ref m9, .ref m10, .ref m11, .ref m12, .ref m13, .ref m14, .ref m15, .ref m16])), (m11, .inl (cJ, 200, .inr (.inl gh))), (m10, .inl (cJ, 200, .inr (.inl fd)))]) (va_A [(mo, .inr (8, [.int (nI n), .ref m1, .ref m2, .ref m3, .long ka, .long kb, .ref m6, .ref m7, .ref m8, .ref m9, .ref m10, .ref m11, .ref m12, .ref m13, .ref m14, .ref m15, .ref m16])), (m11, .inl (cJ, 200, .inr (.inl fh))), (m10, .inl (cJ, 200, .inr (.inl fd)))] sz)) 0 0 (va_A [(mo, .inr (8, [.int (nI n), .ref m1, .ref m2, .ref m3, .long ka, .long kb, .ref m6, .ref m7, .ref m8, .ref m9, .ref m10, .ref m11, .ref m12, .ref m13, .ref m14, .ref m15, .ref m16])), (m11, .inl (cJ, 200, .inr (.inl fh))), (m10, .inl (cJ, 200, .inr (.inl fd)))] sz) := by
  refine Met.ofW (cc := cX8_times) (maxL := 12) (ret := none) (by decide) rfl ?_
  intro p e s m args below meth c s₁ B hml hv
  obtain ⟨rfl, hsz, hP, hK, hD0, hN⟩ := hv
  subst hsz
  have hx := B.exec
  have hb := B.bytes
  have hr := B.returns
  have hts := atoms_spec (ws := wsX8_times) B.pre
  have hown : s.vm.findClass RX8 = some m.cls := findClass_of_methodNamed B.named
  have hlocks := B.notSynchronized
  have hD := hD0.self (sz := s.heap.size)
  generalize hAe : va_A [(mo, .inr (8, [.int (nI n), .ref m1, .ref m2, .ref m3, .long ka, .long kb, .ref m6, .ref m7, .ref m8, .ref m9, .ref m10, .ref m11, .ref m12, .ref m13, .ref m14, .ref m15, .ref m16])), (m11, .inl (cJ, 200, .inr (.inl fh))), (m10, .inl (cJ, 200, .inr (.inl fd)))] s.heap.size = A at hD ⊢
  have hA : ∀ q : Nat, s.heap.size ≤ q → A q := fun q h => by rw [← hAe]; exact Or.inr h
  have hS : va_S A s.heap s.heap [] := va_S.rf
  have hiX8 : ∀ w ∈ u_ws RX8 TX8 17, w ∈ wsX8_times := by decide +kernel
  have hl := lv_entry ([.ref mo, .ref m10, .long p2]) (n := 12) (Nat.le_of_ble_eq_true rfl)
  rw [lg_entry_eq]
  generalize (lg_sl ([.ref mo, .ref m10, .long p2]) ++ List.replicate (12 - (lg_sl ([.ref mo, .ref m10, .long p2])).length) Slot.unset).toArray = ls at hl ⊢
  have hl : lv_has ls 12 [(0, .ref mo), (1, .ref m10), (2, .long p2)] := hl
  refine lv_iconst (v := 0) hx hb dX8_times_0 (by decide +kernel) ?_
  refine lv_istore (lv' := [(4, .int 0), (0, .ref mo), (1, .ref m10), (2, .long p2)]) hx hb dX8_times_1 hl (by decide) rfl (fun ls hl => ?_)
  refine mz_loopU (fun k H locs ls => ∃ (i_3 : Nat), ∃ (fm11_3 : Nat → Int64), i_3 ≤ 200 ∧ va_P (dC, dI) vwCl [(mo, .inr (8, [.int (nI n), .ref m1, .ref m2, .ref m3, .long ka, .long kb, .ref m6, .ref m7, .ref m8, .ref m9, .ref m10, .ref m11, .ref m12, .ref m13, .ref m14, .ref m15, .ref m16])), (m11, .inl (cJ, 200, .inr (.inl fm11_3))), (m10, .inl (cJ, 200, .inr (.inl fd)))] H ∧ va_D A [(mo, .inr (8, [.int (nI n), .ref m1, .ref m2, .ref m3, .long ka, .long kb, .ref m6, .ref m7, .ref m8, .ref m9, .ref m10, .ref m11, .ref m12, .ref m13, .ref m14, .ref m15, .ref m16])), (m11, .inl (cJ, 200, .inr (.inl fm11_3))), (m10, .inl (cJ, 200, .inr (.inl fd)))] ∧ va_S A s.heap H locs ∧ lv_has ls 12 [(4, .int (nI i_3)), (0, .ref mo), (1, .ref m10), (2, .long p2)] ∧ k = 200 - i_3) ?_ _ _ _ _ ⟨0, fh, by omega, hP, hD, hS, lv_sub hl [0, 1, 2, 3] rfl, rfl⟩
  intro k_3 H locs ls hI_3 ih_3
  obtain ⟨i_3, fm11_3, hi_3, hP, hD, hS, hl, hk_3⟩ := hI_3
  refine lv_iload hx hb dX8_times_3 (lv_at hl 0 rfl) ?_
  refine lv_sipush (v := 200) hx hb dX8_times_5 (by decide +kernel) ?_
  refine lv_icmp_ge (tgt := 25) hx hb dX8_times_8 (by decide) (fun c_8 => ?_) (fun c_8 => ?_)
  · skip
    have d_8 : 200 ≤ i_3 := (nI_leI (a := 200) (b := i_3) (by omega) (by omega)).mp c_8
    refine lv_iconst (v := 0) hx hb dX8_times_25 (by decide +kernel) ?_
    refine lv_istore (lv' := [(4, .int 0), (0, .ref mo), (1, .ref m10), (2, .long p2)]) hx hb dX8_times_26 hl (by decide) rfl (fun ls hl => ?_)
    refine mz_loopU (fun k H locs ls => ∃ (i_28 : Nat), ∃ (fm11_28 : Nat → Int64), i_28 ≤ 3 ∧ va_P (dC, dI) vwCl [(mo, .inr (8, [.int (nI n), .ref m1, .ref m2, .ref m3, .long ka, .long kb, .ref m6, .ref m7, .ref m8, .ref m9, .ref m10, .ref m11, .ref m12, .ref m13, .ref m14, .ref m15, .ref m16])), (m11, .inl (cJ, 200, .inr (.inl fm11_28))), (m10, .inl (cJ, 200, .inr (.inl fd)))] H ∧ va_D A [(mo, .inr (8, [.int (nI n), .ref m1, .ref m2, .ref m3, .long ka, .long kb, .ref m6, .ref m7, .ref m8, .ref m9, .ref m10, .ref m11, .ref m12, .ref m13, .ref m14, .ref m15, .ref m16])), (m11, .inl (cJ, 200, .inr (.inl fm11_28))), (m10, .inl (cJ, 200, .inr (.inl fd)))] ∧ va_S A s.heap H locs ∧ lv_has ls 12 [(4, .int (nI i_28)), (0, .ref mo), (1, .ref m10), (2, .long p2)] ∧ k = 3 - i_28) ?_ _ _ _ _ ⟨0, fm11_3, by omega, hP, hD, hS, lv_sub hl [0, 1, 2, 3] rfl, rfl⟩
    intro k_28 H locs ls hI_28 ih_28
    obtain ⟨i_28, fm11_28, hi_28, hP, hD, hS, hl, hk_28⟩ := hI_28
    refine lv_iload hx hb dX8_times_28 (lv_at hl 0 rfl) ?_
    refine lv_iconst (v := 3) hx hb dX8_times_30 (by decide +kernel) ?_
    refine lv_icmp_ge (tgt := 122) hx hb dX8_times_31 (by decide) (fun c_31 => ?_) (fun c_31 => ?_)
    · skip
      have d_31 : 3 ≤ i_28 := (nI_leI (a := 3) (b := i_28) (by omega) (by omega)).mp c_31
      have hP9 := hP.sub (ws' := [(mo, .inr (8, [.int (nI n), .ref m1, .ref m2, .ref m3, .long ka, .long kb, .ref m6, .ref m7, .ref m8, .ref m9, .ref m10, .ref m11, .ref m12, .ref m13, .ref m14, .ref m15, .ref m16])), (m11, .inl (cJ, 200, .inr (.inl fm11_28))), (m10, .inl (cJ, 200, .inr (.inl fd)))]) [0, 1, 2] rfl
      have hD9 := hD.sub (ws' := [(mo, .inr (8, [.int (nI n), .ref m1, .ref m2, .ref m3, .long ka, .long kb, .ref m6, .ref m7, .ref m8, .ref m9, .ref m10, .ref m11, .ref m12, .ref m13, .ref m14, .ref m15, .ref m16])), (m11, .inl (cJ, 200, .inr (.inl fm11_28))), (m10, .inl (cJ, 200, .inr (.inl fd)))]) [0, 1, 2] (by decide) rfl
      refine W.widen (k := 0) (n := 0) (Nat.le_of_ble_eq_true rfl) (Nat.le_of_ble_eq_true rfl) ?_
      exact W.vret hx hb hr (fun t ht hW => ⟨⟨(), rfl, trivial, fm11_28, by rw [ht]; exact hP9, hD9⟩, hS.F ht⟩) hS.2.2 dX8_times_122
    · skip
      have d_31 : ¬ 3 ≤ i_28 := fun h => c_31 ((nI_leI (a := 3) (b := i_28) (by omega) (by omega)).mpr h)
      refine lv_lload_n hx hb dX8_times_34 rfl (lv_at hl 3 rfl) ?_
      refine lv_bipush (v := 24) hx hb dX8_times_35 (by decide +kernel) ?_
      refine lv_iload hx hb dX8_times_37 (lv_at hl 0 rfl) ?_
      refine lv_imul hx hb dX8_times_39 ?_
      refine mz_ti (y := (nI (24 * i_28))) (pk_mul _ _) ?_
      refine lv_lshr hx hb dX8_times_40 rfl ?_
      refine lv_topl (fun v_40 ev_40 => ?_)
      refine lv_ldc2 hx hb hown (hts (.constantLong RX8 144 (16777215)) (by decide +kernel)) dX8_times_41 ?_
      refine lv_land hx hb dX8_times_44 ?_
      refine lv_topl (fun v_44 ev_44 => ?_)
      refine lv_lstore (lv' := [(5, .long v_44), (4, .int (nI i_28)), (0, .ref mo), (1, .ref m10), (2, .long p2)]) hx hb dX8_times_45 hl (by decide) rfl (fun ls hl => ?_)
      refine lv_lconst (v := 0) hx hb dX8_times_47 (by decide +kernel) ?_
      refine lv_lstore (lv' := [(7, .long 0), (5, .long v_44), (4, .int (nI i_28)), (0, .ref mo), (1, .ref m10), (2, .long p2)]) hx hb dX8_times_48 hl (by decide) rfl (fun ls hl => ?_)
      refine lv_iconst (v := 0) hx hb dX8_times_50 (by decide +kernel) ?_
      refine lv_istore (lv' := [(9, .int 0), (7, .long 0), (5, .long v_44), (4, .int (nI i_28)), (0, .ref mo), (1, .ref m10), (2, .long p2)]) hx hb dX8_times_51 hl (by decide) rfl (fun ls hl => ?_)
      refine mz_loopU (fun k H locs ls => ∃ (i_53 : Nat), ∃ (x7_53 : Int64), ∃ (fm11_53 : Nat → Int64), i_53 ≤ 200 ∧ va_P (dC, dI) vwCl [(mo, .inr (8, [.int (nI n), .ref m1, .ref m2, .ref m3, .long ka, .long kb, .ref m6, .ref m7, .ref m8, .ref m9, .ref m10, .ref m11, .ref m12, .ref m13, .ref m14, .ref m15, .ref m16])), (m11, .inl (cJ, 200, .inr (.inl fm11_53))), (m10, .inl (cJ, 200, .inr (.inl fd)))] H ∧ va_D A [(mo, .inr (8, [.int (nI n), .ref m1, .ref m2, .ref m3, .long ka, .long kb, .ref m6, .ref m7, .ref m8, .ref m9, .ref m10, .ref m11, .ref m12, .ref m13, .ref m14, .ref m15, .ref m16])), (m11, .inl (cJ, 200, .inr (.inl fm11_53))), (m10, .inl (cJ, 200, .inr (.inl fd)))] ∧ va_S A s.heap H locs ∧ lv_has ls 12 [(9, .int (nI i_53)), (7, .long x7_53), (5, .long v_44), (4, .int (nI i_28)), (0, .ref mo), (1, .ref m10), (2, .long p2)] ∧ k = 200 - i_53) ?_ _ _ _ _ ⟨0, 0, fm11_28, by omega, hP, hD, hS, lv_sub hl [0, 1, 2, 3, 4, 5, 6] rfl, rfl⟩
      intro k_53 H locs ls hI_53 ih_53
      obtain ⟨i_53, x7_53, fm11_53, hi_53, hP, hD, hS, hl, hk_53⟩ := hI_53
      refine lv_iload hx hb dX8_times_53 (lv_at hl 0 rfl) ?_
      refine lv_iload hx hb dX8_times_55 (lv_at hl 3 rfl) ?_
      refine lv_iadd hx hb dX8_times_57 ?_
      refine mz_ti (y := (nI (i_53 + i_28))) (nI_add _ _) ?_
      refine lv_sipush (v := 200) hx hb dX8_times_58 (by decide +kernel) ?_
      refine lv_icmp_ge (tgt := 116) hx hb dX8_times_61 (by decide) (fun c_61 => ?_) (fun c_61 => ?_)
      · skip
        have d_61 : 200 ≤ (i_53 + i_28) := (nI_leI (a := 200) (b := (i_53 + i_28)) (by omega) (by omega)).mp c_61
        refine lv_iinc (v := (nI (i_28 + 1))) (lv' := [(4, .int (nI (i_28 + 1))), (9, .int (nI i_53)), (7, .long x7_53), (5, .long v_44), (0, .ref mo), (1, .ref m10), (2, .long p2)]) hx hb dX8_times_116 hl (k := 3) rfl (nI_1 _) (by decide) rfl (fun ls hl => ?_)
        refine lv_goto (tgt := 28) hx hb dX8_times_119 (by decide) ?_
        exact ih_28 _ (by omega) _ _ _ ⟨(i_28 + 1), fm11_53, by omega, hP, hD, hS, lv_sub hl [0, 4, 5, 6] rfl, rfl⟩
      · skip
        have d_61 : ¬ 200 ≤ (i_53 + i_28) := fun h => c_61 ((nI_leI (a := 200) (b := (i_53 + i_28)) (by omega) (by omega)).mpr h)
        refine lv_aload_n hx hb dX8_times_64 rfl (lv_at hl 4 rfl) ?_
        refine va_get (D := (dC, dI)) (ci := 8) (v := .ref m11) (C := RX8) (T := TX8) (N := 17) hx hb hts hiX8 hown hK hP 0 rfl rfl 11 (by decide) (hts (.fieldLink RX8 40 "MadeItSoModel" "helper" "[J") (by decide +kernel)) (fun _ h9 => h9) rfl dX8_times_65 ?_
        refine lv_iload hx hb dX8_times_68 (lv_at hl 0 rfl) ?_
        refine lv_iload hx hb dX8_times_70 (lv_at hl 3 rfl) ?_
        refine lv_iadd hx hb dX8_times_72 ?_
        refine mz_ti (y := (nI (i_53 + i_28))) (nI_add _ _) ?_
        refine va_lald hx hb hK hP 1 1 rfl rfl (vp_in_nI (by omega) (by omega)) dX8_times_73 ?_
        refine lv_topl (fun v_73 ev_73 => ?_)
        refine lv_aload_n hx hb dX8_times_74 rfl (lv_at hl 5 rfl) ?_
        refine lv_iload hx hb dX8_times_75 (lv_at hl 0 rfl) ?_
        refine va_lald hx hb hK hP 2 1 rfl rfl (vp_in_nI (by omega) (by omega)) dX8_times_77 ?_
        refine lv_topl (fun v_77 ev_77 => ?_)
        refine lv_lload hx hb dX8_times_78 (lv_at hl 2 rfl) ?_
        refine lv_lmul hx hb dX8_times_80 ?_
        refine lv_topl (fun v_80 ev_80 => ?_)
        refine lv_ladd hx hb dX8_times_81 ?_
        refine lv_topl (fun v_81 ev_81 => ?_)
        refine lv_lload hx hb dX8_times_82 (lv_at hl 1 rfl) ?_
        refine lv_ladd hx hb dX8_times_84 ?_
        refine lv_topl (fun v_84 ev_84 => ?_)
        refine lv_lstore (lv' := [(10, .long v_84), (9, .int (nI i_53)), (7, .long x7_53), (5, .long v_44), (4, .int (nI i_28)), (0, .ref mo), (1, .ref m10), (2, .long p2)]) hx hb dX8_times_85 hl (by decide) rfl (fun ls hl => ?_)
        refine lv_aload_n hx hb dX8_times_87 rfl (lv_at hl 5 rfl) ?_
        refine va_get (D := (dC, dI)) (ci := 8) (v := .ref m11) (C := RX8) (T := TX8) (N := 17) hx hb hts hiX8 hown hK hP 0 rfl rfl 11 (by decide) (hts (.fieldLink RX8 40 "MadeItSoModel" "helper" "[J") (by decide +kernel)) (fun _ h9 => h9) rfl dX8_times_88 ?_
        refine lv_iload hx hb dX8_times_91 (lv_at hl 1 rfl) ?_
        refine lv_iload hx hb dX8_times_93 (lv_at hl 4 rfl) ?_
        refine lv_iadd hx hb dX8_times_95 ?_
        refine mz_ti (y := (nI (i_53 + i_28))) (nI_add _ _) ?_
        refine lv_lload hx hb dX8_times_96 (lv_at hl 0 rfl) ?_
        refine lv_ldc2 hx hb hown (hts (.constantLong RX8 144 (16777215)) (by decide +kernel)) dX8_times_98 ?_
        refine lv_land hx hb dX8_times_101 ?_
        refine lv_topl (fun v_101 ev_101 => ?_)
        refine va_last hx hb hK hP hD hS 1 1 rfl rfl (vp_in_nI (by omega) (by omega)) dX8_times_102 (fun H locs hP hD hS => ?_)
        have hP : va_P (dC, dI) vwCl [(mo, .inr (8, [.int (nI n), .ref m1, .ref m2, .ref m3, .long ka, .long kb, .ref m6, .ref m7, .ref m8, .ref m9, .ref m10, .ref m11, .ref m12, .ref m13, .ref m14, .ref m15, .ref m16])), (m11, .inl (cJ, 200, .inr (.inl (vp_updL fm11_53 ((nI (i_53 + i_28)) : Int32).toNatClampNeg v_101)))), (m10, .inl (cJ, 200, .inr (.inl fd)))] H := hP
        have hD : va_D A [(mo, .inr (8, [.int (nI n), .ref m1, .ref m2, .ref m3, .long ka, .long kb, .ref m6, .ref m7, .ref m8, .ref m9, .ref m10, .ref m11, .ref m12, .ref m13, .ref m14, .ref m15, .ref m16])), (m11, .inl (cJ, 200, .inr (.inl (vp_updL fm11_53 ((nI (i_53 + i_28)) : Int32).toNatClampNeg v_101)))), (m10, .inl (cJ, 200, .inr (.inl fd)))] := hD
        generalize (vp_updL fm11_53 ((nI (i_53 + i_28)) : Int32).toNatClampNeg v_101) = f_102 at hP hD
        refine lv_lload hx hb dX8_times_103 (lv_at hl 0 rfl) ?_
        refine lv_bipush (v := 24) hx hb dX8_times_105 (by decide +kernel) ?_
        refine lv_lshr hx hb dX8_times_107 rfl ?_
        refine lv_topl (fun v_107 ev_107 => ?_)
        refine lv_lstore (lv' := [(7, .long v_107), (10, .long v_84), (9, .int (nI i_53)), (5, .long v_44), (4, .int (nI i_28)), (0, .ref mo), (1, .ref m10), (2, .long p2)]) hx hb dX8_times_108 hl (by decide) rfl (fun ls hl => ?_)
        refine lv_iinc (v := (nI (i_53 + 1))) (lv' := [(9, .int (nI (i_53 + 1))), (7, .long v_107), (10, .long v_84), (5, .long v_44), (4, .int (nI i_28)), (0, .ref mo), (1, .ref m10), (2, .long p2)]) hx hb dX8_times_110 hl (k := 2) rfl (nI_1 _) (by decide) rfl (fun ls hl => ?_)
        refine lv_goto (tgt := 53) hx hb dX8_times_113 (by decide) ?_
        exact ih_53 _ (by omega) _ _ _ ⟨(i_53 + 1), v_107, f_102, by omega, hP, hD, hS, lv_sub hl [0, 1, 3, 4, 5, 6, 7] rfl, rfl⟩
  · skip
    have d_8 : ¬ 200 ≤ i_3 := fun h => c_8 ((nI_leI (a := 200) (b := i_3) (by omega) (by omega)).mpr h)
    refine lv_aload_n hx hb dX8_times_11 rfl (lv_at hl 1 rfl) ?_
    refine va_get (D := (dC, dI)) (ci := 8) (v := .ref m11) (C := RX8) (T := TX8) (N := 17) hx hb hts hiX8 hown hK hP 0 rfl rfl 11 (by decide) (hts (.fieldLink RX8 40 "MadeItSoModel" "helper" "[J") (by decide +kernel)) (fun _ h9 => h9) rfl dX8_times_12 ?_
    refine lv_iload hx hb dX8_times_15 (lv_at hl 0 rfl) ?_
    refine lv_lconst (v := 0) hx hb dX8_times_17 (by decide +kernel) ?_
    refine va_last hx hb hK hP hD hS 1 1 rfl rfl (vp_in_nI (by omega) (by omega)) dX8_times_18 (fun H locs hP hD hS => ?_)
    have hP : va_P (dC, dI) vwCl [(mo, .inr (8, [.int (nI n), .ref m1, .ref m2, .ref m3, .long ka, .long kb, .ref m6, .ref m7, .ref m8, .ref m9, .ref m10, .ref m11, .ref m12, .ref m13, .ref m14, .ref m15, .ref m16])), (m11, .inl (cJ, 200, .inr (.inl (vp_updL fm11_3 ((nI i_3) : Int32).toNatClampNeg 0)))), (m10, .inl (cJ, 200, .inr (.inl fd)))] H := hP
    have hD : va_D A [(mo, .inr (8, [.int (nI n), .ref m1, .ref m2, .ref m3, .long ka, .long kb, .ref m6, .ref m7, .ref m8, .ref m9, .ref m10, .ref m11, .ref m12, .ref m13, .ref m14, .ref m15, .ref m16])), (m11, .inl (cJ, 200, .inr (.inl (vp_updL fm11_3 ((nI i_3) : Int32).toNatClampNeg 0)))), (m10, .inl (cJ, 200, .inr (.inl fd)))] := hD
    generalize (vp_updL fm11_3 ((nI i_3) : Int32).toNatClampNeg 0) = f_18 at hP hD
    refine lv_iinc (v := (nI (i_3 + 1))) (lv' := [(4, .int (nI (i_3 + 1))), (0, .ref mo), (1, .ref m10), (2, .long p2)]) hx hb dX8_times_19 hl (k := 0) rfl (nI_1 _) (by decide) rfl (fun ls hl => ?_)
    refine lv_goto (tgt := 3) hx hb dX8_times_22 (by decide) ?_
    exact ih_3 _ (by omega) _ _ _ ⟨(i_3 + 1), f_18, by omega, hP, hD, hS, lv_sub hl [0, 1, 2, 3] rfl, rfl⟩
set_option maxHeartbeats 1000000 in
set_option maxRecDepth 100000 in
theorem mz_m_adds (l : Launch) (dC : Nat → ClassId) (dI : Nat → Nat → Nat) (cI cJ cZ : ClassId) (mo : Nat) (m1 : Nat) (m2 : Nat) (m3 : Nat) (m6 : Nat) (m7 : Nat) (m8 : Nat) (m9 : Nat) (m10 : Nat) (m11 : Nat) (m12 : Nat) (m13 : Nat) (m14 : Nat) (m15 : Nat) (m16 : Nat) (n : Nat) (ka : Int64) (kb : Int64) (fu : Nat → Int64) (fd : Nat → Int64) (fh : Nat → Int64) (p1 : Int64) (p2 : Int64) (sz : Nat)  : Met l yX8_adds wsX8_adds ({ frames := 1, cells := 0, slots := 0, locals := 31 }) (va_Pc [.ref mo, .long p1, .long p2] (fun U => U.heap.size = sz ∧ va_P (dC, dI) vwCl [(mo, .inr (8, [.int (nI n), .ref m1, .ref m2, .ref m3, .long ka, .long kb, .ref m6, .ref m7, .ref m8, .ref m9, .ref m10, .ref m11, .ref m12, .ref m13, .ref m14, .ref m15, .ref m16])), (m9, .inl (cJ, 200, .inr (.inl fu))), (m10, .inl (cJ, 200, .inr (.inl fd))), (m11, .inl (cJ, 200, .inr (.inl fh)))] U.heap ∧ va_K (dC, dI) vwCl [(cI, FieldType.int), (cJ, FieldType.long), (cZ, FieldType.boolean)] U ∧ va_D (fun _ => True) [(mo, .inr (8, [.int (nI n), .ref m1, .ref m2, .ref m3, .long ka, .long kb, .ref m6, .ref m7, .ref m8, .ref m9, .ref m10, .ref m11, .ref m12, .ref m13, .ref m14, .ref m15, .ref m16])), (m9, .inl (cJ, 200, .inr (.inl fu))), (m10, .inl (cJ, 200, .inr (.inl fd))), (m11, .inl (cJ, 200, .inr (.inl fh)))] ∧ mz_N U)) (va_Qv (fun (_ : Unit) => True) (fun _ t => ∃ (gu : Nat → Int64), ∃ (gd : Nat → Int64), ∃ (gh : Nat → Int64), va_P (dC, dI) vwCl [(mo, .inr (8, [.int (nI n), .ref m1, .ref m2, .ref m3, .long ka, .long kb, .ref m6, .ref m7, .ref m8, .ref m9, .ref m10, .ref m11, .ref m12, .ref m13, .ref m14, .ref m15, .ref m16])), (m9, .inl (cJ, 200, .inr (.inl gu))), (m10, .inl (cJ, 200, .inr (.inl gd))), (m11, .inl (cJ, 200, .inr (.inl gh)))] t.heap ∧ va_D (va_A [(mo, .inr (8, [.int (nI n), .ref m1, .ref m2, .ref m3, .long ka, .long kb, .ref m6, .ref m7, .ref m8, .ref m9, .ref m10, .ref m11, .ref m12, .ref m13, .ref m14, .ref m15, .ref m16])), (m9, .inl (cJ, 200, .inr (.inl fu))), (m10, .inl (cJ, 200, .inr (.inl fd))), (m11, .inl (cJ, 200, .inr (.inl fh)))] sz) [(mo, .inr (8, [.int (nI n), .ref m1, .ref m2, .ref m3, .long ka, .long kb, .ref m6, .ref m7, .ref m8, .ref m9, .ref m10, .ref m11, .ref m12, .ref m13, .ref m14, .ref m15, .ref m16])), (m9, .inl (cJ, 200, .inr (.inl gu))), (m10, .inl (cJ, 200, .inr (.inl gd))), (m11, .inl (cJ, 200, .inr (.inl gh)))]) (va_A [(mo, .inr (8, [.int (nI n), .ref m1, .ref m2, .ref m3, .long ka, .long kb, .ref m6, .ref m7, .ref m8, .ref m9, .ref m10, .ref m11, .ref m12, .ref m13, .ref m14, .ref m15, .ref m16])), (m9, .inl (cJ, 200, .inr (.inl fu))), (m10, .inl (cJ, 200, .inr (.inl fd))), (m11, .inl (cJ, 200, .inr (.inl fh)))] sz)) 0 0 (va_A [(mo, .inr (8, [.int (nI n), .ref m1, .ref m2, .ref m3, .long ka, .long kb, .ref m6, .ref m7, .ref m8, .ref m9, .ref m10, .ref m11, .ref m12, .ref m13, .ref m14, .ref m15, .ref m16])), (m9, .inl (cJ, 200, .inr (.inl fu))), (m10, .inl (cJ, 200, .inr (.inl fd))), (m11, .inl (cJ, 200, .inr (.inl fh)))] sz) := by
  refine Met.ofW (cc := cX8_adds) (maxL := 10) (ret := none) (by decide) rfl ?_
  intro p e s m args below meth c s₁ B hml hv
  obtain ⟨rfl, hsz, hP, hK, hD0, hN⟩ := hv
  subst hsz
  have hx := B.exec
  have hb := B.bytes
  have hr := B.returns
  have hts := atoms_spec (ws := wsX8_adds) B.pre
  have hown : s.vm.findClass RX8 = some m.cls := findClass_of_methodNamed B.named
  have hlocks := B.notSynchronized
  have hD := hD0.self (sz := s.heap.size)
  generalize hAe : va_A [(mo, .inr (8, [.int (nI n), .ref m1, .ref m2, .ref m3, .long ka, .long kb, .ref m6, .ref m7, .ref m8, .ref m9, .ref m10, .ref m11, .ref m12, .ref m13, .ref m14, .ref m15, .ref m16])), (m9, .inl (cJ, 200, .inr (.inl fu))), (m10, .inl (cJ, 200, .inr (.inl fd))), (m11, .inl (cJ, 200, .inr (.inl fh)))] s.heap.size = A at hD ⊢
  have hA : ∀ q : Nat, s.heap.size ≤ q → A q := fun q h => by rw [← hAe]; exact Or.inr h
  have hS : va_S A s.heap s.heap [] := va_S.rf
  have hiX8 : ∀ w ∈ u_ws RX8 TX8 17, w ∈ wsX8_adds := by decide +kernel
  have hl := lv_entry ([.ref mo, .long p1, .long p2]) (n := 10) (Nat.le_of_ble_eq_true rfl)
  rw [lg_entry_eq]
  generalize (lg_sl ([.ref mo, .long p1, .long p2]) ++ List.replicate (10 - (lg_sl ([.ref mo, .long p1, .long p2])).length) Slot.unset).toArray = ls at hl ⊢
  have hl : lv_has ls 10 [(0, .ref mo), (1, .long p1), (3, .long p2)] := hl
  refine lv_aload_n hx hb dX8_adds_0 rfl (lv_at hl 0 rfl) ?_
  refine lv_aload_n hx hb dX8_adds_1 rfl (lv_at hl 0 rfl) ?_
  refine va_get (D := (dC, dI)) (ci := 8) (v := .ref m9) (C := RX8) (T := TX8) (N := 17) hx hb hts hiX8 hown hK hP 0 rfl rfl 9 (by decide) (hts (.fieldLink RX8 33 "MadeItSoModel" "up" "[J") (by decide +kernel)) (fun _ h9 => h9) rfl dX8_adds_2 ?_
  refine lv_lload_n hx hb dX8_adds_5 rfl (lv_at hl 2 rfl) ?_
  have hPc := hP.sub (ws' := [(mo, .inr (8, [.int (nI n), .ref m1, .ref m2, .ref m3, .long ka, .long kb, .ref m6, .ref m7, .ref m8, .ref m9, .ref m10, .ref m11, .ref m12, .ref m13, .ref m14, .ref m15, .ref m16])), (m11, .inl (cJ, 200, .inr (.inl fh))), (m9, .inl (cJ, 200, .inr (.inl fu)))]) [0, 3, 1] rfl
  have hDc := hD.sub (ws' := [(mo, .inr (8, [.int (nI n), .ref m1, .ref m2, .ref m3, .long ka, .long kb, .ref m6, .ref m7, .ref m8, .ref m9, .ref m10, .ref m11, .ref m12, .ref m13, .ref m14, .ref m15, .ref m16])), (m11, .inl (cJ, 200, .inr (.inl fh))), (m9, .inl (cJ, 200, .inr (.inl fu)))]) [0, 3, 1] (by decide) rfl
  have hFc := va_free (wc := [(mo, .inr (8, [.int (nI n), .ref m1, .ref m2, .ref m3, .long ka, .long kb, .ref m6, .ref m7, .ref m8, .ref m9, .ref m10, .ref m11, .ref m12, .ref m13, .ref m14, .ref m15, .ref m16])), (m11, .inl (cJ, 200, .inr (.inl fh))), (m9, .inl (cJ, 200, .inr (.inl fu)))]) hD hS hA [0, 3, 1] rfl
  refine va_callv (va_runV (As := [.ref m9, .long p2]) (rest := []) ⟨hx, hb, hml, hown, hts⟩ (mz_m_times_up l dC dI cI cJ cZ mo m1 m2 m3 m6 m7 m8 m9 m10 m11 m12 m13 m14 m15 m16 n ka kb fh fu p2 s.heap.size ) (cwV 2 hts gX8_adds_X8_times rfl rfl rfl (by decide +kernel) ⟨Nat.le_of_ble_eq_true rfl, Nat.le_of_ble_eq_true rfl⟩) ⟨fun a U g mk q => mz_blI q, va_recv hK hPc (ci := 8) (q0 := 0) rfl rfl, fun U hU hW => ⟨rfl, by rw [hU], by rw [hU]; exact hPc, va_K.moved hW.alike hK, hDc.weaken (fun _ _ _ _ => trivial), mz_nw hW hN⟩⟩ rfl rfl hl.1 rfl (lv_room (Nat.le_of_ble_eq_true rfl)) dX8_adds_6 ⟨Nat.le_of_ble_eq_true rfl, Nat.le_of_ble_eq_true rfl⟩) hS (fun q _ h => hFc q h) hFc (fun u t H1 locs ht hvm hw_6 hB hz1 hk1 hS => ?_)
  obtain ⟨gh_6, hP1, hD1⟩ := hB
  rw [ht] at hP1
  obtain ⟨hP, hD⟩ := va_join (wr := [(m10, .inl (cJ, 200, .inr (.inl fd)))]) (w1 := [(mo, .inr (8, [.int (nI n), .ref m1, .ref m2, .ref m3, .long ka, .long kb, .ref m6, .ref m7, .ref m8, .ref m9, .ref m10, .ref m11, .ref m12, .ref m13, .ref m14, .ref m15, .ref m16])), (m11, .inl (cJ, 200, .inr (.inl gh_6))), (m9, .inl (cJ, 200, .inr (.inl fu)))]) hP hD [0, 3, 1] [2] rfl rfl (by decide) (by decide) hk1 hFc hP1 hD1
  generalize H1 = H at hP hS ⊢
  have hP : va_P (dC, dI) vwCl [(m10, .inl (cJ, 200, .inr (.inl fd))), (mo, .inr (8, [.int (nI n), .ref m1, .ref m2, .ref m3, .long ka, .long kb, .ref m6, .ref m7, .ref m8, .ref m9, .ref m10, .ref m11, .ref m12, .ref m13, .ref m14, .ref m15, .ref m16])), (m11, .inl (cJ, 200, .inr (.inl gh_6))), (m9, .inl (cJ, 200, .inr (.inl fu)))] H := hP
  have hD : va_D A [(m10, .inl (cJ, 200, .inr (.inl fd))), (mo, .inr (8, [.int (nI n), .ref m1, .ref m2, .ref m3, .long ka, .long kb, .ref m6, .ref m7, .ref m8, .ref m9, .ref m10, .ref m11, .ref m12, .ref m13, .ref m14, .ref m15, .ref m16])), (m11, .inl (cJ, 200, .inr (.inl gh_6))), (m9, .inl (cJ, 200, .inr (.inl fu)))] := hD
  refine lv_iconst (v := 0) hx hb dX8_adds_9 (by decide +kernel) ?_
  refine lv_istore (lv' := [(5, .int 0), (0, .ref mo), (1, .long p1), (3, .long p2)]) hx hb dX8_adds_10 hl (by decide) rfl (fun ls hl => ?_)
  refine mz_loopU (fun k H locs ls => ∃ (i_12 : Nat), ∃ (fm9_12 : Nat → Int64), i_12 ≤ 200 ∧ va_P (dC, dI) vwCl [(m10, .inl (cJ, 200, .inr (.inl fd))), (mo, .inr (8, [.int (nI n), .ref m1, .ref m2, .ref m3, .long ka, .long kb, .ref m6, .ref m7, .ref m8, .ref m9, .ref m10, .ref m11, .ref m12, .ref m13, .ref m14, .ref m15, .ref m16])), (m11, .inl (cJ, 200, .inr (.inl gh_6))), (m9, .inl (cJ, 200, .inr (.inl fm9_12)))] H ∧ va_D A [(m10, .inl (cJ, 200, .inr (.inl fd))), (mo, .inr (8, [.int (nI n), .ref m1, .ref m2, .ref m3, .long ka, .long kb, .ref m6, .ref m7, .ref m8, .ref m9, .ref m10, .ref m11, .ref m12, .ref m13, .ref m14, .ref m15, .ref m16])), (m11, .inl (cJ, 200, .inr (.inl gh_6))), (m9, .inl (cJ, 200, .inr (.inl fm9_12)))] ∧ va_S A s.heap H locs ∧ lv_has ls 10 [(5, .int (nI i_12)), (0, .ref mo), (1, .long p1), (3, .long p2)] ∧ k = 200 - i_12) ?_ _ _ _ _ ⟨0, fu, by omega, hP, hD, hS, lv_sub hl [0, 1, 2, 3] rfl, rfl⟩
  intro k_12 H locs ls hI_12 ih_12
  obtain ⟨i_12, fm9_12, hi_12, hP, hD, hS, hl, hk_12⟩ := hI_12
  refine lv_iload hx hb dX8_adds_12 (lv_at hl 0 rfl) ?_
  refine lv_sipush (v := 200) hx hb dX8_adds_14 (by decide +kernel) ?_
  refine lv_icmp_ge (tgt := 40) hx hb dX8_adds_17 (by decide) (fun c_17 => ?_) (fun c_17 => ?_)
  · skip
    have d_17 : 200 ≤ i_12 := (nI_leI (a := 200) (b := i_12) (by omega) (by omega)).mp c_17
    refine lv_aload_n hx hb dX8_adds_40 rfl (lv_at hl 1 rfl) ?_
    refine lv_aload_n hx hb dX8_adds_41 rfl (lv_at hl 1 rfl) ?_
    refine va_get (D := (dC, dI)) (ci := 8) (v := .ref m10) (C := RX8) (T := TX8) (N := 17) hx hb hts hiX8 hown hK hP 1 rfl rfl 10 (by decide) (hts (.fieldLink RX8 37 "MadeItSoModel" "down" "[J") (by decide +kernel)) (fun _ h9 => h9) rfl dX8_adds_42 ?_
    refine lv_lload_n hx hb dX8_adds_45 rfl (lv_at hl 2 rfl) ?_
    have hPc := hP.sub (ws' := [(mo, .inr (8, [.int (nI n), .ref m1, .ref m2, .ref m3, .long ka, .long kb, .ref m6, .ref m7, .ref m8, .ref m9, .ref m10, .ref m11, .ref m12, .ref m13, .ref m14, .ref m15, .ref m16])), (m11, .inl (cJ, 200, .inr (.inl gh_6))), (m10, .inl (cJ, 200, .inr (.inl fd)))]) [1, 2, 0] rfl
    have hDc := hD.sub (ws' := [(mo, .inr (8, [.int (nI n), .ref m1, .ref m2, .ref m3, .long ka, .long kb, .ref m6, .ref m7, .ref m8, .ref m9, .ref m10, .ref m11, .ref m12, .ref m13, .ref m14, .ref m15, .ref m16])), (m11, .inl (cJ, 200, .inr (.inl gh_6))), (m10, .inl (cJ, 200, .inr (.inl fd)))]) [1, 2, 0] (by decide) rfl
    have hFc := va_free (wc := [(mo, .inr (8, [.int (nI n), .ref m1, .ref m2, .ref m3, .long ka, .long kb, .ref m6, .ref m7, .ref m8, .ref m9, .ref m10, .ref m11, .ref m12, .ref m13, .ref m14, .ref m15, .ref m16])), (m11, .inl (cJ, 200, .inr (.inl gh_6))), (m10, .inl (cJ, 200, .inr (.inl fd)))]) hD hS hA [1, 2, 0] rfl
    refine va_callv (va_runV (As := [.ref m10, .long p1]) (rest := []) ⟨hx, hb, hml, hown, hts⟩ (mz_m_times_down l dC dI cI cJ cZ mo m1 m2 m3 m6 m7 m8 m9 m10 m11 m12 m13 m14 m15 m16 n ka kb gh_6 fd p1 H.size ) (cwV 2 hts gX8_adds_X8_times rfl rfl rfl (by decide +kernel) ⟨Nat.le_of_ble_eq_true rfl, Nat.le_of_ble_eq_true rfl⟩) ⟨fun a U g mk q => mz_blI q, va_recv hK hPc (ci := 8) (q0 := 0) rfl rfl, fun U hU hW => ⟨rfl, by rw [hU], by rw [hU]; exact hPc, va_K.moved hW.alike hK, hDc.weaken (fun _ _ _ _ => trivial), mz_nw hW hN⟩⟩ rfl rfl hl.1 rfl (lv_room (Nat.le_of_ble_eq_true rfl)) dX8_adds_46 ⟨Nat.le_of_ble_eq_true rfl, Nat.le_of_ble_eq_true rfl⟩) hS (fun q _ h => hFc q h) hFc (fun u t H1 locs ht hvm hw_46 hB hz1 hk1 hS => ?_)
    obtain ⟨gh_46, hP1, hD1⟩ := hB
    rw [ht] at hP1
    obtain ⟨hP, hD⟩ := va_join (wr := [(m9, .inl (cJ, 200, .inr (.inl fm9_12)))]) (w1 := [(mo, .inr (8, [.int (nI n), .ref m1, .ref m2, .ref m3, .long ka, .long kb, .ref m6, .ref m7, .ref m8, .ref m9, .ref m10, .ref m11, .ref m12, .ref m13, .ref m14, .ref m15, .ref m16])), (m11, .inl (cJ, 200, .inr (.inl gh_46))), (m10, .inl (cJ, 200, .inr (.inl fd)))]) hP hD [1, 2, 0] [3] rfl rfl (by decide) (by decide) hk1 hFc hP1 hD1
    generalize H1 = H at hP hS ⊢
    have hP : va_P (dC, dI) vwCl [(m9, .inl (cJ, 200, .inr (.inl fm9_12))), (mo, .inr (8, [.int (nI n), .ref m1, .ref m2, .ref m3, .long ka, .long kb, .ref m6, .ref m7, .ref m8, .ref m9, .ref m10, .ref m11, .ref m12, .ref m13, .ref m14, .ref m15, .ref m16])), (m11, .inl (cJ, 200, .inr (.inl gh_46))), (m10, .inl (cJ, 200, .inr (.inl fd)))] H := hP
    have hD : va_D A [(m9, .inl (cJ, 200, .inr (.inl fm9_12))), (mo, .inr (8, [.int (nI n), .ref m1, .ref m2, .ref m3, .long ka, .long kb, .ref m6, .ref m7, .ref m8, .ref m9, .ref m10, .ref m11, .ref m12, .ref m13, .ref m14, .ref m15, .ref m16])), (m11, .inl (cJ, 200, .inr (.inl gh_46))), (m10, .inl (cJ, 200, .inr (.inl fd)))] := hD
    refine lv_lconst (v := 0) hx hb dX8_adds_49 (by decide +kernel) ?_
    refine lv_lstore (lv' := [(5, .long 0), (0, .ref mo), (1, .long p1), (3, .long p2)]) hx hb dX8_adds_50 hl (by decide) rfl (fun ls hl => ?_)
    refine lv_iconst (v := 0) hx hb dX8_adds_52 (by decide +kernel) ?_
    refine lv_istore (lv' := [(7, .int 0), (5, .long 0), (0, .ref mo), (1, .long p1), (3, .long p2)]) hx hb dX8_adds_53 hl (by decide) rfl (fun ls hl => ?_)
    refine mz_loopU (fun k H locs ls => ∃ (i_55 : Nat), ∃ (x5_55 : Int64), ∃ (fm9_55 : Nat → Int64), i_55 ≤ 200 ∧ va_P (dC, dI) vwCl [(m9, .inl (cJ, 200, .inr (.inl fm9_55))), (mo, .inr (8, [.int (nI n), .ref m1, .ref m2, .ref m3, .long ka, .long kb, .ref m6, .ref m7, .ref m8, .ref m9, .ref m10, .ref m11, .ref m12, .ref m13, .ref m14, .ref m15, .ref m16])), (m11, .inl (cJ, 200, .inr (.inl gh_46))), (m10, .inl (cJ, 200, .inr (.inl fd)))] H ∧ va_D A [(m9, .inl (cJ, 200, .inr (.inl fm9_55))), (mo, .inr (8, [.int (nI n), .ref m1, .ref m2, .ref m3, .long ka, .long kb, .ref m6, .ref m7, .ref m8, .ref m9, .ref m10, .ref m11, .ref m12, .ref m13, .ref m14, .ref m15, .ref m16])), (m11, .inl (cJ, 200, .inr (.inl gh_46))), (m10, .inl (cJ, 200, .inr (.inl fd)))] ∧ va_S A s.heap H locs ∧ lv_has ls 10 [(7, .int (nI i_55)), (5, .long x5_55), (0, .ref mo), (1, .long p1), (3, .long p2)] ∧ k = 200 - i_55) ?_ _ _ _ _ ⟨0, 0, fm9_12, by omega, hP, hD, hS, lv_sub hl [0, 1, 2, 3, 4] rfl, rfl⟩
    intro k_55 H locs ls hI_55 ih_55
    obtain ⟨i_55, x5_55, fm9_55, hi_55, hP, hD, hS, hl, hk_55⟩ := hI_55
    refine lv_iload hx hb dX8_adds_55 (lv_at hl 0 rfl) ?_
    refine lv_sipush (v := 200) hx hb dX8_adds_57 (by decide +kernel) ?_
    refine lv_icmp_ge (tgt := 109) hx hb dX8_adds_60 (by decide) (fun c_60 => ?_) (fun c_60 => ?_)
    · skip
      have d_60 : 200 ≤ i_55 := (nI_leI (a := 200) (b := i_55) (by omega) (by omega)).mp c_60
      refine lv_aload_n hx hb dX8_adds_109 rfl (lv_at hl 2 rfl) ?_
      refine lv_aload_n hx hb dX8_adds_110 rfl (lv_at hl 2 rfl) ?_
      refine va_get (D := (dC, dI)) (ci := 8) (v := .ref m10) (C := RX8) (T := TX8) (N := 17) hx hb hts hiX8 hown hK hP 1 rfl rfl 10 (by decide) (hts (.fieldLink RX8 37 "MadeItSoModel" "down" "[J") (by decide +kernel)) (fun _ h9 => h9) rfl dX8_adds_111 ?_
      refine lv_lload_n hx hb dX8_adds_114 rfl (lv_at hl 4 rfl) ?_
      have hPc := hP.sub (ws' := [(mo, .inr (8, [.int (nI n), .ref m1, .ref m2, .ref m3, .long ka, .long kb, .ref m6, .ref m7, .ref m8, .ref m9, .ref m10, .ref m11, .ref m12, .ref m13, .ref m14, .ref m15, .ref m16])), (m11, .inl (cJ, 200, .inr (.inl gh_46))), (m10, .inl (cJ, 200, .inr (.inl fd)))]) [1, 2, 3] rfl
      have hDc := hD.sub (ws' := [(mo, .inr (8, [.int (nI n), .ref m1, .ref m2, .ref m3, .long ka, .long kb, .ref m6, .ref m7, .ref m8, .ref m9, .ref m10, .ref m11, .ref m12, .ref m13, .ref m14, .ref m15, .ref m16])), (m11, .inl (cJ, 200, .inr (.inl gh_46))), (m10, .inl (cJ, 200, .inr (.inl fd)))]) [1, 2, 3] (by decide) rfl
      have hFc := va_free (wc := [(mo, .inr (8, [.int (nI n), .ref m1, .ref m2, .ref m3, .long ka, .long kb, .ref m6, .ref m7, .ref m8, .ref m9, .ref m10, .ref m11, .ref m12, .ref m13, .ref m14, .ref m15, .ref m16])), (m11, .inl (cJ, 200, .inr (.inl gh_46))), (m10, .inl (cJ, 200, .inr (.inl fd)))]) hD hS hA [1, 2, 3] rfl
      refine va_callv (va_runV (As := [.ref m10, .long p2]) (rest := []) ⟨hx, hb, hml, hown, hts⟩ (mz_m_times_down l dC dI cI cJ cZ mo m1 m2 m3 m6 m7 m8 m9 m10 m11 m12 m13 m14 m15 m16 n ka kb gh_46 fd p2 H.size ) (cwV 2 hts gX8_adds_X8_times rfl rfl rfl (by decide +kernel) ⟨Nat.le_of_ble_eq_true rfl, Nat.le_of_ble_eq_true rfl⟩) ⟨fun a U g mk q => mz_blI q, va_recv hK hPc (ci := 8) (q0 := 0) rfl rfl, fun U hU hW => ⟨rfl, by rw [hU], by rw [hU]; exact hPc, va_K.moved hW.alike hK, hDc.weaken (fun _ _ _ _ => trivial), mz_nw hW hN⟩⟩ rfl rfl hl.1 rfl (lv_room (Nat.le_of_ble_eq_true rfl)) dX8_adds_115 ⟨Nat.le_of_ble_eq_true rfl, Nat.le_of_ble_eq_true rfl⟩) hS (fun q _ h => hFc q h) hFc (fun u t H1 locs ht hvm hw_115 hB hz1 hk1 hS => ?_)
      obtain ⟨gh_115, hP1, hD1⟩ := hB
      rw [ht] at hP1
      obtain ⟨hP, hD⟩ := va_join (wr := [(m9, .inl (cJ, 200, .inr (.inl fm9_55)))]) (w1 := [(mo, .inr (8, [.int (nI n), .ref m1, .ref m2, .ref m3, .long ka, .long kb, .ref m6, .ref m7, .ref m8, .ref m9, .ref m10, .ref m11, .ref m12, .ref m13, .ref m14, .ref m15, .ref m16])), (m11, .inl (cJ, 200, .inr (.inl gh_115))), (m10, .inl (cJ, 200, .inr (.inl fd)))]) hP hD [1, 2, 3] [0] rfl rfl (by decide) (by decide) hk1 hFc hP1 hD1
      generalize H1 = H at hP hS ⊢
      have hP : va_P (dC, dI) vwCl [(m9, .inl (cJ, 200, .inr (.inl fm9_55))), (mo, .inr (8, [.int (nI n), .ref m1, .ref m2, .ref m3, .long ka, .long kb, .ref m6, .ref m7, .ref m8, .ref m9, .ref m10, .ref m11, .ref m12, .ref m13, .ref m14, .ref m15, .ref m16])), (m11, .inl (cJ, 200, .inr (.inl gh_115))), (m10, .inl (cJ, 200, .inr (.inl fd)))] H := hP
      have hD : va_D A [(m9, .inl (cJ, 200, .inr (.inl fm9_55))), (mo, .inr (8, [.int (nI n), .ref m1, .ref m2, .ref m3, .long ka, .long kb, .ref m6, .ref m7, .ref m8, .ref m9, .ref m10, .ref m11, .ref m12, .ref m13, .ref m14, .ref m15, .ref m16])), (m11, .inl (cJ, 200, .inr (.inl gh_115))), (m10, .inl (cJ, 200, .inr (.inl fd)))] := hD
      refine lv_iconst (v := 0) hx hb dX8_adds_118 (by decide +kernel) ?_
      refine lv_istore (lv' := [(7, .int 0), (5, .long x5_55), (0, .ref mo), (1, .long p1), (3, .long p2)]) hx hb dX8_adds_119 hl (by decide) rfl (fun ls hl => ?_)
      refine mz_loopU (fun k H locs ls => ∃ (i_121 : Nat), ∃ (fm10_121 : Nat → Int64), i_121 ≤ 200 ∧ va_P (dC, dI) vwCl [(m9, .inl (cJ, 200, .inr (.inl fm9_55))), (mo, .inr (8, [.int (nI n), .ref m1, .ref m2, .ref m3, .long ka, .long kb, .ref m6, .ref m7, .ref m8, .ref m9, .ref m10, .ref m11, .ref m12, .ref m13, .ref m14, .ref m15, .ref m16])), (m11, .inl (cJ, 200, .inr (.inl gh_115))), (m10, .inl (cJ, 200, .inr (.inl fm10_121)))] H ∧ va_D A [(m9, .inl (cJ, 200, .inr (.inl fm9_55))), (mo, .inr (8, [.int (nI n), .ref m1, .ref m2, .ref m3, .long ka, .long kb, .ref m6, .ref m7, .ref m8, .ref m9, .ref m10, .ref m11, .ref m12, .ref m13, .ref m14, .ref m15, .ref m16])), (m11, .inl (cJ, 200, .inr (.inl gh_115))), (m10, .inl (cJ, 200, .inr (.inl fm10_121)))] ∧ va_S A s.heap H locs ∧ lv_has ls 10 [(7, .int (nI i_121)), (5, .long x5_55), (0, .ref mo), (1, .long p1), (3, .long p2)] ∧ k = 200 - i_121) ?_ _ _ _ _ ⟨0, fd, by omega, hP, hD, hS, lv_sub hl [0, 1, 2, 3, 4] rfl, rfl⟩
      intro k_121 H locs ls hI_121 ih_121
      obtain ⟨i_121, fm10_121, hi_121, hP, hD, hS, hl, hk_121⟩ := hI_121
      refine lv_iload hx hb dX8_adds_121 (lv_at hl 0 rfl) ?_
      refine lv_sipush (v := 200) hx hb dX8_adds_123 (by decide +kernel) ?_
      refine lv_icmp_ge (tgt := 149) hx hb dX8_adds_126 (by decide) (fun c_126 => ?_) (fun c_126 => ?_)
      · skip
        have d_126 : 200 ≤ i_121 := (nI_leI (a := 200) (b := i_121) (by omega) (by omega)).mp c_126
        have hP9 := hP.sub (ws' := [(mo, .inr (8, [.int (nI n), .ref m1, .ref m2, .ref m3, .long ka, .long kb, .ref m6, .ref m7, .ref m8, .ref m9, .ref m10, .ref m11, .ref m12, .ref m13, .ref m14, .ref m15, .ref m16])), (m9, .inl (cJ, 200, .inr (.inl fm9_55))), (m10, .inl (cJ, 200, .inr (.inl fm10_121))), (m11, .inl (cJ, 200, .inr (.inl gh_115)))]) [1, 0, 3, 2] rfl
        have hD9 := hD.sub (ws' := [(mo, .inr (8, [.int (nI n), .ref m1, .ref m2, .ref m3, .long ka, .long kb, .ref m6, .ref m7, .ref m8, .ref m9, .ref m10, .ref m11, .ref m12, .ref m13, .ref m14, .ref m15, .ref m16])), (m9, .inl (cJ, 200, .inr (.inl fm9_55))), (m10, .inl (cJ, 200, .inr (.inl fm10_121))), (m11, .inl (cJ, 200, .inr (.inl gh_115)))]) [1, 0, 3, 2] (by decide) rfl
        refine W.widen (k := 0) (n := 0) (Nat.le_of_ble_eq_true rfl) (Nat.le_of_ble_eq_true rfl) ?_
        exact W.vret hx hb hr (fun t ht hW => ⟨⟨(), rfl, trivial, fm9_55, fm10_121, gh_115, by rw [ht]; exact hP9, hD9⟩, hS.F ht⟩) hS.2.2 dX8_adds_149
      · skip
        have d_126 : ¬ 200 ≤ i_121 := fun h => c_126 ((nI_leI (a := 200) (b := i_121) (by omega) (by omega)).mpr h)
        refine lv_aload_n hx hb dX8_adds_129 rfl (lv_at hl 2 rfl) ?_
        refine va_get (D := (dC, dI)) (ci := 8) (v := .ref m10) (C := RX8) (T := TX8) (N := 17) hx hb hts hiX8 hown hK hP 1 rfl rfl 10 (by decide) (hts (.fieldLink RX8 37 "MadeItSoModel" "down" "[J") (by decide +kernel)) (fun _ h9 => h9) rfl dX8_adds_130 ?_
        refine lv_iload hx hb dX8_adds_133 (lv_at hl 0 rfl) ?_
        refine lv_aload_n hx hb dX8_adds_135 rfl (lv_at hl 2 rfl) ?_
        refine va_get (D := (dC, dI)) (ci := 8) (v := .ref m11) (C := RX8) (T := TX8) (N := 17) hx hb hts hiX8 hown hK hP 1 rfl rfl 11 (by decide) (hts (.fieldLink RX8 40 "MadeItSoModel" "helper" "[J") (by decide +kernel)) (fun _ h9 => h9) rfl dX8_adds_136 ?_
        refine lv_iload hx hb dX8_adds_139 (lv_at hl 0 rfl) ?_
        refine va_lald hx hb hK hP 2 1 rfl rfl (vp_in_nI (by omega) (by omega)) dX8_adds_141 ?_
        refine lv_topl (fun v_141 ev_141 => ?_)
        refine va_last hx hb hK hP hD hS 3 1 rfl rfl (vp_in_nI (by omega) (by omega)) dX8_adds_142 (fun H locs hP hD hS => ?_)
        have hP : va_P (dC, dI) vwCl [(m9, .inl (cJ, 200, .inr (.inl fm9_55))), (mo, .inr (8, [.int (nI n), .ref m1, .ref m2, .ref m3, .long ka, .long kb, .ref m6, .ref m7, .ref m8, .ref m9, .ref m10, .ref m11, .ref m12, .ref m13, .ref m14, .ref m15, .ref m16])), (m11, .inl (cJ, 200, .inr (.inl gh_115))), (m10, .inl (cJ, 200, .inr (.inl (vp_updL fm10_121 ((nI i_121) : Int32).toNatClampNeg v_141))))] H := hP
        have hD : va_D A [(m9, .inl (cJ, 200, .inr (.inl fm9_55))), (mo, .inr (8, [.int (nI n), .ref m1, .ref m2, .ref m3, .long ka, .long kb, .ref m6, .ref m7, .ref m8, .ref m9, .ref m10, .ref m11, .ref m12, .ref m13, .ref m14, .ref m15, .ref m16])), (m11, .inl (cJ, 200, .inr (.inl gh_115))), (m10, .inl (cJ, 200, .inr (.inl (vp_updL fm10_121 ((nI i_121) : Int32).toNatClampNeg v_141))))] := hD
        generalize (vp_updL fm10_121 ((nI i_121) : Int32).toNatClampNeg v_141) = f_142 at hP hD
        refine lv_iinc (v := (nI (i_121 + 1))) (lv' := [(7, .int (nI (i_121 + 1))), (5, .long x5_55), (0, .ref mo), (1, .long p1), (3, .long p2)]) hx hb dX8_adds_143 hl (k := 0) rfl (nI_1 _) (by decide) rfl (fun ls hl => ?_)
        refine lv_goto (tgt := 121) hx hb dX8_adds_146 (by decide) ?_
        exact ih_121 _ (by omega) _ _ _ ⟨(i_121 + 1), f_142, by omega, hP, hD, hS, lv_sub hl [0, 1, 2, 3, 4] rfl, rfl⟩
    · skip
      have d_60 : ¬ 200 ≤ i_55 := fun h => c_60 ((nI_leI (a := 200) (b := i_55) (by omega) (by omega)).mpr h)
      refine lv_aload_n hx hb dX8_adds_63 rfl (lv_at hl 2 rfl) ?_
      refine va_get (D := (dC, dI)) (ci := 8) (v := .ref m9) (C := RX8) (T := TX8) (N := 17) hx hb hts hiX8 hown hK hP 1 rfl rfl 9 (by decide) (hts (.fieldLink RX8 33 "MadeItSoModel" "up" "[J") (by decide +kernel)) (fun _ h9 => h9) rfl dX8_adds_64 ?_
      refine lv_iload hx hb dX8_adds_67 (lv_at hl 0 rfl) ?_
      refine va_lald hx hb hK hP 0 1 rfl rfl (vp_in_nI (by omega) (by omega)) dX8_adds_69 ?_
      refine lv_topl (fun v_69 ev_69 => ?_)
      refine lv_aload_n hx hb dX8_adds_70 rfl (lv_at hl 2 rfl) ?_
      refine va_get (D := (dC, dI)) (ci := 8) (v := .ref m11) (C := RX8) (T := TX8) (N := 17) hx hb hts hiX8 hown hK hP 1 rfl rfl 11 (by decide) (hts (.fieldLink RX8 40 "MadeItSoModel" "helper" "[J") (by decide +kernel)) (fun _ h9 => h9) rfl dX8_adds_71 ?_
      refine lv_iload hx hb dX8_adds_74 (lv_at hl 0 rfl) ?_
      refine va_lald hx hb hK hP 2 1 rfl rfl (vp_in_nI (by omega) (by omega)) dX8_adds_76 ?_
      refine lv_topl (fun v_76 ev_76 => ?_)
      refine lv_ladd hx hb dX8_adds_77 ?_
      refine lv_topl (fun v_77 ev_77 => ?_)
      refine lv_lload hx hb dX8_adds_78 (lv_at hl 1 rfl) ?_
      refine lv_ladd hx hb dX8_adds_80 ?_
      refine lv_topl (fun v_80 ev_80 => ?_)
      refine lv_lstore (lv' := [(8, .long v_80), (7, .int (nI i_55)), (5, .long x5_55), (0, .ref mo), (1, .long p1), (3, .long p2)]) hx hb dX8_adds_81 hl (by decide) rfl (fun ls hl => ?_)
      refine lv_aload_n hx hb dX8_adds_83 rfl (lv_at hl 3 rfl) ?_
      refine va_get (D := (dC, dI)) (ci := 8) (v := .ref m9) (C := RX8) (T := TX8) (N := 17) hx hb hts hiX8 hown hK hP 1 rfl rfl 9 (by decide) (hts (.fieldLink RX8 33 "MadeItSoModel" "up" "[J") (by decide +kernel)) (fun _ h9 => h9) rfl dX8_adds_84 ?_
      refine lv_iload hx hb dX8_adds_87 (lv_at hl 1 rfl) ?_
      refine lv_lload hx hb dX8_adds_89 (lv_at hl 0 rfl) ?_
      refine lv_ldc2 hx hb hown (hts (.constantLong RX8 144 (16777215)) (by decide +kernel)) dX8_adds_91 ?_
      refine lv_land hx hb dX8_adds_94 ?_
      refine lv_topl (fun v_94 ev_94 => ?_)
      refine va_last hx hb hK hP hD hS 0 1 rfl rfl (vp_in_nI (by omega) (by omega)) dX8_adds_95 (fun H locs hP hD hS => ?_)
      have hP : va_P (dC, dI) vwCl [(m9, .inl (cJ, 200, .inr (.inl (vp_updL fm9_55 ((nI i_55) : Int32).toNatClampNeg v_94)))), (mo, .inr (8, [.int (nI n), .ref m1, .ref m2, .ref m3, .long ka, .long kb, .ref m6, .ref m7, .ref m8, .ref m9, .ref m10, .ref m11, .ref m12, .ref m13, .ref m14, .ref m15, .ref m16])), (m11, .inl (cJ, 200, .inr (.inl gh_46))), (m10, .inl (cJ, 200, .inr (.inl fd)))] H := hP
      have hD : va_D A [(m9, .inl (cJ, 200, .inr (.inl (vp_updL fm9_55 ((nI i_55) : Int32).toNatClampNeg v_94)))), (mo, .inr (8, [.int (nI n), .ref m1, .ref m2, .ref m3, .long ka, .long kb, .ref m6, .ref m7, .ref m8, .ref m9, .ref m10, .ref m11, .ref m12, .ref m13, .ref m14, .ref m15, .ref m16])), (m11, .inl (cJ, 200, .inr (.inl gh_46))), (m10, .inl (cJ, 200, .inr (.inl fd)))] := hD
      generalize (vp_updL fm9_55 ((nI i_55) : Int32).toNatClampNeg v_94) = f_95 at hP hD
      refine lv_lload hx hb dX8_adds_96 (lv_at hl 0 rfl) ?_
      refine lv_bipush (v := 24) hx hb dX8_adds_98 (by decide +kernel) ?_
      refine lv_lshr hx hb dX8_adds_100 rfl ?_
      refine lv_topl (fun v_100 ev_100 => ?_)
      refine lv_lstore (lv' := [(5, .long v_100), (8, .long v_80), (7, .int (nI i_55)), (0, .ref mo), (1, .long p1), (3, .long p2)]) hx hb dX8_adds_101 hl (by decide) rfl (fun ls hl => ?_)
      refine lv_iinc (v := (nI (i_55 + 1))) (lv' := [(7, .int (nI (i_55 + 1))), (5, .long v_100), (8, .long v_80), (0, .ref mo), (1, .long p1), (3, .long p2)]) hx hb dX8_adds_103 hl (k := 2) rfl (nI_1 _) (by decide) rfl (fun ls hl => ?_)
      refine lv_goto (tgt := 55) hx hb dX8_adds_106 (by decide) ?_
      exact ih_55 _ (by omega) _ _ _ ⟨(i_55 + 1), v_100, f_95, by omega, hP, hD, hS, lv_sub hl [0, 1, 3, 4, 5] rfl, rfl⟩
  · skip
    have d_17 : ¬ 200 ≤ i_12 := fun h => c_17 ((nI_leI (a := 200) (b := i_12) (by omega) (by omega)).mpr h)
    refine lv_aload_n hx hb dX8_adds_20 rfl (lv_at hl 1 rfl) ?_
    refine va_get (D := (dC, dI)) (ci := 8) (v := .ref m9) (C := RX8) (T := TX8) (N := 17) hx hb hts hiX8 hown hK hP 1 rfl rfl 9 (by decide) (hts (.fieldLink RX8 33 "MadeItSoModel" "up" "[J") (by decide +kernel)) (fun _ h9 => h9) rfl dX8_adds_21 ?_
    refine lv_iload hx hb dX8_adds_24 (lv_at hl 0 rfl) ?_
    refine lv_aload_n hx hb dX8_adds_26 rfl (lv_at hl 1 rfl) ?_
    refine va_get (D := (dC, dI)) (ci := 8) (v := .ref m11) (C := RX8) (T := TX8) (N := 17) hx hb hts hiX8 hown hK hP 1 rfl rfl 11 (by decide) (hts (.fieldLink RX8 40 "MadeItSoModel" "helper" "[J") (by decide +kernel)) (fun _ h9 => h9) rfl dX8_adds_27 ?_
    refine lv_iload hx hb dX8_adds_30 (lv_at hl 0 rfl) ?_
    refine va_lald hx hb hK hP 2 1 rfl rfl (vp_in_nI (by omega) (by omega)) dX8_adds_32 ?_
    refine lv_topl (fun v_32 ev_32 => ?_)
    refine va_last hx hb hK hP hD hS 3 1 rfl rfl (vp_in_nI (by omega) (by omega)) dX8_adds_33 (fun H locs hP hD hS => ?_)
    have hP : va_P (dC, dI) vwCl [(m10, .inl (cJ, 200, .inr (.inl fd))), (mo, .inr (8, [.int (nI n), .ref m1, .ref m2, .ref m3, .long ka, .long kb, .ref m6, .ref m7, .ref m8, .ref m9, .ref m10, .ref m11, .ref m12, .ref m13, .ref m14, .ref m15, .ref m16])), (m11, .inl (cJ, 200, .inr (.inl gh_6))), (m9, .inl (cJ, 200, .inr (.inl (vp_updL fm9_12 ((nI i_12) : Int32).toNatClampNeg v_32))))] H := hP
    have hD : va_D A [(m10, .inl (cJ, 200, .inr (.inl fd))), (mo, .inr (8, [.int (nI n), .ref m1, .ref m2, .ref m3, .long ka, .long kb, .ref m6, .ref m7, .ref m8, .ref m9, .ref m10, .ref m11, .ref m12, .ref m13, .ref m14, .ref m15, .ref m16])), (m11, .inl (cJ, 200, .inr (.inl gh_6))), (m9, .inl (cJ, 200, .inr (.inl (vp_updL fm9_12 ((nI i_12) : Int32).toNatClampNeg v_32))))] := hD
    generalize (vp_updL fm9_12 ((nI i_12) : Int32).toNatClampNeg v_32) = f_33 at hP hD
    refine lv_iinc (v := (nI (i_12 + 1))) (lv' := [(5, .int (nI (i_12 + 1))), (0, .ref mo), (1, .long p1), (3, .long p2)]) hx hb dX8_adds_34 hl (k := 0) rfl (nI_1 _) (by decide) rfl (fun ls hl => ?_)
    refine lv_goto (tgt := 12) hx hb dX8_adds_37 (by decide) ?_
    exact ih_12 _ (by omega) _ _ _ ⟨(i_12 + 1), f_33, by omega, hP, hD, hS, lv_sub hl [0, 1, 2, 3] rfl, rfl⟩
set_option maxHeartbeats 1000000 in
set_option maxRecDepth 100000 in
theorem mz_m_meetsLike (l : Launch) (dC : Nat → ClassId) (dI : Nat → Nat → Nat) (cI cJ cZ : ClassId) (mo : Nat) (m1 : Nat) (m2 : Nat) (m3 : Nat) (m6 : Nat) (m7 : Nat) (m8 : Nat) (m9 : Nat) (m10 : Nat) (m11 : Nat) (m12 : Nat) (m13 : Nat) (m14 : Nat) (m15 : Nat) (m16 : Nat) (n : Nat) (ka : Int64) (kb : Int64) (fp : Nat → Int32) (fj : Nat → Int32) (j : Nat) (p2 : Int32) (Hq : Heap) (hn : n ≤ 8) (hj : j < 8) : Met l yX8_meetsLike wsX8_meetsLike ({ frames := 0, cells := 0, slots := 0, locals := 0 }) (va_Pc [.ref mo, .int (nI j), .int p2] (fun U => U.heap = Hq ∧ va_P (dC, dI) vwCl [(mo, .inr (8, [.int (nI n), .ref m1, .ref m2, .ref m3, .long ka, .long kb, .ref m6, .ref m7, .ref m8, .ref m9, .ref m10, .ref m11, .ref m12, .ref m13, .ref m14, .ref m15, .ref m16])), (m2, .inl (cI, 8, .inl fp)), (m16, .inl (cI, 8, .inl fj))] Hq ∧ va_K (dC, dI) vwCl [(cI, FieldType.int), (cJ, FieldType.long), (cZ, FieldType.boolean)] U ∧ mz_N U)) (va_Qi (fun (r : Int32) (_ : Unit) => r = 0 ∨ r = 1) (fun _ t => t.heap = Hq) (fun _ : Nat => False)) 0 0 (fun _ : Nat => False) := by
  refine Met.ofW (cc := cX8_meetsLike) (maxL := 7) (ret := (some .boolean)) (by decide) rfl ?_
  intro p e s m args below meth c s₁ B hml hv
  obtain ⟨rfl, hH, hP, hK, hN⟩ := hv
  subst hH
  have hx := B.exec
  have hb := B.bytes
  have hr := B.returns
  have hts := atoms_spec (ws := wsX8_meetsLike) B.pre
  have hown : s.vm.findClass RX8 = some m.cls := findClass_of_methodNamed B.named
  have hlocks := B.notSynchronized
  have hS : va_S (fun _ : Nat => False) s.heap s.heap [] := va_S.rf
  have hiX8 : ∀ w ∈ u_ws RX8 TX8 17, w ∈ wsX8_meetsLike := by decide +kernel
  have hl := lv_entry ([.ref mo, .int (nI j), .int p2]) (n := 7) (Nat.le_of_ble_eq_true rfl)
  rw [lg_entry_eq]
  generalize (lg_sl ([.ref mo, .int (nI j), .int p2]) ++ List.replicate (7 - (lg_sl ([.ref mo, .int (nI j), .int p2])).length) Slot.unset).toArray = ls at hl ⊢
  have hl : lv_has ls 7 [(0, .ref mo), (1, .int (nI j)), (2, .int p2)] := hl
  refine lv_iconst (v := 0) hx hb dX8_meetsLike_0 (by decide +kernel) ?_
  refine lv_istore_n (lv' := [(3, .int 0), (0, .ref mo), (1, .int (nI j)), (2, .int p2)]) hx hb dX8_meetsLike_1 rfl hl (by decide) rfl (fun ls hl => ?_)
  refine mz_loopU (fun k H locs ls => ∃ (i_2 : Nat), i_2 ≤ n ∧ H = s.heap ∧ va_S (fun _ : Nat => False) s.heap H locs ∧ lv_has ls 7 [(3, .int (nI i_2)), (0, .ref mo), (1, .int (nI j)), (2, .int p2)] ∧ k = n - i_2) ?_ _ _ _ _ ⟨0, by omega, rfl, hS, lv_sub hl [0, 1, 2, 3] rfl, rfl⟩
  intro k_2 H locs ls hI_2 ih_2
  obtain ⟨i_2, hi_2, hH_2, hS, hl, hk_2⟩ := hI_2
  subst hH_2
  refine lv_iload_n hx hb dX8_meetsLike_2 rfl (lv_at hl 0 rfl) ?_
  refine lv_aload_n hx hb dX8_meetsLike_3 rfl (lv_at hl 1 rfl) ?_
  refine va_get (D := (dC, dI)) (ci := 8) (v := .int (nI n)) (C := RX8) (T := TX8) (N := 17) hx hb hts hiX8 hown hK hP 0 rfl rfl 0 (by decide) (hts (.fieldLink RX8 58 "MadeItSoModel" "many" "I") (by decide +kernel)) (fun _ h9 => h9) rfl dX8_meetsLike_4 ?_
  refine lv_icmp_ge (tgt := 120) hx hb dX8_meetsLike_7 (by decide) (fun c_7 => ?_) (fun c_7 => ?_)
  · skip
    have d_7 : n ≤ i_2 := (nI_leI (a := n) (b := i_2) (by omega) (by omega)).mp c_7
    refine lv_iconst (v := 1) hx hb dX8_meetsLike_120 (by decide +kernel) ?_
    refine W.widen (k := 0) (n := 0) (Nat.le_of_ble_eq_true rfl) (Nat.le_of_ble_eq_true rfl) ?_
    exact W.zret (v := 1) hx hb hr (mz_nz (by decide +kernel)) (fun t ht hW => ⟨⟨1, (), rfl, Or.inr rfl, ht⟩, hS.F ht⟩) hS.2.2 dX8_meetsLike_121
  · skip
    have d_7 : ¬ n ≤ i_2 := fun h => c_7 ((nI_leI (a := n) (b := i_2) (by omega) (by omega)).mpr h)
    refine lv_iconst (v := 0) hx hb dX8_meetsLike_10 (by decide +kernel) ?_
    refine lv_istore (lv' := [(4, .int 0), (3, .int (nI i_2)), (0, .ref mo), (1, .int (nI j)), (2, .int p2)]) hx hb dX8_meetsLike_11 hl (by decide) rfl (fun ls hl => ?_)
    refine mz_loopU (fun k H locs ls => ∃ (i_13 : Nat), i_13 ≤ i_2 ∧ H = s.heap ∧ va_S (fun _ : Nat => False) s.heap H locs ∧ lv_has ls 7 [(4, .int (nI i_13)), (3, .int (nI i_2)), (0, .ref mo), (1, .int (nI j)), (2, .int p2)] ∧ k = i_2 - i_13) ?_ _ _ _ _ ⟨0, by omega, rfl, hS, lv_sub hl [0, 1, 2, 3, 4] rfl, rfl⟩
    intro k_13 H locs ls hI_13 ih_13
    obtain ⟨i_13, hi_13, hH_13, hS, hl, hk_13⟩ := hI_13
    subst hH_13
    refine lv_iload hx hb dX8_meetsLike_13 (lv_at hl 0 rfl) ?_
    refine lv_iload_n hx hb dX8_meetsLike_15 rfl (lv_at hl 1 rfl) ?_
    refine lv_icmp_ge (tgt := 114) hx hb dX8_meetsLike_16 (by decide) (fun c_16 => ?_) (fun c_16 => ?_)
    · skip
      have d_16 : i_2 ≤ i_13 := (nI_leI (a := i_2) (b := i_13) (by omega) (by omega)).mp c_16
      refine lv_iinc (v := (nI (i_2 + 1))) (lv' := [(3, .int (nI (i_2 + 1))), (4, .int (nI i_13)), (0, .ref mo), (1, .int (nI j)), (2, .int p2)]) hx hb dX8_meetsLike_114 hl (k := 1) rfl (nI_1 _) (by decide) rfl (fun ls hl => ?_)
      refine lv_goto (tgt := 2) hx hb dX8_meetsLike_117 (by decide) ?_
      exact ih_2 _ (by omega) _ _ _ ⟨(i_2 + 1), by omega, rfl, hS, lv_sub hl [0, 2, 3, 4] rfl, rfl⟩
    · skip
      have d_16 : ¬ i_2 ≤ i_13 := fun h => c_16 ((nI_leI (a := i_2) (b := i_13) (by omega) (by omega)).mpr h)
      refine lv_aload_n hx hb dX8_meetsLike_19 rfl (lv_at hl 2 rfl) ?_
      refine va_get (D := (dC, dI)) (ci := 8) (v := .ref m16) (C := RX8) (T := TX8) (N := 17) hx hb hts hiX8 hown hK hP 0 rfl rfl 16 (by decide) (hts (.fieldLink RX8 55 "MadeItSoModel" "joined" "[I") (by decide +kernel)) (fun _ h9 => h9) rfl dX8_meetsLike_20 ?_
      refine lv_iload_n hx hb dX8_meetsLike_23 rfl (lv_at hl 1 rfl) ?_
      refine va_iald hx hb hK hP 2 0 rfl rfl (vp_in_nI (by omega) (by omega)) dX8_meetsLike_24 ?_
      refine lv_topi (fun v_24 ev_24 => ?_)
      refine lv_iload hx hb dX8_meetsLike_25 (lv_at hl 0 rfl) ?_
      refine lv_ishr hx hb dX8_meetsLike_27 ?_
      refine lv_topi (fun v_27 ev_27 => ?_)
      refine lv_iconst (v := 1) hx hb dX8_meetsLike_28 (by decide +kernel) ?_
      refine lv_iand hx hb dX8_meetsLike_29 ?_
      refine lv_topi (fun v_29 ev_29 => ?_)
      refine lv_iconst (v := 1) hx hb dX8_meetsLike_30 (by decide +kernel) ?_
      refine lv_icmp_ne (tgt := 37) hx hb dX8_meetsLike_31 (by decide) (fun c_31 => ?_) (fun c_31 => ?_)
      · skip
        refine lv_iload_n hx hb dX8_meetsLike_37 rfl (lv_at hl 4 rfl) ?_
        refine lv_iload_n hx hb dX8_meetsLike_38 rfl (lv_at hl 1 rfl) ?_
        refine lv_ishr hx hb dX8_meetsLike_39 ?_
        refine lv_topi (fun v_39 ev_39 => ?_)
        refine lv_iconst (v := 1) hx hb dX8_meetsLike_40 (by decide +kernel) ?_
        refine lv_iand hx hb dX8_meetsLike_41 ?_
        refine lv_topi (fun v_41 ev_41 => ?_)
        refine lv_iconst (v := 1) hx hb dX8_meetsLike_42 (by decide +kernel) ?_
        refine lv_icmp_ne (tgt := 60) hx hb dX8_meetsLike_43 (by decide) (fun c_43 => ?_) (fun c_43 => ?_)
        · skip
          refine lv_iconst (v := 0) hx hb dX8_meetsLike_60 (by decide +kernel) ?_
          refine lv_istore (lv' := [(5, .int 0), (4, .int (nI i_13)), (3, .int (nI i_2)), (0, .ref mo), (1, .int (nI j)), (2, .int p2)]) hx hb dX8_meetsLike_61 hl (by decide) rfl (fun ls hl => ?_)
          refine lv_aload_n hx hb dX8_meetsLike_63 rfl (lv_at hl 3 rfl) ?_
          refine va_get (D := (dC, dI)) (ci := 8) (v := .ref m2) (C := RX8) (T := TX8) (N := 17) hx hb hts hiX8 hown hK hP 0 rfl rfl 2 (by decide) (hts (.fieldLink RX8 13 "MadeItSoModel" "parents" "[I") (by decide +kernel)) (fun _ h9 => h9) rfl dX8_meetsLike_64 ?_
          refine lv_iload_n hx hb dX8_meetsLike_67 rfl (lv_at hl 4 rfl) ?_
          refine va_iald hx hb hK hP 1 0 rfl rfl (vp_in_nI (by omega) (by omega)) dX8_meetsLike_68 ?_
          refine lv_topi (fun v_68 ev_68 => ?_)
          refine lv_iload_n hx hb dX8_meetsLike_69 rfl (lv_at hl 2 rfl) ?_
          refine lv_ishr hx hb dX8_meetsLike_70 ?_
          refine lv_topi (fun v_70 ev_70 => ?_)
          refine lv_iconst (v := 1) hx hb dX8_meetsLike_71 (by decide +kernel) ?_
          refine lv_iand hx hb dX8_meetsLike_72 ?_
          refine lv_topi (fun v_72 ev_72 => ?_)
          refine lv_iconst (v := 1) hx hb dX8_meetsLike_73 (by decide +kernel) ?_
          refine lv_icmp_ne (tgt := 96) hx hb dX8_meetsLike_74 (by decide) (fun c_74 => ?_) (fun c_74 => ?_)
          · skip
            refine lv_iconst (v := 0) hx hb dX8_meetsLike_96 (by decide +kernel) ?_
            refine lv_istore (lv' := [(6, .int 0), (5, .int 0), (4, .int (nI i_13)), (3, .int (nI i_2)), (0, .ref mo), (1, .int (nI j)), (2, .int p2)]) hx hb dX8_meetsLike_97 hl (by decide) rfl (fun ls hl => ?_)
            refine lv_iload hx hb dX8_meetsLike_99 (lv_at hl 1 rfl) ?_
            refine lv_iload hx hb dX8_meetsLike_101 (lv_at hl 0 rfl) ?_
            refine lv_icmp_eq (tgt := 108) hx hb dX8_meetsLike_103 (by decide) (fun _ => ?_) (fun c_103 => absurd (by decide +kernel) c_103)
            refine lv_iinc (v := (nI (i_13 + 1))) (lv' := [(4, .int (nI (i_13 + 1))), (6, .int 0), (5, .int 0), (3, .int (nI i_2)), (0, .ref mo), (1, .int (nI j)), (2, .int p2)]) hx hb dX8_meetsLike_108 hl (k := 2) rfl (nI_1 _) (by decide) rfl (fun ls hl => ?_)
            refine lv_goto (tgt := 13) hx hb dX8_meetsLike_111 (by decide) ?_
            exact ih_13 _ (by omega) _ _ _ ⟨(i_13 + 1), by omega, rfl, hS, lv_sub hl [0, 3, 4, 5, 6] rfl, rfl⟩
          · skip
            refine lv_aload_n hx hb dX8_meetsLike_77 rfl (lv_at hl 3 rfl) ?_
            refine va_get (D := (dC, dI)) (ci := 8) (v := .ref m2) (C := RX8) (T := TX8) (N := 17) hx hb hts hiX8 hown hK hP 0 rfl rfl 2 (by decide) (hts (.fieldLink RX8 13 "MadeItSoModel" "parents" "[I") (by decide +kernel)) (fun _ h9 => h9) rfl dX8_meetsLike_78 ?_
            refine lv_iload_n hx hb dX8_meetsLike_81 rfl (lv_at hl 4 rfl) ?_
            refine va_iald hx hb hK hP 1 0 rfl rfl (vp_in_nI (by omega) (by omega)) dX8_meetsLike_82 ?_
            refine lv_topi (fun v_82 ev_82 => ?_)
            refine lv_iload hx hb dX8_meetsLike_83 (lv_at hl 1 rfl) ?_
            refine lv_ishr hx hb dX8_meetsLike_85 ?_
            refine lv_topi (fun v_85 ev_85 => ?_)
            refine lv_iconst (v := 1) hx hb dX8_meetsLike_86 (by decide +kernel) ?_
            refine lv_iand hx hb dX8_meetsLike_87 ?_
            refine lv_topi (fun v_87 ev_87 => ?_)
            refine lv_iconst (v := 1) hx hb dX8_meetsLike_88 (by decide +kernel) ?_
            refine lv_icmp_ne (tgt := 96) hx hb dX8_meetsLike_89 (by decide) (fun c_89 => ?_) (fun c_89 => ?_)
            · skip
              refine lv_iconst (v := 0) hx hb dX8_meetsLike_96 (by decide +kernel) ?_
              refine lv_istore (lv' := [(6, .int 0), (5, .int 0), (4, .int (nI i_13)), (3, .int (nI i_2)), (0, .ref mo), (1, .int (nI j)), (2, .int p2)]) hx hb dX8_meetsLike_97 hl (by decide) rfl (fun ls hl => ?_)
              refine lv_iload hx hb dX8_meetsLike_99 (lv_at hl 1 rfl) ?_
              refine lv_iload hx hb dX8_meetsLike_101 (lv_at hl 0 rfl) ?_
              refine lv_icmp_eq (tgt := 108) hx hb dX8_meetsLike_103 (by decide) (fun _ => ?_) (fun c_103 => absurd (by decide +kernel) c_103)
              refine lv_iinc (v := (nI (i_13 + 1))) (lv' := [(4, .int (nI (i_13 + 1))), (6, .int 0), (5, .int 0), (3, .int (nI i_2)), (0, .ref mo), (1, .int (nI j)), (2, .int p2)]) hx hb dX8_meetsLike_108 hl (k := 2) rfl (nI_1 _) (by decide) rfl (fun ls hl => ?_)
              refine lv_goto (tgt := 13) hx hb dX8_meetsLike_111 (by decide) ?_
              exact ih_13 _ (by omega) _ _ _ ⟨(i_13 + 1), by omega, rfl, hS, lv_sub hl [0, 3, 4, 5, 6] rfl, rfl⟩
            · skip
              refine lv_iconst (v := 1) hx hb dX8_meetsLike_92 (by decide +kernel) ?_
              refine lv_goto (tgt := 97) hx hb dX8_meetsLike_93 (by decide) ?_
              refine lv_istore (lv' := [(6, .int 1), (5, .int 0), (4, .int (nI i_13)), (3, .int (nI i_2)), (0, .ref mo), (1, .int (nI j)), (2, .int p2)]) hx hb dX8_meetsLike_97 hl (by decide) rfl (fun ls hl => ?_)
              refine lv_iload hx hb dX8_meetsLike_99 (lv_at hl 1 rfl) ?_
              refine lv_iload hx hb dX8_meetsLike_101 (lv_at hl 0 rfl) ?_
              refine lv_icmp_eq (tgt := 108) hx hb dX8_meetsLike_103 (by decide) (fun c_103 => absurd c_103 (by decide +kernel)) (fun _ => ?_)
              refine lv_iconst (v := 0) hx hb dX8_meetsLike_106 (by decide +kernel) ?_
              refine W.widen (k := 0) (n := 0) (Nat.le_of_ble_eq_true rfl) (Nat.le_of_ble_eq_true rfl) ?_
              exact W.zret (v := 0) hx hb hr (mz_nz (by decide +kernel)) (fun t ht hW => ⟨⟨0, (), rfl, Or.inl rfl, ht⟩, hS.F ht⟩) hS.2.2 dX8_meetsLike_107
        · skip
          refine lv_iload_n hx hb dX8_meetsLike_46 rfl (lv_at hl 4 rfl) ?_
          refine lv_iload hx hb dX8_meetsLike_47 (lv_at hl 0 rfl) ?_
          refine lv_ishr hx hb dX8_meetsLike_49 ?_
          refine lv_topi (fun v_49 ev_49 => ?_)
          refine lv_iconst (v := 1) hx hb dX8_meetsLike_50 (by decide +kernel) ?_
          refine lv_iand hx hb dX8_meetsLike_51 ?_
          refine lv_topi (fun v_51 ev_51 => ?_)
          refine lv_iconst (v := 1) hx hb dX8_meetsLike_52 (by decide +kernel) ?_
          refine lv_icmp_ne (tgt := 60) hx hb dX8_meetsLike_53 (by decide) (fun c_53 => ?_) (fun c_53 => ?_)
          · skip
            refine lv_iconst (v := 0) hx hb dX8_meetsLike_60 (by decide +kernel) ?_
            refine lv_istore (lv' := [(5, .int 0), (4, .int (nI i_13)), (3, .int (nI i_2)), (0, .ref mo), (1, .int (nI j)), (2, .int p2)]) hx hb dX8_meetsLike_61 hl (by decide) rfl (fun ls hl => ?_)
            refine lv_aload_n hx hb dX8_meetsLike_63 rfl (lv_at hl 3 rfl) ?_
            refine va_get (D := (dC, dI)) (ci := 8) (v := .ref m2) (C := RX8) (T := TX8) (N := 17) hx hb hts hiX8 hown hK hP 0 rfl rfl 2 (by decide) (hts (.fieldLink RX8 13 "MadeItSoModel" "parents" "[I") (by decide +kernel)) (fun _ h9 => h9) rfl dX8_meetsLike_64 ?_
            refine lv_iload_n hx hb dX8_meetsLike_67 rfl (lv_at hl 4 rfl) ?_
            refine va_iald hx hb hK hP 1 0 rfl rfl (vp_in_nI (by omega) (by omega)) dX8_meetsLike_68 ?_
            refine lv_topi (fun v_68 ev_68 => ?_)
            refine lv_iload_n hx hb dX8_meetsLike_69 rfl (lv_at hl 2 rfl) ?_
            refine lv_ishr hx hb dX8_meetsLike_70 ?_
            refine lv_topi (fun v_70 ev_70 => ?_)
            refine lv_iconst (v := 1) hx hb dX8_meetsLike_71 (by decide +kernel) ?_
            refine lv_iand hx hb dX8_meetsLike_72 ?_
            refine lv_topi (fun v_72 ev_72 => ?_)
            refine lv_iconst (v := 1) hx hb dX8_meetsLike_73 (by decide +kernel) ?_
            refine lv_icmp_ne (tgt := 96) hx hb dX8_meetsLike_74 (by decide) (fun c_74 => ?_) (fun c_74 => ?_)
            · skip
              refine lv_iconst (v := 0) hx hb dX8_meetsLike_96 (by decide +kernel) ?_
              refine lv_istore (lv' := [(6, .int 0), (5, .int 0), (4, .int (nI i_13)), (3, .int (nI i_2)), (0, .ref mo), (1, .int (nI j)), (2, .int p2)]) hx hb dX8_meetsLike_97 hl (by decide) rfl (fun ls hl => ?_)
              refine lv_iload hx hb dX8_meetsLike_99 (lv_at hl 1 rfl) ?_
              refine lv_iload hx hb dX8_meetsLike_101 (lv_at hl 0 rfl) ?_
              refine lv_icmp_eq (tgt := 108) hx hb dX8_meetsLike_103 (by decide) (fun _ => ?_) (fun c_103 => absurd (by decide +kernel) c_103)
              refine lv_iinc (v := (nI (i_13 + 1))) (lv' := [(4, .int (nI (i_13 + 1))), (6, .int 0), (5, .int 0), (3, .int (nI i_2)), (0, .ref mo), (1, .int (nI j)), (2, .int p2)]) hx hb dX8_meetsLike_108 hl (k := 2) rfl (nI_1 _) (by decide) rfl (fun ls hl => ?_)
              refine lv_goto (tgt := 13) hx hb dX8_meetsLike_111 (by decide) ?_
              exact ih_13 _ (by omega) _ _ _ ⟨(i_13 + 1), by omega, rfl, hS, lv_sub hl [0, 3, 4, 5, 6] rfl, rfl⟩
            · skip
              refine lv_aload_n hx hb dX8_meetsLike_77 rfl (lv_at hl 3 rfl) ?_
              refine va_get (D := (dC, dI)) (ci := 8) (v := .ref m2) (C := RX8) (T := TX8) (N := 17) hx hb hts hiX8 hown hK hP 0 rfl rfl 2 (by decide) (hts (.fieldLink RX8 13 "MadeItSoModel" "parents" "[I") (by decide +kernel)) (fun _ h9 => h9) rfl dX8_meetsLike_78 ?_
              refine lv_iload_n hx hb dX8_meetsLike_81 rfl (lv_at hl 4 rfl) ?_
              refine va_iald hx hb hK hP 1 0 rfl rfl (vp_in_nI (by omega) (by omega)) dX8_meetsLike_82 ?_
              refine lv_topi (fun v_82 ev_82 => ?_)
              refine lv_iload hx hb dX8_meetsLike_83 (lv_at hl 1 rfl) ?_
              refine lv_ishr hx hb dX8_meetsLike_85 ?_
              refine lv_topi (fun v_85 ev_85 => ?_)
              refine lv_iconst (v := 1) hx hb dX8_meetsLike_86 (by decide +kernel) ?_
              refine lv_iand hx hb dX8_meetsLike_87 ?_
              refine lv_topi (fun v_87 ev_87 => ?_)
              refine lv_iconst (v := 1) hx hb dX8_meetsLike_88 (by decide +kernel) ?_
              refine lv_icmp_ne (tgt := 96) hx hb dX8_meetsLike_89 (by decide) (fun c_89 => ?_) (fun c_89 => ?_)
              · skip
                refine lv_iconst (v := 0) hx hb dX8_meetsLike_96 (by decide +kernel) ?_
                refine lv_istore (lv' := [(6, .int 0), (5, .int 0), (4, .int (nI i_13)), (3, .int (nI i_2)), (0, .ref mo), (1, .int (nI j)), (2, .int p2)]) hx hb dX8_meetsLike_97 hl (by decide) rfl (fun ls hl => ?_)
                refine lv_iload hx hb dX8_meetsLike_99 (lv_at hl 1 rfl) ?_
                refine lv_iload hx hb dX8_meetsLike_101 (lv_at hl 0 rfl) ?_
                refine lv_icmp_eq (tgt := 108) hx hb dX8_meetsLike_103 (by decide) (fun _ => ?_) (fun c_103 => absurd (by decide +kernel) c_103)
                refine lv_iinc (v := (nI (i_13 + 1))) (lv' := [(4, .int (nI (i_13 + 1))), (6, .int 0), (5, .int 0), (3, .int (nI i_2)), (0, .ref mo), (1, .int (nI j)), (2, .int p2)]) hx hb dX8_meetsLike_108 hl (k := 2) rfl (nI_1 _) (by decide) rfl (fun ls hl => ?_)
                refine lv_goto (tgt := 13) hx hb dX8_meetsLike_111 (by decide) ?_
                exact ih_13 _ (by omega) _ _ _ ⟨(i_13 + 1), by omega, rfl, hS, lv_sub hl [0, 3, 4, 5, 6] rfl, rfl⟩
              · skip
                refine lv_iconst (v := 1) hx hb dX8_meetsLike_92 (by decide +kernel) ?_
                refine lv_goto (tgt := 97) hx hb dX8_meetsLike_93 (by decide) ?_
                refine lv_istore (lv' := [(6, .int 1), (5, .int 0), (4, .int (nI i_13)), (3, .int (nI i_2)), (0, .ref mo), (1, .int (nI j)), (2, .int p2)]) hx hb dX8_meetsLike_97 hl (by decide) rfl (fun ls hl => ?_)
                refine lv_iload hx hb dX8_meetsLike_99 (lv_at hl 1 rfl) ?_
                refine lv_iload hx hb dX8_meetsLike_101 (lv_at hl 0 rfl) ?_
                refine lv_icmp_eq (tgt := 108) hx hb dX8_meetsLike_103 (by decide) (fun c_103 => absurd c_103 (by decide +kernel)) (fun _ => ?_)
                refine lv_iconst (v := 0) hx hb dX8_meetsLike_106 (by decide +kernel) ?_
                refine W.widen (k := 0) (n := 0) (Nat.le_of_ble_eq_true rfl) (Nat.le_of_ble_eq_true rfl) ?_
                exact W.zret (v := 0) hx hb hr (mz_nz (by decide +kernel)) (fun t ht hW => ⟨⟨0, (), rfl, Or.inl rfl, ht⟩, hS.F ht⟩) hS.2.2 dX8_meetsLike_107
          · skip
            refine lv_iconst (v := 1) hx hb dX8_meetsLike_56 (by decide +kernel) ?_
            refine lv_goto (tgt := 61) hx hb dX8_meetsLike_57 (by decide) ?_
            refine lv_istore (lv' := [(5, .int 1), (4, .int (nI i_13)), (3, .int (nI i_2)), (0, .ref mo), (1, .int (nI j)), (2, .int p2)]) hx hb dX8_meetsLike_61 hl (by decide) rfl (fun ls hl => ?_)
            refine lv_aload_n hx hb dX8_meetsLike_63 rfl (lv_at hl 3 rfl) ?_
            refine va_get (D := (dC, dI)) (ci := 8) (v := .ref m2) (C := RX8) (T := TX8) (N := 17) hx hb hts hiX8 hown hK hP 0 rfl rfl 2 (by decide) (hts (.fieldLink RX8 13 "MadeItSoModel" "parents" "[I") (by decide +kernel)) (fun _ h9 => h9) rfl dX8_meetsLike_64 ?_
            refine lv_iload_n hx hb dX8_meetsLike_67 rfl (lv_at hl 4 rfl) ?_
            refine va_iald hx hb hK hP 1 0 rfl rfl (vp_in_nI (by omega) (by omega)) dX8_meetsLike_68 ?_
            refine lv_topi (fun v_68 ev_68 => ?_)
            refine lv_iload_n hx hb dX8_meetsLike_69 rfl (lv_at hl 2 rfl) ?_
            refine lv_ishr hx hb dX8_meetsLike_70 ?_
            refine lv_topi (fun v_70 ev_70 => ?_)
            refine lv_iconst (v := 1) hx hb dX8_meetsLike_71 (by decide +kernel) ?_
            refine lv_iand hx hb dX8_meetsLike_72 ?_
            refine lv_topi (fun v_72 ev_72 => ?_)
            refine lv_iconst (v := 1) hx hb dX8_meetsLike_73 (by decide +kernel) ?_
            refine lv_icmp_ne (tgt := 96) hx hb dX8_meetsLike_74 (by decide) (fun c_74 => ?_) (fun c_74 => ?_)
            · skip
              refine lv_iconst (v := 0) hx hb dX8_meetsLike_96 (by decide +kernel) ?_
              refine lv_istore (lv' := [(6, .int 0), (5, .int 1), (4, .int (nI i_13)), (3, .int (nI i_2)), (0, .ref mo), (1, .int (nI j)), (2, .int p2)]) hx hb dX8_meetsLike_97 hl (by decide) rfl (fun ls hl => ?_)
              refine lv_iload hx hb dX8_meetsLike_99 (lv_at hl 1 rfl) ?_
              refine lv_iload hx hb dX8_meetsLike_101 (lv_at hl 0 rfl) ?_
              refine lv_icmp_eq (tgt := 108) hx hb dX8_meetsLike_103 (by decide) (fun c_103 => absurd c_103 (by decide +kernel)) (fun _ => ?_)
              refine lv_iconst (v := 0) hx hb dX8_meetsLike_106 (by decide +kernel) ?_
              refine W.widen (k := 0) (n := 0) (Nat.le_of_ble_eq_true rfl) (Nat.le_of_ble_eq_true rfl) ?_
              exact W.zret (v := 0) hx hb hr (mz_nz (by decide +kernel)) (fun t ht hW => ⟨⟨0, (), rfl, Or.inl rfl, ht⟩, hS.F ht⟩) hS.2.2 dX8_meetsLike_107
            · skip
              refine lv_aload_n hx hb dX8_meetsLike_77 rfl (lv_at hl 3 rfl) ?_
              refine va_get (D := (dC, dI)) (ci := 8) (v := .ref m2) (C := RX8) (T := TX8) (N := 17) hx hb hts hiX8 hown hK hP 0 rfl rfl 2 (by decide) (hts (.fieldLink RX8 13 "MadeItSoModel" "parents" "[I") (by decide +kernel)) (fun _ h9 => h9) rfl dX8_meetsLike_78 ?_
              refine lv_iload_n hx hb dX8_meetsLike_81 rfl (lv_at hl 4 rfl) ?_
              refine va_iald hx hb hK hP 1 0 rfl rfl (vp_in_nI (by omega) (by omega)) dX8_meetsLike_82 ?_
              refine lv_topi (fun v_82 ev_82 => ?_)
              refine lv_iload hx hb dX8_meetsLike_83 (lv_at hl 1 rfl) ?_
              refine lv_ishr hx hb dX8_meetsLike_85 ?_
              refine lv_topi (fun v_85 ev_85 => ?_)
              refine lv_iconst (v := 1) hx hb dX8_meetsLike_86 (by decide +kernel) ?_
              refine lv_iand hx hb dX8_meetsLike_87 ?_
              refine lv_topi (fun v_87 ev_87 => ?_)
              refine lv_iconst (v := 1) hx hb dX8_meetsLike_88 (by decide +kernel) ?_
              refine lv_icmp_ne (tgt := 96) hx hb dX8_meetsLike_89 (by decide) (fun c_89 => ?_) (fun c_89 => ?_)
              · skip
                refine lv_iconst (v := 0) hx hb dX8_meetsLike_96 (by decide +kernel) ?_
                refine lv_istore (lv' := [(6, .int 0), (5, .int 1), (4, .int (nI i_13)), (3, .int (nI i_2)), (0, .ref mo), (1, .int (nI j)), (2, .int p2)]) hx hb dX8_meetsLike_97 hl (by decide) rfl (fun ls hl => ?_)
                refine lv_iload hx hb dX8_meetsLike_99 (lv_at hl 1 rfl) ?_
                refine lv_iload hx hb dX8_meetsLike_101 (lv_at hl 0 rfl) ?_
                refine lv_icmp_eq (tgt := 108) hx hb dX8_meetsLike_103 (by decide) (fun c_103 => absurd c_103 (by decide +kernel)) (fun _ => ?_)
                refine lv_iconst (v := 0) hx hb dX8_meetsLike_106 (by decide +kernel) ?_
                refine W.widen (k := 0) (n := 0) (Nat.le_of_ble_eq_true rfl) (Nat.le_of_ble_eq_true rfl) ?_
                exact W.zret (v := 0) hx hb hr (mz_nz (by decide +kernel)) (fun t ht hW => ⟨⟨0, (), rfl, Or.inl rfl, ht⟩, hS.F ht⟩) hS.2.2 dX8_meetsLike_107
              · skip
                refine lv_iconst (v := 1) hx hb dX8_meetsLike_92 (by decide +kernel) ?_
                refine lv_goto (tgt := 97) hx hb dX8_meetsLike_93 (by decide) ?_
                refine lv_istore (lv' := [(6, .int 1), (5, .int 1), (4, .int (nI i_13)), (3, .int (nI i_2)), (0, .ref mo), (1, .int (nI j)), (2, .int p2)]) hx hb dX8_meetsLike_97 hl (by decide) rfl (fun ls hl => ?_)
                refine lv_iload hx hb dX8_meetsLike_99 (lv_at hl 1 rfl) ?_
                refine lv_iload hx hb dX8_meetsLike_101 (lv_at hl 0 rfl) ?_
                refine lv_icmp_eq (tgt := 108) hx hb dX8_meetsLike_103 (by decide) (fun _ => ?_) (fun c_103 => absurd (by decide +kernel) c_103)
                refine lv_iinc (v := (nI (i_13 + 1))) (lv' := [(4, .int (nI (i_13 + 1))), (6, .int 1), (5, .int 1), (3, .int (nI i_2)), (0, .ref mo), (1, .int (nI j)), (2, .int p2)]) hx hb dX8_meetsLike_108 hl (k := 2) rfl (nI_1 _) (by decide) rfl (fun ls hl => ?_)
                refine lv_goto (tgt := 13) hx hb dX8_meetsLike_111 (by decide) ?_
                exact ih_13 _ (by omega) _ _ _ ⟨(i_13 + 1), by omega, rfl, hS, lv_sub hl [0, 3, 4, 5, 6] rfl, rfl⟩
      · skip
        refine lv_goto (tgt := 108) hx hb dX8_meetsLike_34 (by decide) ?_
        refine lv_iinc (v := (nI (i_13 + 1))) (lv' := [(4, .int (nI (i_13 + 1))), (3, .int (nI i_2)), (0, .ref mo), (1, .int (nI j)), (2, .int p2)]) hx hb dX8_meetsLike_108 hl (k := 0) rfl (nI_1 _) (by decide) rfl (fun ls hl => ?_)
        refine lv_goto (tgt := 13) hx hb dX8_meetsLike_111 (by decide) ?_
        exact ih_13 _ (by omega) _ _ _ ⟨(i_13 + 1), by omega, rfl, hS, lv_sub hl [0, 1, 2, 3, 4] rfl, rfl⟩
set_option maxHeartbeats 1000000 in
set_option maxRecDepth 100000 in
theorem mz_m_isLeastOrder (l : Launch) (dC : Nat → ClassId) (dI : Nat → Nat → Nat) (cI cJ cZ : ClassId) (mo : Nat) (m1 : Nat) (m2 : Nat) (m3 : Nat) (m6 : Nat) (m7 : Nat) (m8 : Nat) (m9 : Nat) (m10 : Nat) (m11 : Nat) (m12 : Nat) (m13 : Nat) (m14 : Nat) (m15 : Nat) (m16 : Nat) (n : Nat) (ka : Int64) (kb : Int64) (fo : Nat → Int32) (fj : Nat → Int32) (j : Nat) (u : Nat) (Hq : Heap) (hj : j < 8) (hu : u ≤ 8) : Met l yX8_isLeastOrder wsX8_isLeastOrder ({ frames := 0, cells := 0, slots := 0, locals := 0 }) (va_Pc [.ref mo, .int (nI j), .int (nI u)] (fun U => U.heap = Hq ∧ va_P (dC, dI) vwCl [(mo, .inr (8, [.int (nI n), .ref m1, .ref m2, .ref m3, .long ka, .long kb, .ref m6, .ref m7, .ref m8, .ref m9, .ref m10, .ref m11, .ref m12, .ref m13, .ref m14, .ref m15, .ref m16])), (m12, .inl (cI, 8, .inl fo)), (m16, .inl (cI, 8, .inl fj))] Hq ∧ va_K (dC, dI) vwCl [(cI, FieldType.int), (cJ, FieldType.long), (cZ, FieldType.boolean)] U ∧ mz_N U)) (va_Qi (fun (r : Int32) (_ : Unit) => r = 0 ∨ r = 1) (fun _ t => t.heap = Hq) (fun _ : Nat => False)) 0 0 (fun _ : Nat => False) := by
  refine Met.ofW (cc := cX8_isLeastOrder) (maxL := 4) (ret := (some .boolean)) (by decide) rfl ?_
  intro p e s m args below meth c s₁ B hml hv
  obtain ⟨rfl, hH, hP, hK, hN⟩ := hv
  subst hH
  have hx := B.exec
  have hb := B.bytes
  have hr := B.returns
  have hts := atoms_spec (ws := wsX8_isLeastOrder) B.pre
  have hown : s.vm.findClass RX8 = some m.cls := findClass_of_methodNamed B.named
  have hlocks := B.notSynchronized
  have hS : va_S (fun _ : Nat => False) s.heap s.heap [] := va_S.rf
  have hiX8 : ∀ w ∈ u_ws RX8 TX8 17, w ∈ wsX8_isLeastOrder := by decide +kernel
  have hl := lv_entry ([.ref mo, .int (nI j), .int (nI u)]) (n := 4) (Nat.le_of_ble_eq_true rfl)
  rw [lg_entry_eq]
  generalize (lg_sl ([.ref mo, .int (nI j), .int (nI u)]) ++ List.replicate (4 - (lg_sl ([.ref mo, .int (nI j), .int (nI u)])).length) Slot.unset).toArray = ls at hl ⊢
  have hl : lv_has ls 4 [(0, .ref mo), (1, .int (nI j)), (2, .int (nI u))] := hl
  refine lv_iload_n hx hb dX8_isLeastOrder_0 rfl (lv_at hl 2 rfl) ?_
  refine lv_iconst (v := 1) hx hb dX8_isLeastOrder_1 (by decide +kernel) ?_
  refine lv_isub hx hb dX8_isLeastOrder_2 ?_
  refine lv_topi (fun v_2 ev_2 => ?_)
  refine lv_istore_n (lv' := [(3, .int v_2), (0, .ref mo), (1, .int (nI j)), (2, .int (nI u))]) hx hb dX8_isLeastOrder_3 rfl hl (by decide) rfl (fun ls hl => ?_)
  refine mz_loopU (fun k H locs ls => ∃ (x3_4 : Int32), (x3_4 = -1 ∨ ∃ j : Nat, j < 8 ∧ x3_4 = nI j) ∧ H = s.heap ∧ va_S (fun _ : Nat => False) s.heap H locs ∧ lv_has ls 4 [(3, .int x3_4), (0, .ref mo), (1, .int (nI j)), (2, .int (nI u))] ∧ k = (x3_4.toInt + 1).toNat) ?_ _ _ _ _ ⟨v_2, mz_sub1G (by omega) ev_2, rfl, hS, lv_sub hl [0, 1, 2, 3] rfl, rfl⟩
  intro k_4 H locs ls hI_4 ih_4
  obtain ⟨x3_4, hx_4, hH_4, hS, hl, hk_4⟩ := hI_4
  subst hH_4
  refine lv_iload_n hx hb dX8_isLeastOrder_4 rfl (lv_at hl 0 rfl) ?_
  refine lv_if_lt (tgt := 44) hx hb dX8_isLeastOrder_5 (by decide) (fun c_5 => ?_) (fun c_5 => ?_)
  · skip
    refine lv_iconst (v := 1) hx hb dX8_isLeastOrder_44 (by decide +kernel) ?_
    refine W.widen (k := 0) (n := 0) (Nat.le_of_ble_eq_true rfl) (Nat.le_of_ble_eq_true rfl) ?_
    exact W.zret (v := 1) hx hb hr (mz_nz (by decide +kernel)) (fun t ht hW => ⟨⟨1, (), rfl, Or.inr rfl, ht⟩, hS.F ht⟩) hS.2.2 dX8_isLeastOrder_45
  · skip
    rcases hx_4 with h_8 | ⟨q_8, hq_8, h_8⟩
    · exact absurd (show x3_4 < 0 by rw [h_8]; decide) c_5
    subst h_8
    refine lv_aload_n hx hb dX8_isLeastOrder_8 rfl (lv_at hl 1 rfl) ?_
    refine va_get (D := (dC, dI)) (ci := 8) (v := .ref m16) (C := RX8) (T := TX8) (N := 17) hx hb hts hiX8 hown hK hP 0 rfl rfl 16 (by decide) (hts (.fieldLink RX8 55 "MadeItSoModel" "joined" "[I") (by decide +kernel)) (fun _ h9 => h9) rfl dX8_isLeastOrder_9 ?_
    refine lv_iload_n hx hb dX8_isLeastOrder_12 rfl (lv_at hl 2 rfl) ?_
    refine va_iald hx hb hK hP 2 0 rfl rfl (vp_in_nI (by omega) (by omega)) dX8_isLeastOrder_13 ?_
    refine lv_topi (fun v_13 ev_13 => ?_)
    refine lv_aload_n hx hb dX8_isLeastOrder_14 rfl (lv_at hl 1 rfl) ?_
    refine va_get (D := (dC, dI)) (ci := 8) (v := .ref m12) (C := RX8) (T := TX8) (N := 17) hx hb hts hiX8 hown hK hP 0 rfl rfl 12 (by decide) (hts (.fieldLink RX8 43 "MadeItSoModel" "order" "[I") (by decide +kernel)) (fun _ h9 => h9) rfl dX8_isLeastOrder_15 ?_
    refine lv_iload_n hx hb dX8_isLeastOrder_18 rfl (lv_at hl 0 rfl) ?_
    refine va_iald hx hb hK hP 1 0 rfl rfl (vp_in_nI (by omega) (by omega)) dX8_isLeastOrder_19 ?_
    refine lv_topi (fun v_19 ev_19 => ?_)
    refine lv_ishr hx hb dX8_isLeastOrder_20 ?_
    refine lv_topi (fun v_20 ev_20 => ?_)
    refine lv_iconst (v := 1) hx hb dX8_isLeastOrder_21 (by decide +kernel) ?_
    refine lv_iand hx hb dX8_isLeastOrder_22 ?_
    refine lv_topi (fun v_22 ev_22 => ?_)
    refine lv_if_ne (tgt := 44) hx hb dX8_isLeastOrder_23 (by decide) (fun c_23 => ?_) (fun c_23 => ?_)
    · skip
      refine lv_iconst (v := 1) hx hb dX8_isLeastOrder_44 (by decide +kernel) ?_
      refine W.widen (k := 0) (n := 0) (Nat.le_of_ble_eq_true rfl) (Nat.le_of_ble_eq_true rfl) ?_
      exact W.zret (v := 1) hx hb hr (mz_nz (by decide +kernel)) (fun t ht hW => ⟨⟨1, (), rfl, Or.inr rfl, ht⟩, hS.F ht⟩) hS.2.2 dX8_isLeastOrder_45
    · skip
      refine lv_aload_n hx hb dX8_isLeastOrder_26 rfl (lv_at hl 1 rfl) ?_
      refine va_get (D := (dC, dI)) (ci := 8) (v := .ref m12) (C := RX8) (T := TX8) (N := 17) hx hb hts hiX8 hown hK hP 0 rfl rfl 12 (by decide) (hts (.fieldLink RX8 43 "MadeItSoModel" "order" "[I") (by decide +kernel)) (fun _ h9 => h9) rfl dX8_isLeastOrder_27 ?_
      refine lv_iload_n hx hb dX8_isLeastOrder_30 rfl (lv_at hl 0 rfl) ?_
      refine va_iald hx hb hK hP 1 0 rfl rfl (vp_in_nI (by omega) (by omega)) dX8_isLeastOrder_31 ?_
      refine lv_topi (fun v_31 ev_31 => ?_)
      refine lv_iload_n hx hb dX8_isLeastOrder_32 rfl (lv_at hl 2 rfl) ?_
      refine lv_icmp_le (tgt := 38) hx hb dX8_isLeastOrder_33 (by decide) (fun c_33 => ?_) (fun c_33 => ?_)
      · skip
        obtain ⟨v_38, ev_38⟩ : ∃ y : Int32, y = (nI q_8) + Int32.ofInt (-1) := ⟨_, rfl⟩
        refine lv_iinc (v := v_38) (lv' := [(3, .int v_38), (0, .ref mo), (1, .int (nI j)), (2, .int (nI u))]) hx hb dX8_isLeastOrder_38 hl (k := 0) rfl ev_38.symm (by decide) rfl (fun ls hl => ?_)
        refine lv_goto (tgt := 4) hx hb dX8_isLeastOrder_41 (by decide) ?_
        exact ih_4 _ (by rw [hk_4]; exact mz_predsG (by omega) ev_38) _ _ _ ⟨v_38, (mz_predG hq_8 ev_38), rfl, hS, lv_sub hl [0, 1, 2, 3] rfl, rfl⟩
      · skip
        refine lv_iconst (v := 0) hx hb dX8_isLeastOrder_36 (by decide +kernel) ?_
        refine W.widen (k := 0) (n := 0) (Nat.le_of_ble_eq_true rfl) (Nat.le_of_ble_eq_true rfl) ?_
        exact W.zret (v := 0) hx hb hr (mz_nz (by decide +kernel)) (fun t ht hW => ⟨⟨0, (), rfl, Or.inl rfl, ht⟩, hS.F ht⟩) hS.2.2 dX8_isLeastOrder_37
