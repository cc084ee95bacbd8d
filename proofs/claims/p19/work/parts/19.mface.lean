/-! the reference: its face -/
set_option maxHeartbeats 1000000 in
set_option maxRecDepth 100000 in
theorem mz_m_bars (l : Launch) (dC : Nat → ClassId) (dI : Nat → Nat → Nat) (cI cJ cZ : ClassId) (mo : Nat) (m1 : Nat) (m2 : Nat) (m3 : Nat) (m6 : Nat) (m7 : Nat) (m8 : Nat) (m9 : Nat) (m10 : Nat) (m11 : Nat) (m12 : Nat) (m13 : Nat) (m14 : Nat) (m15 : Nat) (m16 : Nat) (n : Nat) (ka : Int64) (kb : Int64) (fp : Nat → Int32) (fw : Nat → Int32) (ft : Nat → Int32) (p1 : Int32) (p2 : Int32) (p3 : Int32) (sz : Nat) (hn : n ≤ 8) : Met l yX8_bars wsX8_bars ({ frames := 5, cells := 0, slots := 0, locals := 136 }) (va_Pc [.ref mo, .int p1, .int p2, .int p3] (fun U => U.heap.size = sz ∧ va_P (dC, dI) vwCl [(mo, .inr (8, [.int (nI n), .ref m1, .ref m2, .ref m3, .long ka, .long kb, .ref m6, .ref m7, .ref m8, .ref m9, .ref m10, .ref m11, .ref m12, .ref m13, .ref m14, .ref m15, .ref m16])), (m2, .inl (cI, 8, .inl fp)), (m6, .inl (cI, 8, .inl fw)), (m7, .inl (cI, 9, .inl ft))] U.heap ∧ va_K (dC, dI) vwCl [(cI, FieldType.int), (cJ, FieldType.long), (cZ, FieldType.boolean)] U ∧ va_D (fun _ => True) [(mo, .inr (8, [.int (nI n), .ref m1, .ref m2, .ref m3, .long ka, .long kb, .ref m6, .ref m7, .ref m8, .ref m9, .ref m10, .ref m11, .ref m12, .ref m13, .ref m14, .ref m15, .ref m16])), (m2, .inl (cI, 8, .inl fp)), (m6, .inl (cI, 8, .inl fw)), (m7, .inl (cI, 9, .inl ft))] ∧ mz_N U)) (va_Qi (fun (r : Int32) (_ : Unit) => r = 0 ∨ r = 1) (fun _ t => ∃ (gw : Nat → Int32), ∃ (gt : Nat → Int32), va_P (dC, dI) vwCl [(mo, .inr (8, [.int (nI n), .ref m1, .ref m2, .ref m3, .long ka, .long kb, .ref m6, .ref m7, .ref m8, .ref m9, .ref m10, .ref m11, .ref m12, .ref m13, .ref m14, .ref m15, .ref m16])), (m2, .inl (cI, 8, .inl fp)), (m6, .inl (cI, 8, .inl gw)), (m7, .inl (cI, 9, .inl gt))] t.heap ∧ va_D (va_A [(mo, .inr (8, [.int (nI n), .ref m1, .ref m2, .ref m3, .long ka, .long kb, .ref m6, .ref m7, .ref m8, .ref m9, .ref m10, .ref m11, .ref m12, .ref m13, .ref m14, .ref m15, .ref m16])), (m2, .inl (cI, 8, .inl fp)), (m6, .inl (cI, 8, .inl fw)), (m7, .inl (cI, 9, .inl ft))] sz) [(mo, .inr (8, [.int (nI n), .ref m1, .ref m2, .ref m3, .long ka, .long kb, .ref m6, .ref m7, .ref m8, .ref m9, .ref m10, .ref m11, .ref m12, .ref m13, .ref m14, .ref m15, .ref m16])), (m2, .inl (cI, 8, .inl fp)), (m6, .inl (cI, 8, .inl gw)), (m7, .inl (cI, 9, .inl gt))]) (va_A [(mo, .inr (8, [.int (nI n), .ref m1, .ref m2, .ref m3, .long ka, .long kb, .ref m6, .ref m7, .ref m8, .ref m9, .ref m10, .ref m11, .ref m12, .ref m13, .ref m14, .ref m15, .ref m16])), (m2, .inl (cI, 8, .inl fp)), (m6, .inl (cI, 8, .inl fw)), (m7, .inl (cI, 9, .inl ft))] sz)) 0 0 (va_A [(mo, .inr (8, [.int (nI n), .ref m1, .ref m2, .ref m3, .long ka, .long kb, .ref m6, .ref m7, .ref m8, .ref m9, .ref m10, .ref m11, .ref m12, .ref m13, .ref m14, .ref m15, .ref m16])), (m2, .inl (cI, 8, .inl fp)), (m6, .inl (cI, 8, .inl fw)), (m7, .inl (cI, 9, .inl ft))] sz) := by
  refine Met.ofW (cc := cX8_bars) (maxL := 4) (ret := (some .boolean)) (by decide) rfl ?_
  intro p e s m args below meth c s₁ B hml hv
  obtain ⟨rfl, hsz, hP, hK, hD0, hN⟩ := hv
  subst hsz
  have hx := B.exec
  have hb := B.bytes
  have hr := B.returns
  have hts := atoms_spec (ws := wsX8_bars) B.pre
  have hown : s.vm.findClass RX8 = some m.cls := findClass_of_methodNamed B.named
  have hlocks := B.notSynchronized
  have hD := hD0.self (sz := s.heap.size)
  generalize hAe : va_A [(mo, .inr (8, [.int (nI n), .ref m1, .ref m2, .ref m3, .long ka, .long kb, .ref m6, .ref m7, .ref m8, .ref m9, .ref m10, .ref m11, .ref m12, .ref m13, .ref m14, .ref m15, .ref m16])), (m2, .inl (cI, 8, .inl fp)), (m6, .inl (cI, 8, .inl fw)), (m7, .inl (cI, 9, .inl ft))] s.heap.size = A at hD ⊢
  have hA : ∀ q : Nat, s.heap.size ≤ q → A q := fun q h => by rw [← hAe]; exact Or.inr h
  have hS : va_S A s.heap s.heap [] := va_S.rf
  have hl := lv_entry ([.ref mo, .int p1, .int p2, .int p3]) (n := 4) (Nat.le_of_ble_eq_true rfl)
  rw [lg_entry_eq]
  generalize (lg_sl ([.ref mo, .int p1, .int p2, .int p3]) ++ List.replicate (4 - (lg_sl ([.ref mo, .int p1, .int p2, .int p3])).length) Slot.unset).toArray = ls at hl ⊢
  have hl : lv_has ls 4 [(0, .ref mo), (1, .int p1), (2, .int p2), (3, .int p3)] := hl
  refine lv_aload_n hx hb dX8_bars_0 rfl (lv_at hl 0 rfl) ?_
  refine lv_iload_n hx hb dX8_bars_1 rfl (lv_at hl 1 rfl) ?_
  have hPc := hP.sub (ws' := [(mo, .inr (8, [.int (nI n), .ref m1, .ref m2, .ref m3, .long ka, .long kb, .ref m6, .ref m7, .ref m8, .ref m9, .ref m10, .ref m11, .ref m12, .ref m13, .ref m14, .ref m15, .ref m16]))]) [0] rfl
  refine va_calli (va_runV (As := [.int p1]) (rest := []) ⟨hx, hb, hml, hown, hts⟩ (mz_m_isHeap l dC dI cI cJ cZ mo m1 m2 m3 m6 m7 m8 m9 m10 m11 m12 m13 m14 m15 m16 n ka kb p1 s.heap (by first | assumption | omega)) (cwV 1 hts gX8_bars_X8_isHeap rfl rfl rfl (by decide +kernel) ⟨Nat.le_of_ble_eq_true rfl, Nat.le_of_ble_eq_true rfl⟩) ⟨fun a U g mk q => mz_blP q, va_recv hK hPc (ci := 8) (q0 := 0) rfl rfl, fun U hU hW => ⟨rfl, hU, hPc, va_K.moved hW.alike hK, mz_nw hW hN⟩⟩ rfl rfl hl.1 rfl (lv_room (Nat.le_of_ble_eq_true rfl)) dX8_bars_2 ⟨Nat.le_of_ble_eq_true rfl, Nat.le_of_ble_eq_true rfl⟩) hS (fun q _ h => h.elim) (fun q h => h.elim) (fun r_2 u t H1 locs ht hvm hw_2 hB hz1 hk1 hS => ?_)
  have hE : s.heap = H1 := hB.symm.trans ht
  subst hE
  refine lv_if_eq (tgt := 42) hx hb dX8_bars_5 (by decide) (fun c_5 => ?_) (fun c_5 => ?_)
  · skip
    refine lv_iconst (v := 0) hx hb dX8_bars_42 (by decide +kernel) ?_
    have hP9 := hP.sub (ws' := [(mo, .inr (8, [.int (nI n), .ref m1, .ref m2, .ref m3, .long ka, .long kb, .ref m6, .ref m7, .ref m8, .ref m9, .ref m10, .ref m11, .ref m12, .ref m13, .ref m14, .ref m15, .ref m16])), (m2, .inl (cI, 8, .inl fp)), (m6, .inl (cI, 8, .inl fw)), (m7, .inl (cI, 9, .inl ft))]) [0, 1, 2, 3] rfl
    have hD9 := hD.sub (ws' := [(mo, .inr (8, [.int (nI n), .ref m1, .ref m2, .ref m3, .long ka, .long kb, .ref m6, .ref m7, .ref m8, .ref m9, .ref m10, .ref m11, .ref m12, .ref m13, .ref m14, .ref m15, .ref m16])), (m2, .inl (cI, 8, .inl fp)), (m6, .inl (cI, 8, .inl fw)), (m7, .inl (cI, 9, .inl ft))]) [0, 1, 2, 3] (by decide) rfl
    refine W.widen (k := 0) (n := 0) (Nat.le_of_ble_eq_true rfl) (Nat.le_of_ble_eq_true rfl) ?_
    exact W.zret (v := 0) hx hb hr (mz_nz (by decide +kernel)) (fun t ht hW => ⟨⟨0, (), rfl, Or.inl rfl, fw, ft, by rw [ht]; exact hP9, hD9⟩, hS.F ht⟩) hS.2.2 dX8_bars_43
  · skip
    refine lv_aload_n hx hb dX8_bars_8 rfl (lv_at hl 0 rfl) ?_
    refine lv_iload_n hx hb dX8_bars_9 rfl (lv_at hl 2 rfl) ?_
    have hPc := hP.sub (ws' := [(mo, .inr (8, [.int (nI n), .ref m1, .ref m2, .ref m3, .long ka, .long kb, .ref m6, .ref m7, .ref m8, .ref m9, .ref m10, .ref m11, .ref m12, .ref m13, .ref m14, .ref m15, .ref m16]))]) [0] rfl
    refine va_calli (va_runV (As := [.int p2]) (rest := []) ⟨hx, hb, hml, hown, hts⟩ (mz_m_isHeap l dC dI cI cJ cZ mo m1 m2 m3 m6 m7 m8 m9 m10 m11 m12 m13 m14 m15 m16 n ka kb p2 s.heap (by first | assumption | omega)) (cwV 1 hts gX8_bars_X8_isHeap rfl rfl rfl (by decide +kernel) ⟨Nat.le_of_ble_eq_true rfl, Nat.le_of_ble_eq_true rfl⟩) ⟨fun a U g mk q => mz_blP q, va_recv hK hPc (ci := 8) (q0 := 0) rfl rfl, fun U hU hW => ⟨rfl, hU, hPc, va_K.moved hW.alike hK, mz_nw hW hN⟩⟩ rfl rfl hl.1 rfl (lv_room (Nat.le_of_ble_eq_true rfl)) dX8_bars_10 ⟨Nat.le_of_ble_eq_true rfl, Nat.le_of_ble_eq_true rfl⟩) hS (fun q _ h => h.elim) (fun q h => h.elim) (fun r_10 u t H1 locs ht hvm hw_10 hB hz1 hk1 hS => ?_)
    have hE : s.heap = H1 := hB.symm.trans ht
    subst hE
    refine lv_if_eq (tgt := 42) hx hb dX8_bars_13 (by decide) (fun c_13 => ?_) (fun c_13 => ?_)
    · skip
      refine lv_iconst (v := 0) hx hb dX8_bars_42 (by decide +kernel) ?_
      have hP9 := hP.sub (ws' := [(mo, .inr (8, [.int (nI n), .ref m1, .ref m2, .ref m3, .long ka, .long kb, .ref m6, .ref m7, .ref m8, .ref m9, .ref m10, .ref m11, .ref m12, .ref m13, .ref m14, .ref m15, .ref m16])), (m2, .inl (cI, 8, .inl fp)), (m6, .inl (cI, 8, .inl fw)), (m7, .inl (cI, 9, .inl ft))]) [0, 1, 2, 3] rfl
      have hD9 := hD.sub (ws' := [(mo, .inr (8, [.int (nI n), .ref m1, .ref m2, .ref m3, .long ka, .long kb, .ref m6, .ref m7, .ref m8, .ref m9, .ref m10, .ref m11, .ref m12, .ref m13, .ref m14, .ref m15, .ref m16])), (m2, .inl (cI, 8, .inl fp)), (m6, .inl (cI, 8, .inl fw)), (m7, .inl (cI, 9, .inl ft))]) [0, 1, 2, 3] (by decide) rfl
      refine W.widen (k := 0) (n := 0) (Nat.le_of_ble_eq_true rfl) (Nat.le_of_ble_eq_true rfl) ?_
      exact W.zret (v := 0) hx hb hr (mz_nz (by decide +kernel)) (fun t ht hW => ⟨⟨0, (), rfl, Or.inl rfl, fw, ft, by rw [ht]; exact hP9, hD9⟩, hS.F ht⟩) hS.2.2 dX8_bars_43
    · skip
      refine lv_aload_n hx hb dX8_bars_16 rfl (lv_at hl 0 rfl) ?_
      refine lv_iload_n hx hb dX8_bars_17 rfl (lv_at hl 3 rfl) ?_
      have hPc := hP.sub (ws' := [(mo, .inr (8, [.int (nI n), .ref m1, .ref m2, .ref m3, .long ka, .long kb, .ref m6, .ref m7, .ref m8, .ref m9, .ref m10, .ref m11, .ref m12, .ref m13, .ref m14, .ref m15, .ref m16]))]) [0] rfl
      refine va_calli (va_runV (As := [.int p3]) (rest := []) ⟨hx, hb, hml, hown, hts⟩ (mz_m_isHeap l dC dI cI cJ cZ mo m1 m2 m3 m6 m7 m8 m9 m10 m11 m12 m13 m14 m15 m16 n ka kb p3 s.heap (by first | assumption | omega)) (cwV 1 hts gX8_bars_X8_isHeap rfl rfl rfl (by decide +kernel) ⟨Nat.le_of_ble_eq_true rfl, Nat.le_of_ble_eq_true rfl⟩) ⟨fun a U g mk q => mz_blP q, va_recv hK hPc (ci := 8) (q0 := 0) rfl rfl, fun U hU hW => ⟨rfl, hU, hPc, va_K.moved hW.alike hK, mz_nw hW hN⟩⟩ rfl rfl hl.1 rfl (lv_room (Nat.le_of_ble_eq_true rfl)) dX8_bars_18 ⟨Nat.le_of_ble_eq_true rfl, Nat.le_of_ble_eq_true rfl⟩) hS (fun q _ h => h.elim) (fun q h => h.elim) (fun r_18 u t H1 locs ht hvm hw_18 hB hz1 hk1 hS => ?_)
      have hE : s.heap = H1 := hB.symm.trans ht
      subst hE
      refine lv_if_eq (tgt := 42) hx hb dX8_bars_21 (by decide) (fun c_21 => ?_) (fun c_21 => ?_)
      · skip
        refine lv_iconst (v := 0) hx hb dX8_bars_42 (by decide +kernel) ?_
        have hP9 := hP.sub (ws' := [(mo, .inr (8, [.int (nI n), .ref m1, .ref m2, .ref m3, .long ka, .long kb, .ref m6, .ref m7, .ref m8, .ref m9, .ref m10, .ref m11, .ref m12, .ref m13, .ref m14, .ref m15, .ref m16])), (m2, .inl (cI, 8, .inl fp)), (m6, .inl (cI, 8, .inl fw)), (m7, .inl (cI, 9, .inl ft))]) [0, 1, 2, 3] rfl
        have hD9 := hD.sub (ws' := [(mo, .inr (8, [.int (nI n), .ref m1, .ref m2, .ref m3, .long ka, .long kb, .ref m6, .ref m7, .ref m8, .ref m9, .ref m10, .ref m11, .ref m12, .ref m13, .ref m14, .ref m15, .ref m16])), (m2, .inl (cI, 8, .inl fp)), (m6, .inl (cI, 8, .inl fw)), (m7, .inl (cI, 9, .inl ft))]) [0, 1, 2, 3] (by decide) rfl
        refine W.widen (k := 0) (n := 0) (Nat.le_of_ble_eq_true rfl) (Nat.le_of_ble_eq_true rfl) ?_
        exact W.zret (v := 0) hx hb hr (mz_nz (by decide +kernel)) (fun t ht hW => ⟨⟨0, (), rfl, Or.inl rfl, fw, ft, by rw [ht]; exact hP9, hD9⟩, hS.F ht⟩) hS.2.2 dX8_bars_43
      · skip
        refine lv_iload_n hx hb dX8_bars_24 rfl (lv_at hl 1 rfl) ?_
        refine lv_iload_n hx hb dX8_bars_25 rfl (lv_at hl 2 rfl) ?_
        refine lv_iand hx hb dX8_bars_26 ?_
        refine lv_topi (fun v_26 ev_26 => ?_)
        refine lv_if_ne (tgt := 42) hx hb dX8_bars_27 (by decide) (fun c_27 => ?_) (fun c_27 => ?_)
        · skip
          refine lv_iconst (v := 0) hx hb dX8_bars_42 (by decide +kernel) ?_
          have hP9 := hP.sub (ws' := [(mo, .inr (8, [.int (nI n), .ref m1, .ref m2, .ref m3, .long ka, .long kb, .ref m6, .ref m7, .ref m8, .ref m9, .ref m10, .ref m11, .ref m12, .ref m13, .ref m14, .ref m15, .ref m16])), (m2, .inl (cI, 8, .inl fp)), (m6, .inl (cI, 8, .inl fw)), (m7, .inl (cI, 9, .inl ft))]) [0, 1, 2, 3] rfl
          have hD9 := hD.sub (ws' := [(mo, .inr (8, [.int (nI n), .ref m1, .ref m2, .ref m3, .long ka, .long kb, .ref m6, .ref m7, .ref m8, .ref m9, .ref m10, .ref m11, .ref m12, .ref m13, .ref m14, .ref m15, .ref m16])), (m2, .inl (cI, 8, .inl fp)), (m6, .inl (cI, 8, .inl fw)), (m7, .inl (cI, 9, .inl ft))]) [0, 1, 2, 3] (by decide) rfl
          refine W.widen (k := 0) (n := 0) (Nat.le_of_ble_eq_true rfl) (Nat.le_of_ble_eq_true rfl) ?_
          exact W.zret (v := 0) hx hb hr (mz_nz (by decide +kernel)) (fun t ht hW => ⟨⟨0, (), rfl, Or.inl rfl, fw, ft, by rw [ht]; exact hP9, hD9⟩, hS.F ht⟩) hS.2.2 dX8_bars_43
        · skip
          refine lv_iload_n hx hb dX8_bars_30 rfl (lv_at hl 1 rfl) ?_
          refine lv_iload_n hx hb dX8_bars_31 rfl (lv_at hl 3 rfl) ?_
          refine lv_iand hx hb dX8_bars_32 ?_
          refine lv_topi (fun v_32 ev_32 => ?_)
          refine lv_if_ne (tgt := 42) hx hb dX8_bars_33 (by decide) (fun c_33 => ?_) (fun c_33 => ?_)
          · skip
            refine lv_iconst (v := 0) hx hb dX8_bars_42 (by decide +kernel) ?_
            have hP9 := hP.sub (ws' := [(mo, .inr (8, [.int (nI n), .ref m1, .ref m2, .ref m3, .long ka, .long kb, .ref m6, .ref m7, .ref m8, .ref m9, .ref m10, .ref m11, .ref m12, .ref m13, .ref m14, .ref m15, .ref m16])), (m2, .inl (cI, 8, .inl fp)), (m6, .inl (cI, 8, .inl fw)), (m7, .inl (cI, 9, .inl ft))]) [0, 1, 2, 3] rfl
            have hD9 := hD.sub (ws' := [(mo, .inr (8, [.int (nI n), .ref m1, .ref m2, .ref m3, .long ka, .long kb, .ref m6, .ref m7, .ref m8, .ref m9, .ref m10, .ref m11, .ref m12, .ref m13, .ref m14, .ref m15, .ref m16])), (m2, .inl (cI, 8, .inl fp)), (m6, .inl (cI, 8, .inl fw)), (m7, .inl (cI, 9, .inl ft))]) [0, 1, 2, 3] (by decide) rfl
            refine W.widen (k := 0) (n := 0) (Nat.le_of_ble_eq_true rfl) (Nat.le_of_ble_eq_true rfl) ?_
            exact W.zret (v := 0) hx hb hr (mz_nz (by decide +kernel)) (fun t ht hW => ⟨⟨0, (), rfl, Or.inl rfl, fw, ft, by rw [ht]; exact hP9, hD9⟩, hS.F ht⟩) hS.2.2 dX8_bars_43
          · skip
            refine lv_iload_n hx hb dX8_bars_36 rfl (lv_at hl 2 rfl) ?_
            refine lv_iload_n hx hb dX8_bars_37 rfl (lv_at hl 3 rfl) ?_
            refine lv_iand hx hb dX8_bars_38 ?_
            refine lv_topi (fun v_38 ev_38 => ?_)
            refine lv_if_eq (tgt := 44) hx hb dX8_bars_39 (by decide) (fun c_39 => ?_) (fun c_39 => ?_)
            · skip
              refine lv_aload_n hx hb dX8_bars_44 rfl (lv_at hl 0 rfl) ?_
              refine lv_iload_n hx hb dX8_bars_45 rfl (lv_at hl 1 rfl) ?_
              refine lv_iload_n hx hb dX8_bars_46 rfl (lv_at hl 2 rfl) ?_
              refine lv_iload_n hx hb dX8_bars_47 rfl (lv_at hl 3 rfl) ?_
              refine lv_iconst (v := 0) hx hb dX8_bars_48 (by decide +kernel) ?_
              refine lv_iconst (v := 0) hx hb dX8_bars_49 (by decide +kernel) ?_
              have hPc := hP.sub (ws' := [(mo, .inr (8, [.int (nI n), .ref m1, .ref m2, .ref m3, .long ka, .long kb, .ref m6, .ref m7, .ref m8, .ref m9, .ref m10, .ref m11, .ref m12, .ref m13, .ref m14, .ref m15, .ref m16])), (m2, .inl (cI, 8, .inl fp)), (m6, .inl (cI, 8, .inl fw)), (m7, .inl (cI, 9, .inl ft))]) [0, 1, 2, 3] rfl
              have hDc := hD.sub (ws' := [(mo, .inr (8, [.int (nI n), .ref m1, .ref m2, .ref m3, .long ka, .long kb, .ref m6, .ref m7, .ref m8, .ref m9, .ref m10, .ref m11, .ref m12, .ref m13, .ref m14, .ref m15, .ref m16])), (m2, .inl (cI, 8, .inl fp)), (m6, .inl (cI, 8, .inl fw)), (m7, .inl (cI, 9, .inl ft))]) [0, 1, 2, 3] (by decide) rfl
              have hFc := va_free (wc := [(mo, .inr (8, [.int (nI n), .ref m1, .ref m2, .ref m3, .long ka, .long kb, .ref m6, .ref m7, .ref m8, .ref m9, .ref m10, .ref m11, .ref m12, .ref m13, .ref m14, .ref m15, .ref m16])), (m2, .inl (cI, 8, .inl fp)), (m6, .inl (cI, 8, .inl fw)), (m7, .inl (cI, 9, .inl ft))]) hD hS hA [0, 1, 2, 3] rfl
              refine va_calli (va_runV (As := [.int p1, .int p2, .int p3, .int 0, .int 0]) (rest := []) ⟨hx, hb, hml, hown, hts⟩ (mz_m_barred l dC dI cI cJ cZ mo m1 m2 m3 m6 m7 m8 m9 m10 m11 m12 m13 m14 m15 m16 n ka kb fp fw ft p1 p2 p3 0 0 s.heap.size (by first | assumption | omega)) (cwV 5 hts gX8_bars_X8_barred rfl rfl rfl (by decide +kernel) ⟨Nat.le_of_ble_eq_true rfl, Nat.le_of_ble_eq_true rfl⟩) ⟨fun a U g mk q => mz_blI q, va_recv hK hPc (ci := 8) (q0 := 0) rfl rfl, fun U hU hW => ⟨rfl, by rw [hU], by rw [hU]; exact hPc, va_K.moved hW.alike hK, hDc.weaken (fun _ _ _ _ => trivial), mz_nw hW hN⟩⟩ rfl rfl hl.1 rfl (lv_room (Nat.le_of_ble_eq_true rfl)) dX8_bars_50 ⟨Nat.le_of_ble_eq_true rfl, Nat.le_of_ble_eq_true rfl⟩) hS (fun q _ h => hFc q h) hFc (fun r_50 u t H1 locs ht hvm hw_50 hB hz1 hk1 hS => ?_)
              obtain ⟨gw_50, gt_50, hP1, hD1⟩ := hB
              rw [ht] at hP1
              obtain ⟨hP, hD⟩ := va_join (wr := []) (w1 := [(mo, .inr (8, [.int (nI n), .ref m1, .ref m2, .ref m3, .long ka, .long kb, .ref m6, .ref m7, .ref m8, .ref m9, .ref m10, .ref m11, .ref m12, .ref m13, .ref m14, .ref m15, .ref m16])), (m2, .inl (cI, 8, .inl fp)), (m6, .inl (cI, 8, .inl gw_50)), (m7, .inl (cI, 9, .inl gt_50))]) hP hD [0, 1, 2, 3] [] rfl rfl (by decide) (by decide) hk1 hFc hP1 hD1
              generalize H1 = H at hP hS ⊢
              have hP : va_P (dC, dI) vwCl [(mo, .inr (8, [.int (nI n), .ref m1, .ref m2, .ref m3, .long ka, .long kb, .ref m6, .ref m7, .ref m8, .ref m9, .ref m10, .ref m11, .ref m12, .ref m13, .ref m14, .ref m15, .ref m16])), (m2, .inl (cI, 8, .inl fp)), (m6, .inl (cI, 8, .inl gw_50)), (m7, .inl (cI, 9, .inl gt_50))] H := hP
              have hD : va_D A [(mo, .inr (8, [.int (nI n), .ref m1, .ref m2, .ref m3, .long ka, .long kb, .ref m6, .ref m7, .ref m8, .ref m9, .ref m10, .ref m11, .ref m12, .ref m13, .ref m14, .ref m15, .ref m16])), (m2, .inl (cI, 8, .inl fp)), (m6, .inl (cI, 8, .inl gw_50)), (m7, .inl (cI, 9, .inl gt_50))] := hD
              have hP9 := hP.sub (ws' := [(mo, .inr (8, [.int (nI n), .ref m1, .ref m2, .ref m3, .long ka, .long kb, .ref m6, .ref m7, .ref m8, .ref m9, .ref m10, .ref m11, .ref m12, .ref m13, .ref m14, .ref m15, .ref m16])), (m2, .inl (cI, 8, .inl fp)), (m6, .inl (cI, 8, .inl gw_50)), (m7, .inl (cI, 9, .inl gt_50))]) [0, 1, 2, 3] rfl
              have hD9 := hD.sub (ws' := [(mo, .inr (8, [.int (nI n), .ref m1, .ref m2, .ref m3, .long ka, .long kb, .ref m6, .ref m7, .ref m8, .ref m9, .ref m10, .ref m11, .ref m12, .ref m13, .ref m14, .ref m15, .ref m16])), (m2, .inl (cI, 8, .inl fp)), (m6, .inl (cI, 8, .inl gw_50)), (m7, .inl (cI, 9, .inl gt_50))]) [0, 1, 2, 3] (by decide) rfl
              refine W.widen (k := 0) (n := 0) (Nat.le_of_ble_eq_true rfl) (Nat.le_of_ble_eq_true rfl) ?_
              exact W.zret (v := r_50) hx hb hr (mz_nzo hw_50) (fun t ht hW => ⟨⟨r_50, (), rfl, hw_50, gw_50, gt_50, by rw [ht]; exact hP9, hD9⟩, hS.F ht⟩) hS.2.2 dX8_bars_53
            · skip
              refine lv_iconst (v := 0) hx hb dX8_bars_42 (by decide +kernel) ?_
              have hP9 := hP.sub (ws' := [(mo, .inr (8, [.int (nI n), .ref m1, .ref m2, .ref m3, .long ka, .long kb, .ref m6, .ref m7, .ref m8, .ref m9, .ref m10, .ref m11, .ref m12, .ref m13, .ref m14, .ref m15, .ref m16])), (m2, .inl (cI, 8, .inl fp)), (m6, .inl (cI, 8, .inl fw)), (m7, .inl (cI, 9, .inl ft))]) [0, 1, 2, 3] rfl
              have hD9 := hD.sub (ws' := [(mo, .inr (8, [.int (nI n), .ref m1, .ref m2, .ref m3, .long ka, .long kb, .ref m6, .ref m7, .ref m8, .ref m9, .ref m10, .ref m11, .ref m12, .ref m13, .ref m14, .ref m15, .ref m16])), (m2, .inl (cI, 8, .inl fp)), (m6, .inl (cI, 8, .inl fw)), (m7, .inl (cI, 9, .inl ft))]) [0, 1, 2, 3] (by decide) rfl
              refine W.widen (k := 0) (n := 0) (Nat.le_of_ble_eq_true rfl) (Nat.le_of_ble_eq_true rfl) ?_
              exact W.zret (v := 0) hx hb hr (mz_nz (by decide +kernel)) (fun t ht hW => ⟨⟨0, (), rfl, Or.inl rfl, fw, ft, by rw [ht]; exact hP9, hD9⟩, hS.F ht⟩) hS.2.2 dX8_bars_43
set_option maxHeartbeats 1000000 in
set_option maxRecDepth 100000 in
theorem mz_m_works (l : Launch) (dC : Nat → ClassId) (dI : Nat → Nat → Nat) (cI cJ cZ : ClassId) (mo : Nat) (m1 : Nat) (m2 : Nat) (m3 : Nat) (m6 : Nat) (m7 : Nat) (m8 : Nat) (m9 : Nat) (m10 : Nat) (m11 : Nat) (m12 : Nat) (m13 : Nat) (m14 : Nat) (m15 : Nat) (m16 : Nat) (n : Nat) (ka : Int64) (kb : Int64) (fs : Nat → Int32) (fp : Nat → Int32) (fw : Nat → Int32) (ft : Nat → Int32) (fr : Nat → Int32) (p1 : Int32) (p2 : Int32) (sz : Nat) (hn : n ≤ 8) : Met l yX8_works wsX8_works ({ frames := 5, cells := 0, slots := 0, locals := 136 }) (va_Pc [.ref mo, .int p1, .int p2] (fun U => U.heap.size = sz ∧ va_P (dC, dI) vwCl [(mo, .inr (8, [.int (nI n), .ref m1, .ref m2, .ref m3, .long ka, .long kb, .ref m6, .ref m7, .ref m8, .ref m9, .ref m10, .ref m11, .ref m12, .ref m13, .ref m14, .ref m15, .ref m16])), (m1, .inl (cZ, 8, .inl fs)), (m2, .inl (cI, 8, .inl fp)), (m6, .inl (cI, 8, .inl fw)), (m7, .inl (cI, 9, .inl ft)), (m8, .inl (cZ, 256, .inl fr))] U.heap ∧ va_K (dC, dI) vwCl [(cI, FieldType.int), (cJ, FieldType.long), (cZ, FieldType.boolean)] U ∧ va_D (fun _ => True) [(mo, .inr (8, [.int (nI n), .ref m1, .ref m2, .ref m3, .long ka, .long kb, .ref m6, .ref m7, .ref m8, .ref m9, .ref m10, .ref m11, .ref m12, .ref m13, .ref m14, .ref m15, .ref m16])), (m1, .inl (cZ, 8, .inl fs)), (m2, .inl (cI, 8, .inl fp)), (m6, .inl (cI, 8, .inl fw)), (m7, .inl (cI, 9, .inl ft)), (m8, .inl (cZ, 256, .inl fr))] ∧ mz_N U)) (va_Qi (fun (r : Int32) (_ : Unit) => r = 0 ∨ r = 1) (fun _ t => ∃ (gw : Nat → Int32), ∃ (gt : Nat → Int32), ∃ (gr : Nat → Int32), va_P (dC, dI) vwCl [(mo, .inr (8, [.int (nI n), .ref m1, .ref m2, .ref m3, .long ka, .long kb, .ref m6, .ref m7, .ref m8, .ref m9, .ref m10, .ref m11, .ref m12, .ref m13, .ref m14, .ref m15, .ref m16])), (m1, .inl (cZ, 8, .inl fs)), (m2, .inl (cI, 8, .inl fp)), (m6, .inl (cI, 8, .inl gw)), (m7, .inl (cI, 9, .inl gt)), (m8, .inl (cZ, 256, .inl gr))] t.heap ∧ va_D (va_A [(mo, .inr (8, [.int (nI n), .ref m1, .ref m2, .ref m3, .long ka, .long kb, .ref m6, .ref m7, .ref m8, .ref m9, .ref m10, .ref m11, .ref m12, .ref m13, .ref m14, .ref m15, .ref m16])), (m1, .inl (cZ, 8, .inl fs)), (m2, .inl (cI, 8, .inl fp)), (m6, .inl (cI, 8, .inl fw)), (m7, .inl (cI, 9, .inl ft)), (m8, .inl (cZ, 256, .inl fr))] sz) [(mo, .inr (8, [.int (nI n), .ref m1, .ref m2, .ref m3, .long ka, .long kb, .ref m6, .ref m7, .ref m8, .ref m9, .ref m10, .ref m11, .ref m12, .ref m13, .ref m14, .ref m15, .ref m16])), (m1, .inl (cZ, 8, .inl fs)), (m2, .inl (cI, 8, .inl fp)), (m6, .inl (cI, 8, .inl gw)), (m7, .inl (cI, 9, .inl gt)), (m8, .inl (cZ, 256, .inl gr))]) (va_A [(mo, .inr (8, [.int (nI n), .ref m1, .ref m2, .ref m3, .long ka, .long kb, .ref m6, .ref m7, .ref m8, .ref m9, .ref m10, .ref m11, .ref m12, .ref m13, .ref m14, .ref m15, .ref m16])), (m1, .inl (cZ, 8, .inl fs)), (m2, .inl (cI, 8, .inl fp)), (m6, .inl (cI, 8, .inl fw)), (m7, .inl (cI, 9, .inl ft)), (m8, .inl (cZ, 256, .inl fr))] sz)) 0 0 (va_A [(mo, .inr (8, [.int (nI n), .ref m1, .ref m2, .ref m3, .long ka, .long kb, .ref m6, .ref m7, .ref m8, .ref m9, .ref m10, .ref m11, .ref m12, .ref m13, .ref m14, .ref m15, .ref m16])), (m1, .inl (cZ, 8, .inl fs)), (m2, .inl (cI, 8, .inl fp)), (m6, .inl (cI, 8, .inl fw)), (m7, .inl (cI, 9, .inl ft)), (m8, .inl (cZ, 256, .inl fr))] sz) := by
  refine Met.ofW (cc := cX8_works) (maxL := 5) (ret := (some .boolean)) (by decide) rfl ?_
  intro p e s m args below meth c s₁ B hml hv
  obtain ⟨rfl, hsz, hP, hK, hD0, hN⟩ := hv
  subst hsz
  have hx := B.exec
  have hb := B.bytes
  have hr := B.returns
  have hts := atoms_spec (ws := wsX8_works) B.pre
  have hown : s.vm.findClass RX8 = some m.cls := findClass_of_methodNamed B.named
  have hlocks := B.notSynchronized
  have hD := hD0.self (sz := s.heap.size)
  generalize hAe : va_A [(mo, .inr (8, [.int (nI n), .ref m1, .ref m2, .ref m3, .long ka, .long kb, .ref m6, .ref m7, .ref m8, .ref m9, .ref m10, .ref m11, .ref m12, .ref m13, .ref m14, .ref m15, .ref m16])), (m1, .inl (cZ, 8, .inl fs)), (m2, .inl (cI, 8, .inl fp)), (m6, .inl (cI, 8, .inl fw)), (m7, .inl (cI, 9, .inl ft)), (m8, .inl (cZ, 256, .inl fr))] s.heap.size = A at hD ⊢
  have hA : ∀ q : Nat, s.heap.size ≤ q → A q := fun q h => by rw [← hAe]; exact Or.inr h
  have hS : va_S A s.heap s.heap [] := va_S.rf
  have hiX8 : ∀ w ∈ u_ws RX8 TX8 17, w ∈ wsX8_works := by decide +kernel
  have hl := lv_entry ([.ref mo, .int p1, .int p2]) (n := 5) (Nat.le_of_ble_eq_true rfl)
  rw [lg_entry_eq]
  generalize (lg_sl ([.ref mo, .int p1, .int p2]) ++ List.replicate (5 - (lg_sl ([.ref mo, .int p1, .int p2])).length) Slot.unset).toArray = ls at hl ⊢
  have hl : lv_has ls 5 [(0, .ref mo), (1, .int p1), (2, .int p2)] := hl
  refine lv_aload_n hx hb dX8_works_0 rfl (lv_at hl 0 rfl) ?_
  refine lv_iload_n hx hb dX8_works_1 rfl (lv_at hl 1 rfl) ?_
  have hPc := hP.sub (ws' := [(mo, .inr (8, [.int (nI n), .ref m1, .ref m2, .ref m3, .long ka, .long kb, .ref m6, .ref m7, .ref m8, .ref m9, .ref m10, .ref m11, .ref m12, .ref m13, .ref m14, .ref m15, .ref m16]))]) [0] rfl
  refine va_calli (va_runV (As := [.int p1]) (rest := []) ⟨hx, hb, hml, hown, hts⟩ (mz_m_isThing l dC dI cI cJ cZ mo m1 m2 m3 m6 m7 m8 m9 m10 m11 m12 m13 m14 m15 m16 n ka kb p1 s.heap (by first | assumption | omega)) (cwV 1 hts gX8_works_X8_isThing rfl rfl rfl (by decide +kernel) ⟨Nat.le_of_ble_eq_true rfl, Nat.le_of_ble_eq_true rfl⟩) ⟨fun a U g mk q => mz_blP q, va_recv hK hPc (ci := 8) (q0 := 0) rfl rfl, fun U hU hW => ⟨rfl, hU, hPc, va_K.moved hW.alike hK, mz_nw hW hN⟩⟩ rfl rfl hl.1 rfl (lv_room (Nat.le_of_ble_eq_true rfl)) dX8_works_2 ⟨Nat.le_of_ble_eq_true rfl, Nat.le_of_ble_eq_true rfl⟩) hS (fun q _ h => h.elim) (fun q h => h.elim) (fun r_2 u t H1 locs ht hvm hw_2 hB hz1 hk1 hS => ?_)
  have hE : s.heap = H1 := hB.symm.trans ht
  subst hE
  rcases (show (r_2 = 1 ∧ ∃ j : Nat, j < n ∧ p1 = nI j) ∨ r_2 = 0 from hw_2) with ⟨rfl, j_2, hj_2, he_2⟩ | rfl
  · skip
    subst he_2
    refine lv_if_eq (tgt := 21) hx hb dX8_works_5 (by decide) (fun c_5 => absurd c_5 (by decide +kernel)) (fun _ => ?_)
    refine lv_aload_n hx hb dX8_works_8 rfl (lv_at hl 0 rfl) ?_
    refine lv_iload_n hx hb dX8_works_9 rfl (lv_at hl 2 rfl) ?_
    have hPc := hP.sub (ws' := [(mo, .inr (8, [.int (nI n), .ref m1, .ref m2, .ref m3, .long ka, .long kb, .ref m6, .ref m7, .ref m8, .ref m9, .ref m10, .ref m11, .ref m12, .ref m13, .ref m14, .ref m15, .ref m16]))]) [0] rfl
    refine va_calli (va_runV (As := [.int p2]) (rest := []) ⟨hx, hb, hml, hown, hts⟩ (mz_m_isThing l dC dI cI cJ cZ mo m1 m2 m3 m6 m7 m8 m9 m10 m11 m12 m13 m14 m15 m16 n ka kb p2 s.heap (by first | assumption | omega)) (cwV 1 hts gX8_works_X8_isThing rfl rfl rfl (by decide +kernel) ⟨Nat.le_of_ble_eq_true rfl, Nat.le_of_ble_eq_true rfl⟩) ⟨fun a U g mk q => mz_blP q, va_recv hK hPc (ci := 8) (q0 := 0) rfl rfl, fun U hU hW => ⟨rfl, hU, hPc, va_K.moved hW.alike hK, mz_nw hW hN⟩⟩ rfl rfl hl.1 rfl (lv_room (Nat.le_of_ble_eq_true rfl)) dX8_works_10 ⟨Nat.le_of_ble_eq_true rfl, Nat.le_of_ble_eq_true rfl⟩) hS (fun q _ h => h.elim) (fun q h => h.elim) (fun r_10 u t H1 locs ht hvm hw_10 hB hz1 hk1 hS => ?_)
    have hE : s.heap = H1 := hB.symm.trans ht
    subst hE
    rcases (show (r_10 = 1 ∧ ∃ j : Nat, j < n ∧ p2 = nI j) ∨ r_10 = 0 from hw_10) with ⟨rfl, j_10, hj_10, he_10⟩ | rfl
    · skip
      subst he_10
      refine lv_if_eq (tgt := 21) hx hb dX8_works_13 (by decide) (fun c_13 => absurd c_13 (by decide +kernel)) (fun _ => ?_)
      refine lv_iload_n hx hb dX8_works_16 rfl (lv_at hl 1 rfl) ?_
      refine lv_iload_n hx hb dX8_works_17 rfl (lv_at hl 2 rfl) ?_
      refine lv_icmp_ne (tgt := 23) hx hb dX8_works_18 (by decide) (fun c_18 => ?_) (fun c_18 => ?_)
      · skip
        have d_18 : ¬ j_2 = j_10 := fun h => c_18 ((nI_eq (a := j_2) (b := j_10) (by omega) (by omega)).mpr h)
        refine lv_aload_n hx hb dX8_works_23 rfl (lv_at hl 0 rfl) ?_
        have hPc := hP.sub (ws' := [(mo, .inr (8, [.int (nI n), .ref m1, .ref m2, .ref m3, .long ka, .long kb, .ref m6, .ref m7, .ref m8, .ref m9, .ref m10, .ref m11, .ref m12, .ref m13, .ref m14, .ref m15, .ref m16])), (m1, .inl (cZ, 8, .inl fs))]) [0, 1] rfl
        refine va_calli (va_runV (As := []) (rest := []) ⟨hx, hb, hml, hown, hts⟩ (mz_m_seen l dC dI cI cJ cZ mo m1 m2 m3 m6 m7 m8 m9 m10 m11 m12 m13 m14 m15 m16 n ka kb fs s.heap (by first | assumption | omega)) (cwV 0 hts gX8_works_X8_seen rfl rfl rfl (by decide +kernel) ⟨Nat.le_of_ble_eq_true rfl, Nat.le_of_ble_eq_true rfl⟩) ⟨fun a U g mk q => mz_blP q, va_recv hK hPc (ci := 8) (q0 := 0) rfl rfl, fun U hU hW => ⟨rfl, hU, hPc, va_K.moved hW.alike hK, mz_nw hW hN⟩⟩ rfl rfl hl.1 rfl (lv_room (Nat.le_of_ble_eq_true rfl)) dX8_works_24 ⟨Nat.le_of_ble_eq_true rfl, Nat.le_of_ble_eq_true rfl⟩) hS (fun q _ h => h.elim) (fun q h => h.elim) (fun r_24 u t H1 locs ht hvm hw_24 hB hz1 hk1 hS => ?_)
        have hE : s.heap = H1 := hB.symm.trans ht
        subst hE
        refine lv_iconst (v := 1) hx hb dX8_works_27 (by decide +kernel) ?_
        refine lv_iload_n hx hb dX8_works_28 rfl (lv_at hl 1 rfl) ?_
        refine lv_ishl hx hb dX8_works_29 ?_
        refine mz_ti (y := (nI (2 ^ j_2))) (mz_sh1 (by omega)) ?_
        refine lv_iconst (v := (-1)) hx hb dX8_works_30 (by decide +kernel) ?_
        refine lv_ixor hx hb dX8_works_31 ?_
        refine lv_topi (fun v_31 ev_31 => ?_)
        refine lv_iand hx hb dX8_works_32 ?_
        refine lv_topi (fun v_32 ev_32 => ?_)
        refine lv_iconst (v := 1) hx hb dX8_works_33 (by decide +kernel) ?_
        refine lv_iload_n hx hb dX8_works_34 rfl (lv_at hl 2 rfl) ?_
        refine lv_ishl hx hb dX8_works_35 ?_
        refine mz_ti (y := (nI (2 ^ j_10))) (mz_sh1 (by omega)) ?_
        refine lv_iconst (v := (-1)) hx hb dX8_works_36 (by decide +kernel) ?_
        refine lv_ixor hx hb dX8_works_37 ?_
        refine lv_topi (fun v_37 ev_37 => ?_)
        refine lv_iand hx hb dX8_works_38 ?_
        refine lv_topi (fun v_38 ev_38 => ?_)
        refine lv_istore_n (lv' := [(3, .int v_38), (0, .ref mo), (1, .int (nI j_2)), (2, .int (nI j_10))]) hx hb dX8_works_39 rfl hl (by decide) rfl (fun ls hl => ?_)
        refine lv_iconst (v := 0) hx hb dX8_works_40 (by decide +kernel) ?_
        refine lv_istore (lv' := [(4, .int 0), (3, .int v_38), (0, .ref mo), (1, .int (nI j_2)), (2, .int (nI j_10))]) hx hb dX8_works_41 hl (by decide) rfl (fun ls hl => ?_)
        refine mz_loopU (fun k H locs ls => ∃ (i_43 : Nat), ∃ (fm6_43 : Nat → Int32), ∃ (fm7_43 : Nat → Int32), ∃ (fm8_43 : Nat → Int32), i_43 ≤ 256 ∧ va_P (dC, dI) vwCl [(mo, .inr (8, [.int (nI n), .ref m1, .ref m2, .ref m3, .long ka, .long kb, .ref m6, .ref m7, .ref m8, .ref m9, .ref m10, .ref m11, .ref m12, .ref m13, .ref m14, .ref m15, .ref m16])), (m1, .inl (cZ, 8, .inl fs)), (m2, .inl (cI, 8, .inl fp)), (m6, .inl (cI, 8, .inl fm6_43)), (m7, .inl (cI, 9, .inl fm7_43)), (m8, .inl (cZ, 256, .inl fm8_43))] H ∧ va_D A [(mo, .inr (8, [.int (nI n), .ref m1, .ref m2, .ref m3, .long ka, .long kb, .ref m6, .ref m7, .ref m8, .ref m9, .ref m10, .ref m11, .ref m12, .ref m13, .ref m14, .ref m15, .ref m16])), (m1, .inl (cZ, 8, .inl fs)), (m2, .inl (cI, 8, .inl fp)), (m6, .inl (cI, 8, .inl fm6_43)), (m7, .inl (cI, 9, .inl fm7_43)), (m8, .inl (cZ, 256, .inl fm8_43))] ∧ va_S A s.heap H locs ∧ lv_has ls 5 [(4, .int (nI i_43)), (3, .int v_38), (0, .ref mo), (1, .int (nI j_2)), (2, .int (nI j_10))] ∧ k = 256 - i_43) ?_ _ _ _ _ ⟨0, fw, ft, fr, by omega, hP, hD, hS, lv_sub hl [0, 1, 2, 3, 4] rfl, rfl⟩
        intro k_43 H locs ls hI_43 ih_43
        obtain ⟨i_43, fm6_43, fm7_43, fm8_43, hi_43, hP, hD, hS, hl, hk_43⟩ := hI_43
        refine lv_iload hx hb dX8_works_43 (lv_at hl 0 rfl) ?_
        refine lv_sipush (v := 256) hx hb dX8_works_45 (by decide +kernel) ?_
        refine lv_icmp_ge (tgt := 95) hx hb dX8_works_48 (by decide) (fun c_48 => ?_) (fun c_48 => ?_)
        · skip
          have d_48 : 256 ≤ i_43 := (nI_leI (a := 256) (b := i_43) (by omega) (by omega)).mp c_48
          refine lv_iconst (v := 1) hx hb dX8_works_95 (by decide +kernel) ?_
          have hP9 := hP.sub (ws' := [(mo, .inr (8, [.int (nI n), .ref m1, .ref m2, .ref m3, .long ka, .long kb, .ref m6, .ref m7, .ref m8, .ref m9, .ref m10, .ref m11, .ref m12, .ref m13, .ref m14, .ref m15, .ref m16])), (m1, .inl (cZ, 8, .inl fs)), (m2, .inl (cI, 8, .inl fp)), (m6, .inl (cI, 8, .inl fm6_43)), (m7, .inl (cI, 9, .inl fm7_43)), (m8, .inl (cZ, 256, .inl fm8_43))]) [0, 1, 2, 3, 4, 5] rfl
          have hD9 := hD.sub (ws' := [(mo, .inr (8, [.int (nI n), .ref m1, .ref m2, .ref m3, .long ka, .long kb, .ref m6, .ref m7, .ref m8, .ref m9, .ref m10, .ref m11, .ref m12, .ref m13, .ref m14, .ref m15, .ref m16])), (m1, .inl (cZ, 8, .inl fs)), (m2, .inl (cI, 8, .inl fp)), (m6, .inl (cI, 8, .inl fm6_43)), (m7, .inl (cI, 9, .inl fm7_43)), (m8, .inl (cZ, 256, .inl fm8_43))]) [0, 1, 2, 3, 4, 5] (by decide) rfl
          refine W.widen (k := 0) (n := 0) (Nat.le_of_ble_eq_true rfl) (Nat.le_of_ble_eq_true rfl) ?_
          exact W.zret (v := 1) hx hb hr (mz_nz (by decide +kernel)) (fun t ht hW => ⟨⟨1, (), rfl, Or.inr rfl, fm6_43, fm7_43, fm8_43, by rw [ht]; exact hP9, hD9⟩, hS.F ht⟩) hS.2.2 dX8_works_96
        · skip
          have d_48 : ¬ 256 ≤ i_43 := fun h => c_48 ((nI_leI (a := 256) (b := i_43) (by omega) (by omega)).mpr h)
          refine lv_aload_n hx hb dX8_works_51 rfl (lv_at hl 2 rfl) ?_
          refine va_get (D := (dC, dI)) (ci := 8) (v := .ref m8) (C := RX8) (T := TX8) (N := 17) hx hb hts hiX8 hown hK hP 0 rfl rfl 8 (by decide) (hts (.fieldLink RX8 30 "MadeItSoModel" "isBarring" "[Z") (by decide +kernel)) (fun _ h9 => h9) rfl dX8_works_52 ?_
          refine lv_iload hx hb dX8_works_55 (lv_at hl 0 rfl) ?_
          refine lv_iload hx hb dX8_works_57 (lv_at hl 0 rfl) ?_
          refine lv_iload_n hx hb dX8_works_59 rfl (lv_at hl 1 rfl) ?_
          refine lv_iconst (v := (-1)) hx hb dX8_works_60 (by decide +kernel) ?_
          refine lv_ixor hx hb dX8_works_61 ?_
          refine lv_topi (fun v_61 ev_61 => ?_)
          refine lv_iand hx hb dX8_works_62 ?_
          refine lv_topi (fun v_62 ev_62 => ?_)
          refine lv_if_ne (tgt := 87) hx hb dX8_works_63 (by decide) (fun c_63 => ?_) (fun c_63 => ?_)
          · skip
            refine lv_iconst (v := 0) hx hb dX8_works_87 (by decide +kernel) ?_
            refine va_zast hx hb hK hP hD hS 5 2 rfl rfl (vp_in_nI (by omega) (by omega)) dX8_works_88 (fun H locs hP hD hS => ?_)
            have hP : va_P (dC, dI) vwCl [(mo, .inr (8, [.int (nI n), .ref m1, .ref m2, .ref m3, .long ka, .long kb, .ref m6, .ref m7, .ref m8, .ref m9, .ref m10, .ref m11, .ref m12, .ref m13, .ref m14, .ref m15, .ref m16])), (m1, .inl (cZ, 8, .inl fs)), (m2, .inl (cI, 8, .inl fp)), (m6, .inl (cI, 8, .inl fm6_43)), (m7, .inl (cI, 9, .inl fm7_43)), (m8, .inl (cZ, 256, .inl (upd fm8_43 ((nI i_43) : Int32).toNatClampNeg (vp_nar .boolean 0))))] H := hP
            have hD : va_D A [(mo, .inr (8, [.int (nI n), .ref m1, .ref m2, .ref m3, .long ka, .long kb, .ref m6, .ref m7, .ref m8, .ref m9, .ref m10, .ref m11, .ref m12, .ref m13, .ref m14, .ref m15, .ref m16])), (m1, .inl (cZ, 8, .inl fs)), (m2, .inl (cI, 8, .inl fp)), (m6, .inl (cI, 8, .inl fm6_43)), (m7, .inl (cI, 9, .inl fm7_43)), (m8, .inl (cZ, 256, .inl (upd fm8_43 ((nI i_43) : Int32).toNatClampNeg (vp_nar .boolean 0))))] := hD
            generalize (upd fm8_43 ((nI i_43) : Int32).toNatClampNeg (vp_nar .boolean 0)) = f_88 at hP hD
            refine lv_iinc (v := (nI (i_43 + 1))) (lv' := [(4, .int (nI (i_43 + 1))), (3, .int v_38), (0, .ref mo), (1, .int (nI j_2)), (2, .int (nI j_10))]) hx hb dX8_works_89 hl (k := 0) rfl (nI_1 _) (by decide) rfl (fun ls hl => ?_)
            refine lv_goto (tgt := 43) hx hb dX8_works_92 (by decide) ?_
            exact ih_43 _ (by omega) _ _ _ ⟨(i_43 + 1), fm6_43, fm7_43, f_88, by omega, hP, hD, hS, lv_sub hl [0, 1, 2, 3, 4] rfl, rfl⟩
          · skip
            refine lv_aload_n hx hb dX8_works_66 rfl (lv_at hl 2 rfl) ?_
            refine lv_iconst (v := 1) hx hb dX8_works_67 (by decide +kernel) ?_
            refine lv_iload_n hx hb dX8_works_68 rfl (lv_at hl 3 rfl) ?_
            refine lv_ishl hx hb dX8_works_69 ?_
            refine mz_ti (y := (nI (2 ^ j_2))) (mz_sh1 (by omega)) ?_
            refine lv_iconst (v := 1) hx hb dX8_works_70 (by decide +kernel) ?_
            refine lv_iload_n hx hb dX8_works_71 rfl (lv_at hl 4 rfl) ?_
            refine lv_ishl hx hb dX8_works_72 ?_
            refine mz_ti (y := (nI (2 ^ j_10))) (mz_sh1 (by omega)) ?_
            refine lv_iload hx hb dX8_works_73 (lv_at hl 0 rfl) ?_
            refine lv_iconst (v := 0) hx hb dX8_works_75 (by decide +kernel) ?_
            refine lv_iconst (v := 0) hx hb dX8_works_76 (by decide +kernel) ?_
            have hPc := hP.sub (ws' := [(mo, .inr (8, [.int (nI n), .ref m1, .ref m2, .ref m3, .long ka, .long kb, .ref m6, .ref m7, .ref m8, .ref m9, .ref m10, .ref m11, .ref m12, .ref m13, .ref m14, .ref m15, .ref m16])), (m2, .inl (cI, 8, .inl fp)), (m6, .inl (cI, 8, .inl fm6_43)), (m7, .inl (cI, 9, .inl fm7_43))]) [0, 2, 3, 4] rfl
            have hDc := hD.sub (ws' := [(mo, .inr (8, [.int (nI n), .ref m1, .ref m2, .ref m3, .long ka, .long kb, .ref m6, .ref m7, .ref m8, .ref m9, .ref m10, .ref m11, .ref m12, .ref m13, .ref m14, .ref m15, .ref m16])), (m2, .inl (cI, 8, .inl fp)), (m6, .inl (cI, 8, .inl fm6_43)), (m7, .inl (cI, 9, .inl fm7_43))]) [0, 2, 3, 4] (by decide) rfl
            have hFc := va_free (wc := [(mo, .inr (8, [.int (nI n), .ref m1, .ref m2, .ref m3, .long ka, .long kb, .ref m6, .ref m7, .ref m8, .ref m9, .ref m10, .ref m11, .ref m12, .ref m13, .ref m14, .ref m15, .ref m16])), (m2, .inl (cI, 8, .inl fp)), (m6, .inl (cI, 8, .inl fm6_43)), (m7, .inl (cI, 9, .inl fm7_43))]) hD hS hA [0, 2, 3, 4] rfl
            refine va_calli (va_runV (As := [.int (nI (2 ^ j_2)), .int (nI (2 ^ j_10)), .int (nI i_43), .int 0, .int 0]) (rest := [.int (nI i_43), .ref m8]) ⟨hx, hb, hml, hown, hts⟩ (mz_m_barred l dC dI cI cJ cZ mo m1 m2 m3 m6 m7 m8 m9 m10 m11 m12 m13 m14 m15 m16 n ka kb fp fm6_43 fm7_43 (nI (2 ^ j_2)) (nI (2 ^ j_10)) (nI i_43) 0 0 H.size (by first | assumption | omega)) (cwV 5 hts gX8_works_X8_barred rfl rfl rfl (by decide +kernel) ⟨Nat.le_of_ble_eq_true rfl, Nat.le_of_ble_eq_true rfl⟩) ⟨fun a U g mk q => mz_blI q, va_recv hK hPc (ci := 8) (q0 := 0) rfl rfl, fun U hU hW => ⟨rfl, by rw [hU], by rw [hU]; exact hPc, va_K.moved hW.alike hK, hDc.weaken (fun _ _ _ _ => trivial), mz_nw hW hN⟩⟩ rfl rfl hl.1 rfl (lv_room (Nat.le_of_ble_eq_true rfl)) dX8_works_77 ⟨Nat.le_of_ble_eq_true rfl, Nat.le_of_ble_eq_true rfl⟩) hS (fun q _ h => hFc q h) hFc (fun r_77 u t H1 locs ht hvm hw_77 hB hz1 hk1 hS => ?_)
            obtain ⟨gw_77, gt_77, hP1, hD1⟩ := hB
            rw [ht] at hP1
            obtain ⟨hP, hD⟩ := va_join (wr := [(m1, .inl (cZ, 8, .inl fs)), (m8, .inl (cZ, 256, .inl fm8_43))]) (w1 := [(mo, .inr (8, [.int (nI n), .ref m1, .ref m2, .ref m3, .long ka, .long kb, .ref m6, .ref m7, .ref m8, .ref m9, .ref m10, .ref m11, .ref m12, .ref m13, .ref m14, .ref m15, .ref m16])), (m2, .inl (cI, 8, .inl fp)), (m6, .inl (cI, 8, .inl gw_77)), (m7, .inl (cI, 9, .inl gt_77))]) hP hD [0, 2, 3, 4] [1, 5] rfl rfl (by decide) (by decide) hk1 hFc hP1 hD1
            generalize H1 = H at hP hS ⊢
            have hP : va_P (dC, dI) vwCl [(m1, .inl (cZ, 8, .inl fs)), (m8, .inl (cZ, 256, .inl fm8_43)), (mo, .inr (8, [.int (nI n), .ref m1, .ref m2, .ref m3, .long ka, .long kb, .ref m6, .ref m7, .ref m8, .ref m9, .ref m10, .ref m11, .ref m12, .ref m13, .ref m14, .ref m15, .ref m16])), (m2, .inl (cI, 8, .inl fp)), (m6, .inl (cI, 8, .inl gw_77)), (m7, .inl (cI, 9, .inl gt_77))] H := hP
            have hD : va_D A [(m1, .inl (cZ, 8, .inl fs)), (m8, .inl (cZ, 256, .inl fm8_43)), (mo, .inr (8, [.int (nI n), .ref m1, .ref m2, .ref m3, .long ka, .long kb, .ref m6, .ref m7, .ref m8, .ref m9, .ref m10, .ref m11, .ref m12, .ref m13, .ref m14, .ref m15, .ref m16])), (m2, .inl (cI, 8, .inl fp)), (m6, .inl (cI, 8, .inl gw_77)), (m7, .inl (cI, 9, .inl gt_77))] := hD
            refine lv_if_eq (tgt := 87) hx hb dX8_works_80 (by decide) (fun c_80 => ?_) (fun c_80 => ?_)
            · skip
              refine lv_iconst (v := 0) hx hb dX8_works_87 (by decide +kernel) ?_
              refine va_zast hx hb hK hP hD hS 1 2 rfl rfl (vp_in_nI (by omega) (by omega)) dX8_works_88 (fun H locs hP hD hS => ?_)
              have hP : va_P (dC, dI) vwCl [(m1, .inl (cZ, 8, .inl fs)), (m8, .inl (cZ, 256, .inl (upd fm8_43 ((nI i_43) : Int32).toNatClampNeg (vp_nar .boolean 0)))), (mo, .inr (8, [.int (nI n), .ref m1, .ref m2, .ref m3, .long ka, .long kb, .ref m6, .ref m7, .ref m8, .ref m9, .ref m10, .ref m11, .ref m12, .ref m13, .ref m14, .ref m15, .ref m16])), (m2, .inl (cI, 8, .inl fp)), (m6, .inl (cI, 8, .inl gw_77)), (m7, .inl (cI, 9, .inl gt_77))] H := hP
              have hD : va_D A [(m1, .inl (cZ, 8, .inl fs)), (m8, .inl (cZ, 256, .inl (upd fm8_43 ((nI i_43) : Int32).toNatClampNeg (vp_nar .boolean 0)))), (mo, .inr (8, [.int (nI n), .ref m1, .ref m2, .ref m3, .long ka, .long kb, .ref m6, .ref m7, .ref m8, .ref m9, .ref m10, .ref m11, .ref m12, .ref m13, .ref m14, .ref m15, .ref m16])), (m2, .inl (cI, 8, .inl fp)), (m6, .inl (cI, 8, .inl gw_77)), (m7, .inl (cI, 9, .inl gt_77))] := hD
              generalize (upd fm8_43 ((nI i_43) : Int32).toNatClampNeg (vp_nar .boolean 0)) = f_88 at hP hD
              refine lv_iinc (v := (nI (i_43 + 1))) (lv' := [(4, .int (nI (i_43 + 1))), (3, .int v_38), (0, .ref mo), (1, .int (nI j_2)), (2, .int (nI j_10))]) hx hb dX8_works_89 hl (k := 0) rfl (nI_1 _) (by decide) rfl (fun ls hl => ?_)
              refine lv_goto (tgt := 43) hx hb dX8_works_92 (by decide) ?_
              exact ih_43 _ (by omega) _ _ _ ⟨(i_43 + 1), gw_77, gt_77, f_88, by omega, hP.sub [2, 0, 3, 4, 5, 1] rfl, hD.sub [2, 0, 3, 4, 5, 1] (by decide) rfl, hS, lv_sub hl [0, 1, 2, 3, 4] rfl, rfl⟩
            · skip
              refine lv_iconst (v := 1) hx hb dX8_works_83 (by decide +kernel) ?_
              refine lv_goto (tgt := 88) hx hb dX8_works_84 (by decide) ?_
              refine va_zast hx hb hK hP hD hS 1 2 rfl rfl (vp_in_nI (by omega) (by omega)) dX8_works_88 (fun H locs hP hD hS => ?_)
              have hP : va_P (dC, dI) vwCl [(m1, .inl (cZ, 8, .inl fs)), (m8, .inl (cZ, 256, .inl (upd fm8_43 ((nI i_43) : Int32).toNatClampNeg (vp_nar .boolean 1)))), (mo, .inr (8, [.int (nI n), .ref m1, .ref m2, .ref m3, .long ka, .long kb, .ref m6, .ref m7, .ref m8, .ref m9, .ref m10, .ref m11, .ref m12, .ref m13, .ref m14, .ref m15, .ref m16])), (m2, .inl (cI, 8, .inl fp)), (m6, .inl (cI, 8, .inl gw_77)), (m7, .inl (cI, 9, .inl gt_77))] H := hP
              have hD : va_D A [(m1, .inl (cZ, 8, .inl fs)), (m8, .inl (cZ, 256, .inl (upd fm8_43 ((nI i_43) : Int32).toNatClampNeg (vp_nar .boolean 1)))), (mo, .inr (8, [.int (nI n), .ref m1, .ref m2, .ref m3, .long ka, .long kb, .ref m6, .ref m7, .ref m8, .ref m9, .ref m10, .ref m11, .ref m12, .ref m13, .ref m14, .ref m15, .ref m16])), (m2, .inl (cI, 8, .inl fp)), (m6, .inl (cI, 8, .inl gw_77)), (m7, .inl (cI, 9, .inl gt_77))] := hD
              generalize (upd fm8_43 ((nI i_43) : Int32).toNatClampNeg (vp_nar .boolean 1)) = f_88 at hP hD
              refine lv_iinc (v := (nI (i_43 + 1))) (lv' := [(4, .int (nI (i_43 + 1))), (3, .int v_38), (0, .ref mo), (1, .int (nI j_2)), (2, .int (nI j_10))]) hx hb dX8_works_89 hl (k := 0) rfl (nI_1 _) (by decide) rfl (fun ls hl => ?_)
              refine lv_goto (tgt := 43) hx hb dX8_works_92 (by decide) ?_
              exact ih_43 _ (by omega) _ _ _ ⟨(i_43 + 1), gw_77, gt_77, f_88, by omega, hP.sub [2, 0, 3, 4, 5, 1] rfl, hD.sub [2, 0, 3, 4, 5, 1] (by decide) rfl, hS, lv_sub hl [0, 1, 2, 3, 4] rfl, rfl⟩
      · skip
        have d_18 : j_2 = j_10 := (nI_eq (a := j_2) (b := j_10) (by omega) (by omega)).mp c_18
        refine lv_iconst (v := 0) hx hb dX8_works_21 (by decide +kernel) ?_
        have hP9 := hP.sub (ws' := [(mo, .inr (8, [.int (nI n), .ref m1, .ref m2, .ref m3, .long ka, .long kb, .ref m6, .ref m7, .ref m8, .ref m9, .ref m10, .ref m11, .ref m12, .ref m13, .ref m14, .ref m15, .ref m16])), (m1, .inl (cZ, 8, .inl fs)), (m2, .inl (cI, 8, .inl fp)), (m6, .inl (cI, 8, .inl fw)), (m7, .inl (cI, 9, .inl ft)), (m8, .inl (cZ, 256, .inl fr))]) [0, 1, 2, 3, 4, 5] rfl
        have hD9 := hD.sub (ws' := [(mo, .inr (8, [.int (nI n), .ref m1, .ref m2, .ref m3, .long ka, .long kb, .ref m6, .ref m7, .ref m8, .ref m9, .ref m10, .ref m11, .ref m12, .ref m13, .ref m14, .ref m15, .ref m16])), (m1, .inl (cZ, 8, .inl fs)), (m2, .inl (cI, 8, .inl fp)), (m6, .inl (cI, 8, .inl fw)), (m7, .inl (cI, 9, .inl ft)), (m8, .inl (cZ, 256, .inl fr))]) [0, 1, 2, 3, 4, 5] (by decide) rfl
        refine W.widen (k := 0) (n := 0) (Nat.le_of_ble_eq_true rfl) (Nat.le_of_ble_eq_true rfl) ?_
        exact W.zret (v := 0) hx hb hr (mz_nz (by decide +kernel)) (fun t ht hW => ⟨⟨0, (), rfl, Or.inl rfl, fw, ft, fr, by rw [ht]; exact hP9, hD9⟩, hS.F ht⟩) hS.2.2 dX8_works_22
    · skip
      refine lv_if_eq (tgt := 21) hx hb dX8_works_13 (by decide) (fun _ => ?_) (fun c_13 => absurd (by decide +kernel) c_13)
      refine lv_iconst (v := 0) hx hb dX8_works_21 (by decide +kernel) ?_
      have hP9 := hP.sub (ws' := [(mo, .inr (8, [.int (nI n), .ref m1, .ref m2, .ref m3, .long ka, .long kb, .ref m6, .ref m7, .ref m8, .ref m9, .ref m10, .ref m11, .ref m12, .ref m13, .ref m14, .ref m15, .ref m16])), (m1, .inl (cZ, 8, .inl fs)), (m2, .inl (cI, 8, .inl fp)), (m6, .inl (cI, 8, .inl fw)), (m7, .inl (cI, 9, .inl ft)), (m8, .inl (cZ, 256, .inl fr))]) [0, 1, 2, 3, 4, 5] rfl
      have hD9 := hD.sub (ws' := [(mo, .inr (8, [.int (nI n), .ref m1, .ref m2, .ref m3, .long ka, .long kb, .ref m6, .ref m7, .ref m8, .ref m9, .ref m10, .ref m11, .ref m12, .ref m13, .ref m14, .ref m15, .ref m16])), (m1, .inl (cZ, 8, .inl fs)), (m2, .inl (cI, 8, .inl fp)), (m6, .inl (cI, 8, .inl fw)), (m7, .inl (cI, 9, .inl ft)), (m8, .inl (cZ, 256, .inl fr))]) [0, 1, 2, 3, 4, 5] (by decide) rfl
      refine W.widen (k := 0) (n := 0) (Nat.le_of_ble_eq_true rfl) (Nat.le_of_ble_eq_true rfl) ?_
      exact W.zret (v := 0) hx hb hr (mz_nz (by decide +kernel)) (fun t ht hW => ⟨⟨0, (), rfl, Or.inl rfl, fw, ft, fr, by rw [ht]; exact hP9, hD9⟩, hS.F ht⟩) hS.2.2 dX8_works_22
  · skip
    refine lv_if_eq (tgt := 21) hx hb dX8_works_5 (by decide) (fun _ => ?_) (fun c_5 => absurd (by decide +kernel) c_5)
    refine lv_iconst (v := 0) hx hb dX8_works_21 (by decide +kernel) ?_
    have hP9 := hP.sub (ws' := [(mo, .inr (8, [.int (nI n), .ref m1, .ref m2, .ref m3, .long ka, .long kb, .ref m6, .ref m7, .ref m8, .ref m9, .ref m10, .ref m11, .ref m12, .ref m13, .ref m14, .ref m15, .ref m16])), (m1, .inl (cZ, 8, .inl fs)), (m2, .inl (cI, 8, .inl fp)), (m6, .inl (cI, 8, .inl fw)), (m7, .inl (cI, 9, .inl ft)), (m8, .inl (cZ, 256, .inl fr))]) [0, 1, 2, 3, 4, 5] rfl
    have hD9 := hD.sub (ws' := [(mo, .inr (8, [.int (nI n), .ref m1, .ref m2, .ref m3, .long ka, .long kb, .ref m6, .ref m7, .ref m8, .ref m9, .ref m10, .ref m11, .ref m12, .ref m13, .ref m14, .ref m15, .ref m16])), (m1, .inl (cZ, 8, .inl fs)), (m2, .inl (cI, 8, .inl fp)), (m6, .inl (cI, 8, .inl fw)), (m7, .inl (cI, 9, .inl ft)), (m8, .inl (cZ, 256, .inl fr))]) [0, 1, 2, 3, 4, 5] (by decide) rfl
    refine W.widen (k := 0) (n := 0) (Nat.le_of_ble_eq_true rfl) (Nat.le_of_ble_eq_true rfl) ?_
    exact W.zret (v := 0) hx hb hr (mz_nz (by decide +kernel)) (fun t ht hW => ⟨⟨0, (), rfl, Or.inl rfl, fw, ft, fr, by rw [ht]; exact hP9, hD9⟩, hS.F ht⟩) hS.2.2 dX8_works_22
set_option maxHeartbeats 1000000 in
set_option maxRecDepth 100000 in
theorem mz_m_least (l : Launch) (dC : Nat → ClassId) (dI : Nat → Nat → Nat) (cI cJ cZ : ClassId) (mo : Nat) (m1 : Nat) (m2 : Nat) (m3 : Nat) (m6 : Nat) (m7 : Nat) (m8 : Nat) (m9 : Nat) (m10 : Nat) (m11 : Nat) (m12 : Nat) (m13 : Nat) (m14 : Nat) (m15 : Nat) (m16 : Nat) (n : Nat) (ka : Int64) (kb : Int64) (fs : Nat → Int32) (fp : Nat → Int32) (fw : Nat → Int32) (ft : Nat → Int32) (fr : Nat → Int32) (p1 : Int32) (p2 : Int32) (sz : Nat) (hn : n ≤ 8) : Met l yX8_least wsX8_least ({ frames := 6, cells := 0, slots := 0, locals := 160 }) (va_Pc [.ref mo, .int p1, .int p2] (fun U => U.heap.size = sz ∧ va_P (dC, dI) vwCl [(mo, .inr (8, [.int (nI n), .ref m1, .ref m2, .ref m3, .long ka, .long kb, .ref m6, .ref m7, .ref m8, .ref m9, .ref m10, .ref m11, .ref m12, .ref m13, .ref m14, .ref m15, .ref m16])), (m1, .inl (cZ, 8, .inl fs)), (m2, .inl (cI, 8, .inl fp)), (m6, .inl (cI, 8, .inl fw)), (m7, .inl (cI, 9, .inl ft)), (m8, .inl (cZ, 256, .inl fr))] U.heap ∧ va_K (dC, dI) vwCl [(cI, FieldType.int), (cJ, FieldType.long), (cZ, FieldType.boolean)] U ∧ va_D (fun _ => True) [(mo, .inr (8, [.int (nI n), .ref m1, .ref m2, .ref m3, .long ka, .long kb, .ref m6, .ref m7, .ref m8, .ref m9, .ref m10, .ref m11, .ref m12, .ref m13, .ref m14, .ref m15, .ref m16])), (m1, .inl (cZ, 8, .inl fs)), (m2, .inl (cI, 8, .inl fp)), (m6, .inl (cI, 8, .inl fw)), (m7, .inl (cI, 9, .inl ft)), (m8, .inl (cZ, 256, .inl fr))] ∧ mz_N U)) (va_Qi (fun (r : Int32) (_ : Unit) => True) (fun _ t => ∃ (gw : Nat → Int32), ∃ (gt : Nat → Int32), ∃ (gr : Nat → Int32), va_P (dC, dI) vwCl [(mo, .inr (8, [.int (nI n), .ref m1, .ref m2, .ref m3, .long ka, .long kb, .ref m6, .ref m7, .ref m8, .ref m9, .ref m10, .ref m11, .ref m12, .ref m13, .ref m14, .ref m15, .ref m16])), (m1, .inl (cZ, 8, .inl fs)), (m2, .inl (cI, 8, .inl fp)), (m6, .inl (cI, 8, .inl gw)), (m7, .inl (cI, 9, .inl gt)), (m8, .inl (cZ, 256, .inl gr))] t.heap ∧ va_D (va_A [(mo, .inr (8, [.int (nI n), .ref m1, .ref m2, .ref m3, .long ka, .long kb, .ref m6, .ref m7, .ref m8, .ref m9, .ref m10, .ref m11, .ref m12, .ref m13, .ref m14, .ref m15, .ref m16])), (m1, .inl (cZ, 8, .inl fs)), (m2, .inl (cI, 8, .inl fp)), (m6, .inl (cI, 8, .inl fw)), (m7, .inl (cI, 9, .inl ft)), (m8, .inl (cZ, 256, .inl fr))] sz) [(mo, .inr (8, [.int (nI n), .ref m1, .ref m2, .ref m3, .long ka, .long kb, .ref m6, .ref m7, .ref m8, .ref m9, .ref m10, .ref m11, .ref m12, .ref m13, .ref m14, .ref m15, .ref m16])), (m1, .inl (cZ, 8, .inl fs)), (m2, .inl (cI, 8, .inl fp)), (m6, .inl (cI, 8, .inl gw)), (m7, .inl (cI, 9, .inl gt)), (m8, .inl (cZ, 256, .inl gr))]) (va_A [(mo, .inr (8, [.int (nI n), .ref m1, .ref m2, .ref m3, .long ka, .long kb, .ref m6, .ref m7, .ref m8, .ref m9, .ref m10, .ref m11, .ref m12, .ref m13, .ref m14, .ref m15, .ref m16])), (m1, .inl (cZ, 8, .inl fs)), (m2, .inl (cI, 8, .inl fp)), (m6, .inl (cI, 8, .inl fw)), (m7, .inl (cI, 9, .inl ft)), (m8, .inl (cZ, 256, .inl fr))] sz)) 0 0 (va_A [(mo, .inr (8, [.int (nI n), .ref m1, .ref m2, .ref m3, .long ka, .long kb, .ref m6, .ref m7, .ref m8, .ref m9, .ref m10, .ref m11, .ref m12, .ref m13, .ref m14, .ref m15, .ref m16])), (m1, .inl (cZ, 8, .inl fs)), (m2, .inl (cI, 8, .inl fp)), (m6, .inl (cI, 8, .inl fw)), (m7, .inl (cI, 9, .inl ft)), (m8, .inl (cZ, 256, .inl fr))] sz) := by
  refine Met.ofW (cc := cX8_least) (maxL := 5) (ret := (some .int)) (by decide) rfl ?_
  intro p e s m args below meth c s₁ B hml hv
  obtain ⟨rfl, hsz, hP, hK, hD0, hN⟩ := hv
  subst hsz
  have hx := B.exec
  have hb := B.bytes
  have hr := B.returns
  have hts := atoms_spec (ws := wsX8_least) B.pre
  have hown : s.vm.findClass RX8 = some m.cls := findClass_of_methodNamed B.named
  have hlocks := B.notSynchronized
  have hD := hD0.self (sz := s.heap.size)
  generalize hAe : va_A [(mo, .inr (8, [.int (nI n), .ref m1, .ref m2, .ref m3, .long ka, .long kb, .ref m6, .ref m7, .ref m8, .ref m9, .ref m10, .ref m11, .ref m12, .ref m13, .ref m14, .ref m15, .ref m16])), (m1, .inl (cZ, 8, .inl fs)), (m2, .inl (cI, 8, .inl fp)), (m6, .inl (cI, 8, .inl fw)), (m7, .inl (cI, 9, .inl ft)), (m8, .inl (cZ, 256, .inl fr))] s.heap.size = A at hD ⊢
  have hA : ∀ q : Nat, s.heap.size ≤ q → A q := fun q h => by rw [← hAe]; exact Or.inr h
  have hS : va_S A s.heap s.heap [] := va_S.rf
  have hl := lv_entry ([.ref mo, .int p1, .int p2]) (n := 5) (Nat.le_of_ble_eq_true rfl)
  rw [lg_entry_eq]
  generalize (lg_sl ([.ref mo, .int p1, .int p2]) ++ List.replicate (5 - (lg_sl ([.ref mo, .int p1, .int p2])).length) Slot.unset).toArray = ls at hl ⊢
  have hl : lv_has ls 5 [(0, .ref mo), (1, .int p1), (2, .int p2)] := hl
  refine lv_aload_n hx hb dX8_least_0 rfl (lv_at hl 0 rfl) ?_
  refine lv_iload_n hx hb dX8_least_1 rfl (lv_at hl 1 rfl) ?_
  refine lv_iload_n hx hb dX8_least_2 rfl (lv_at hl 2 rfl) ?_
  have hPc := hP.sub (ws' := [(mo, .inr (8, [.int (nI n), .ref m1, .ref m2, .ref m3, .long ka, .long kb, .ref m6, .ref m7, .ref m8, .ref m9, .ref m10, .ref m11, .ref m12, .ref m13, .ref m14, .ref m15, .ref m16])), (m1, .inl (cZ, 8, .inl fs)), (m2, .inl (cI, 8, .inl fp)), (m6, .inl (cI, 8, .inl fw)), (m7, .inl (cI, 9, .inl ft)), (m8, .inl (cZ, 256, .inl fr))]) [0, 1, 2, 3, 4, 5] rfl
  have hDc := hD.sub (ws' := [(mo, .inr (8, [.int (nI n), .ref m1, .ref m2, .ref m3, .long ka, .long kb, .ref m6, .ref m7, .ref m8, .ref m9, .ref m10, .ref m11, .ref m12, .ref m13, .ref m14, .ref m15, .ref m16])), (m1, .inl (cZ, 8, .inl fs)), (m2, .inl (cI, 8, .inl fp)), (m6, .inl (cI, 8, .inl fw)), (m7, .inl (cI, 9, .inl ft)), (m8, .inl (cZ, 256, .inl fr))]) [0, 1, 2, 3, 4, 5] (by decide) rfl
  have hFc := va_free (wc := [(mo, .inr (8, [.int (nI n), .ref m1, .ref m2, .ref m3, .long ka, .long kb, .ref m6, .ref m7, .ref m8, .ref m9, .ref m10, .ref m11, .ref m12, .ref m13, .ref m14, .ref m15, .ref m16])), (m1, .inl (cZ, 8, .inl fs)), (m2, .inl (cI, 8, .inl fp)), (m6, .inl (cI, 8, .inl fw)), (m7, .inl (cI, 9, .inl ft)), (m8, .inl (cZ, 256, .inl fr))]) hD hS hA [0, 1, 2, 3, 4, 5] rfl
  refine va_calli (va_runV (As := [.int p1, .int p2]) (rest := []) ⟨hx, hb, hml, hown, hts⟩ (mz_m_works l dC dI cI cJ cZ mo m1 m2 m3 m6 m7 m8 m9 m10 m11 m12 m13 m14 m15 m16 n ka kb fs fp fw ft fr p1 p2 s.heap.size (by first | assumption | omega)) (cwV 2 hts gX8_least_X8_works rfl rfl rfl (by decide +kernel) ⟨Nat.le_of_ble_eq_true rfl, Nat.le_of_ble_eq_true rfl⟩) ⟨fun a U g mk q => mz_blI q, va_recv hK hPc (ci := 8) (q0 := 0) rfl rfl, fun U hU hW => ⟨rfl, by rw [hU], by rw [hU]; exact hPc, va_K.moved hW.alike hK, hDc.weaken (fun _ _ _ _ => trivial), mz_nw hW hN⟩⟩ rfl rfl hl.1 rfl (lv_room (Nat.le_of_ble_eq_true rfl)) dX8_least_3 ⟨Nat.le_of_ble_eq_true rfl, Nat.le_of_ble_eq_true rfl⟩) hS (fun q _ h => hFc q h) hFc (fun r_3 u t H1 locs ht hvm hw_3 hB hz1 hk1 hS => ?_)
  obtain ⟨gw_3, gt_3, gr_3, hP1, hD1⟩ := hB
  rw [ht] at hP1
  obtain ⟨hP, hD⟩ := va_join (wr := []) (w1 := [(mo, .inr (8, [.int (nI n), .ref m1, .ref m2, .ref m3, .long ka, .long kb, .ref m6, .ref m7, .ref m8, .ref m9, .ref m10, .ref m11, .ref m12, .ref m13, .ref m14, .ref m15, .ref m16])), (m1, .inl (cZ, 8, .inl fs)), (m2, .inl (cI, 8, .inl fp)), (m6, .inl (cI, 8, .inl gw_3)), (m7, .inl (cI, 9, .inl gt_3)), (m8, .inl (cZ, 256, .inl gr_3))]) hP hD [0, 1, 2, 3, 4, 5] [] rfl rfl (by decide) (by decide) hk1 hFc hP1 hD1
  generalize H1 = H at hP hS ⊢
  have hP : va_P (dC, dI) vwCl [(mo, .inr (8, [.int (nI n), .ref m1, .ref m2, .ref m3, .long ka, .long kb, .ref m6, .ref m7, .ref m8, .ref m9, .ref m10, .ref m11, .ref m12, .ref m13, .ref m14, .ref m15, .ref m16])), (m1, .inl (cZ, 8, .inl fs)), (m2, .inl (cI, 8, .inl fp)), (m6, .inl (cI, 8, .inl gw_3)), (m7, .inl (cI, 9, .inl gt_3)), (m8, .inl (cZ, 256, .inl gr_3))] H := hP
  have hD : va_D A [(mo, .inr (8, [.int (nI n), .ref m1, .ref m2, .ref m3, .long ka, .long kb, .ref m6, .ref m7, .ref m8, .ref m9, .ref m10, .ref m11, .ref m12, .ref m13, .ref m14, .ref m15, .ref m16])), (m1, .inl (cZ, 8, .inl fs)), (m2, .inl (cI, 8, .inl fp)), (m6, .inl (cI, 8, .inl gw_3)), (m7, .inl (cI, 9, .inl gt_3)), (m8, .inl (cZ, 256, .inl gr_3))] := hD
  refine lv_if_ne (tgt := 11) hx hb dX8_least_6 (by decide) (fun c_6 => ?_) (fun c_6 => ?_)
  · skip
    refine lv_iconst (v := 0) hx hb dX8_least_11 (by decide +kernel) ?_
    refine lv_istore_n (lv' := [(3, .int 0), (0, .ref mo), (1, .int p1), (2, .int p2)]) hx hb dX8_least_12 rfl hl (by decide) rfl (fun ls hl => ?_)
    refine lv_iconst (v := 0) hx hb dX8_least_13 (by decide +kernel) ?_
    refine lv_istore (lv' := [(4, .int 0), (3, .int 0), (0, .ref mo), (1, .int p1), (2, .int p2)]) hx hb dX8_least_14 hl (by decide) rfl (fun ls hl => ?_)
    refine mz_loopU (fun k H locs ls => ∃ (i_16 : Nat), ∃ (x3_16 : Int32), i_16 ≤ 256 ∧ va_P (dC, dI) vwCl [(mo, .inr (8, [.int (nI n), .ref m1, .ref m2, .ref m3, .long ka, .long kb, .ref m6, .ref m7, .ref m8, .ref m9, .ref m10, .ref m11, .ref m12, .ref m13, .ref m14, .ref m15, .ref m16])), (m1, .inl (cZ, 8, .inl fs)), (m2, .inl (cI, 8, .inl fp)), (m6, .inl (cI, 8, .inl gw_3)), (m7, .inl (cI, 9, .inl gt_3)), (m8, .inl (cZ, 256, .inl gr_3))] H ∧ va_D A [(mo, .inr (8, [.int (nI n), .ref m1, .ref m2, .ref m3, .long ka, .long kb, .ref m6, .ref m7, .ref m8, .ref m9, .ref m10, .ref m11, .ref m12, .ref m13, .ref m14, .ref m15, .ref m16])), (m1, .inl (cZ, 8, .inl fs)), (m2, .inl (cI, 8, .inl fp)), (m6, .inl (cI, 8, .inl gw_3)), (m7, .inl (cI, 9, .inl gt_3)), (m8, .inl (cZ, 256, .inl gr_3))] ∧ va_S A s.heap H locs ∧ lv_has ls 5 [(4, .int (nI i_16)), (3, .int x3_16), (0, .ref mo), (1, .int p1), (2, .int p2)] ∧ k = 256 - i_16) ?_ _ _ _ _ ⟨0, 0, by omega, hP, hD, hS, lv_sub hl [0, 1, 2, 3, 4] rfl, rfl⟩
    intro k_16 H locs ls hI_16 ih_16
    obtain ⟨i_16, x3_16, hi_16, hP, hD, hS, hl, hk_16⟩ := hI_16
    refine lv_iload hx hb dX8_least_16 (lv_at hl 0 rfl) ?_
    refine lv_sipush (v := 256) hx hb dX8_least_18 (by decide +kernel) ?_
    refine lv_icmp_ge (tgt := 47) hx hb dX8_least_21 (by decide) (fun c_21 => ?_) (fun c_21 => ?_)
    · skip
      have d_21 : 256 ≤ i_16 := (nI_leI (a := 256) (b := i_16) (by omega) (by omega)).mp c_21
      refine lv_iload_n hx hb dX8_least_47 rfl (lv_at hl 1 rfl) ?_
      have hP9 := hP.sub (ws' := [(mo, .inr (8, [.int (nI n), .ref m1, .ref m2, .ref m3, .long ka, .long kb, .ref m6, .ref m7, .ref m8, .ref m9, .ref m10, .ref m11, .ref m12, .ref m13, .ref m14, .ref m15, .ref m16])), (m1, .inl (cZ, 8, .inl fs)), (m2, .inl (cI, 8, .inl fp)), (m6, .inl (cI, 8, .inl gw_3)), (m7, .inl (cI, 9, .inl gt_3)), (m8, .inl (cZ, 256, .inl gr_3))]) [0, 1, 2, 3, 4, 5] rfl
      have hD9 := hD.sub (ws' := [(mo, .inr (8, [.int (nI n), .ref m1, .ref m2, .ref m3, .long ka, .long kb, .ref m6, .ref m7, .ref m8, .ref m9, .ref m10, .ref m11, .ref m12, .ref m13, .ref m14, .ref m15, .ref m16])), (m1, .inl (cZ, 8, .inl fs)), (m2, .inl (cI, 8, .inl fp)), (m6, .inl (cI, 8, .inl gw_3)), (m7, .inl (cI, 9, .inl gt_3)), (m8, .inl (cZ, 256, .inl gr_3))]) [0, 1, 2, 3, 4, 5] (by decide) rfl
      refine W.widen (k := 0) (n := 0) (Nat.le_of_ble_eq_true rfl) (Nat.le_of_ble_eq_true rfl) ?_
      exact W.iret (v := x3_16) hx hb hr (fun t ht hW => ⟨⟨x3_16, (), rfl, trivial, gw_3, gt_3, gr_3, by rw [ht]; exact hP9, hD9⟩, hS.F ht⟩) hS.2.2 dX8_least_48
    · skip
      have d_21 : ¬ 256 ≤ i_16 := fun h => c_21 ((nI_leI (a := 256) (b := i_16) (by omega) (by omega)).mpr h)
      refine lv_iload_n hx hb dX8_least_24 rfl (lv_at hl 1 rfl) ?_
      refine lv_aload_n hx hb dX8_least_25 rfl (lv_at hl 2 rfl) ?_
      refine lv_iload hx hb dX8_least_26 (lv_at hl 0 rfl) ?_
      have hPc := hP.sub (ws' := [(mo, .inr (8, [.int (nI n), .ref m1, .ref m2, .ref m3, .long ka, .long kb, .ref m6, .ref m7, .ref m8, .ref m9, .ref m10, .ref m11, .ref m12, .ref m13, .ref m14, .ref m15, .ref m16])), (m8, .inl (cZ, 256, .inl gr_3))]) [0, 5] rfl
      refine va_calli (va_runV (As := [.int (nI i_16)]) (rest := [.int x3_16]) ⟨hx, hb, hml, hown, hts⟩ (mz_m_isLeast l dC dI cI cJ cZ mo m1 m2 m3 m6 m7 m8 m9 m10 m11 m12 m13 m14 m15 m16 n ka kb gr_3 i_16 H (by first | assumption | omega)) (cwV 1 hts gX8_least_X8_isLeast rfl rfl rfl (by decide +kernel) ⟨Nat.le_of_ble_eq_true rfl, Nat.le_of_ble_eq_true rfl⟩) ⟨fun a U g mk q => mz_blP q, va_recv hK hPc (ci := 8) (q0 := 0) rfl rfl, fun U hU hW => ⟨rfl, hU, hPc, va_K.moved hW.alike hK, mz_nw hW hN⟩⟩ rfl rfl hl.1 rfl (lv_room (Nat.le_of_ble_eq_true rfl)) dX8_least_28 ⟨Nat.le_of_ble_eq_true rfl, Nat.le_of_ble_eq_true rfl⟩) hS (fun q _ h => h.elim) (fun q h => h.elim) (fun r_28 u t H1 locs ht hvm hw_28 hB hz1 hk1 hS => ?_)
      have hE : H = H1 := hB.symm.trans ht
      subst hE
      refine lv_if_eq (tgt := 38) hx hb dX8_least_31 (by decide) (fun c_31 => ?_) (fun c_31 => ?_)
      · skip
        refine lv_iconst (v := 0) hx hb dX8_least_38 (by decide +kernel) ?_
        refine lv_iadd hx hb dX8_least_39 ?_
        refine lv_topi (fun v_39 ev_39 => ?_)
        refine lv_istore_n (lv' := [(3, .int v_39), (4, .int (nI i_16)), (0, .ref mo), (1, .int p1), (2, .int p2)]) hx hb dX8_least_40 rfl hl (by decide) rfl (fun ls hl => ?_)
        refine lv_iinc (v := (nI (i_16 + 1))) (lv' := [(4, .int (nI (i_16 + 1))), (3, .int v_39), (0, .ref mo), (1, .int p1), (2, .int p2)]) hx hb dX8_least_41 hl (k := 1) rfl (nI_1 _) (by decide) rfl (fun ls hl => ?_)
        refine lv_goto (tgt := 16) hx hb dX8_least_44 (by decide) ?_
        exact ih_16 _ (by omega) _ _ _ ⟨(i_16 + 1), v_39, by omega, hP, hD, hS, lv_sub hl [0, 1, 2, 3, 4] rfl, rfl⟩
      · skip
        refine lv_iconst (v := 1) hx hb dX8_least_34 (by decide +kernel) ?_
        refine lv_goto (tgt := 39) hx hb dX8_least_35 (by decide) ?_
        refine lv_iadd hx hb dX8_least_39 ?_
        refine lv_topi (fun v_39 ev_39 => ?_)
        refine lv_istore_n (lv' := [(3, .int v_39), (4, .int (nI i_16)), (0, .ref mo), (1, .int p1), (2, .int p2)]) hx hb dX8_least_40 rfl hl (by decide) rfl (fun ls hl => ?_)
        refine lv_iinc (v := (nI (i_16 + 1))) (lv' := [(4, .int (nI (i_16 + 1))), (3, .int v_39), (0, .ref mo), (1, .int p1), (2, .int p2)]) hx hb dX8_least_41 hl (k := 1) rfl (nI_1 _) (by decide) rfl (fun ls hl => ?_)
        refine lv_goto (tgt := 16) hx hb dX8_least_44 (by decide) ?_
        exact ih_16 _ (by omega) _ _ _ ⟨(i_16 + 1), v_39, by omega, hP, hD, hS, lv_sub hl [0, 1, 2, 3, 4] rfl, rfl⟩
  · skip
    refine lv_iconst (v := (-1)) hx hb dX8_least_9 (by decide +kernel) ?_
    have hP9 := hP.sub (ws' := [(mo, .inr (8, [.int (nI n), .ref m1, .ref m2, .ref m3, .long ka, .long kb, .ref m6, .ref m7, .ref m8, .ref m9, .ref m10, .ref m11, .ref m12, .ref m13, .ref m14, .ref m15, .ref m16])), (m1, .inl (cZ, 8, .inl fs)), (m2, .inl (cI, 8, .inl fp)), (m6, .inl (cI, 8, .inl gw_3)), (m7, .inl (cI, 9, .inl gt_3)), (m8, .inl (cZ, 256, .inl gr_3))]) [0, 1, 2, 3, 4, 5] rfl
    have hD9 := hD.sub (ws' := [(mo, .inr (8, [.int (nI n), .ref m1, .ref m2, .ref m3, .long ka, .long kb, .ref m6, .ref m7, .ref m8, .ref m9, .ref m10, .ref m11, .ref m12, .ref m13, .ref m14, .ref m15, .ref m16])), (m1, .inl (cZ, 8, .inl fs)), (m2, .inl (cI, 8, .inl fp)), (m6, .inl (cI, 8, .inl gw_3)), (m7, .inl (cI, 9, .inl gt_3)), (m8, .inl (cZ, 256, .inl gr_3))]) [0, 1, 2, 3, 4, 5] (by decide) rfl
    refine W.widen (k := 0) (n := 0) (Nat.le_of_ble_eq_true rfl) (Nat.le_of_ble_eq_true rfl) ?_
    exact W.iret (v := (-1)) hx hb hr (fun t ht hW => ⟨⟨(-1), (), rfl, trivial, gw_3, gt_3, gr_3, by rw [ht]; exact hP9, hD9⟩, hS.F ht⟩) hS.2.2 dX8_least_10
set_option maxHeartbeats 1000000 in
set_option maxRecDepth 100000 in
theorem mz_m_leastAt (l : Launch) (dC : Nat → ClassId) (dI : Nat → Nat → Nat) (cI cJ cZ : ClassId) (mo : Nat) (m1 : Nat) (m2 : Nat) (m3 : Nat) (m6 : Nat) (m7 : Nat) (m8 : Nat) (m9 : Nat) (m10 : Nat) (m11 : Nat) (m12 : Nat) (m13 : Nat) (m14 : Nat) (m15 : Nat) (m16 : Nat) (n : Nat) (ka : Int64) (kb : Int64) (fs : Nat → Int32) (fp : Nat → Int32) (fw : Nat → Int32) (ft : Nat → Int32) (fr : Nat → Int32) (p1 : Int32) (p2 : Int32) (p3 : Int32) (sz : Nat) (hn : n ≤ 8) : Met l yX8_leastAt wsX8_leastAt ({ frames := 6, cells := 0, slots := 0, locals := 160 }) (va_Pc [.ref mo, .int p1, .int p2, .int p3] (fun U => U.heap.size = sz ∧ va_P (dC, dI) vwCl [(mo, .inr (8, [.int (nI n), .ref m1, .ref m2, .ref m3, .long ka, .long kb, .ref m6, .ref m7, .ref m8, .ref m9, .ref m10, .ref m11, .ref m12, .ref m13, .ref m14, .ref m15, .ref m16])), (m1, .inl (cZ, 8, .inl fs)), (m2, .inl (cI, 8, .inl fp)), (m6, .inl (cI, 8, .inl fw)), (m7, .inl (cI, 9, .inl ft)), (m8, .inl (cZ, 256, .inl fr))] U.heap ∧ va_K (dC, dI) vwCl [(cI, FieldType.int), (cJ, FieldType.long), (cZ, FieldType.boolean)] U ∧ va_D (fun _ => True) [(mo, .inr (8, [.int (nI n), .ref m1, .ref m2, .ref m3, .long ka, .long kb, .ref m6, .ref m7, .ref m8, .ref m9, .ref m10, .ref m11, .ref m12, .ref m13, .ref m14, .ref m15, .ref m16])), (m1, .inl (cZ, 8, .inl fs)), (m2, .inl (cI, 8, .inl fp)), (m6, .inl (cI, 8, .inl fw)), (m7, .inl (cI, 9, .inl ft)), (m8, .inl (cZ, 256, .inl fr))] ∧ mz_N U)) (va_Qi (fun (r : Int32) (_ : Unit) => True) (fun _ t => ∃ (gw : Nat → Int32), ∃ (gt : Nat → Int32), ∃ (gr : Nat → Int32), va_P (dC, dI) vwCl [(mo, .inr (8, [.int (nI n), .ref m1, .ref m2, .ref m3, .long ka, .long kb, .ref m6, .ref m7, .ref m8, .ref m9, .ref m10, .ref m11, .ref m12, .ref m13, .ref m14, .ref m15, .ref m16])), (m1, .inl (cZ, 8, .inl fs)), (m2, .inl (cI, 8, .inl fp)), (m6, .inl (cI, 8, .inl gw)), (m7, .inl (cI, 9, .inl gt)), (m8, .inl (cZ, 256, .inl gr))] t.heap ∧ va_D (va_A [(mo, .inr (8, [.int (nI n), .ref m1, .ref m2, .ref m3, .long ka, .long kb, .ref m6, .ref m7, .ref m8, .ref m9, .ref m10, .ref m11, .ref m12, .ref m13, .ref m14, .ref m15, .ref m16])), (m1, .inl (cZ, 8, .inl fs)), (m2, .inl (cI, 8, .inl fp)), (m6, .inl (cI, 8, .inl fw)), (m7, .inl (cI, 9, .inl ft)), (m8, .inl (cZ, 256, .inl fr))] sz) [(mo, .inr (8, [.int (nI n), .ref m1, .ref m2, .ref m3, .long ka, .long kb, .ref m6, .ref m7, .ref m8, .ref m9, .ref m10, .ref m11, .ref m12, .ref m13, .ref m14, .ref m15, .ref m16])), (m1, .inl (cZ, 8, .inl fs)), (m2, .inl (cI, 8, .inl fp)), (m6, .inl (cI, 8, .inl gw)), (m7, .inl (cI, 9, .inl gt)), (m8, .inl (cZ, 256, .inl gr))]) (va_A [(mo, .inr (8, [.int (nI n), .ref m1, .ref m2, .ref m3, .long ka, .long kb, .ref m6, .ref m7, .ref m8, .ref m9, .ref m10, .ref m11, .ref m12, .ref m13, .ref m14, .ref m15, .ref m16])), (m1, .inl (cZ, 8, .inl fs)), (m2, .inl (cI, 8, .inl fp)), (m6, .inl (cI, 8, .inl fw)), (m7, .inl (cI, 9, .inl ft)), (m8, .inl (cZ, 256, .inl fr))] sz)) 0 0 (va_A [(mo, .inr (8, [.int (nI n), .ref m1, .ref m2, .ref m3, .long ka, .long kb, .ref m6, .ref m7, .ref m8, .ref m9, .ref m10, .ref m11, .ref m12, .ref m13, .ref m14, .ref m15, .ref m16])), (m1, .inl (cZ, 8, .inl fs)), (m2, .inl (cI, 8, .inl fp)), (m6, .inl (cI, 8, .inl fw)), (m7, .inl (cI, 9, .inl ft)), (m8, .inl (cZ, 256, .inl fr))] sz) := by
  refine Met.ofW (cc := cX8_leastAt) (maxL := 6) (ret := (some .int)) (by decide) rfl ?_
  intro p e s m args below meth c s₁ B hml hv
  obtain ⟨rfl, hsz, hP, hK, hD0, hN⟩ := hv
  subst hsz
  have hx := B.exec
  have hb := B.bytes
  have hr := B.returns
  have hts := atoms_spec (ws := wsX8_leastAt) B.pre
  have hown : s.vm.findClass RX8 = some m.cls := findClass_of_methodNamed B.named
  have hlocks := B.notSynchronized
  have hD := hD0.self (sz := s.heap.size)
  generalize hAe : va_A [(mo, .inr (8, [.int (nI n), .ref m1, .ref m2, .ref m3, .long ka, .long kb, .ref m6, .ref m7, .ref m8, .ref m9, .ref m10, .ref m11, .ref m12, .ref m13, .ref m14, .ref m15, .ref m16])), (m1, .inl (cZ, 8, .inl fs)), (m2, .inl (cI, 8, .inl fp)), (m6, .inl (cI, 8, .inl fw)), (m7, .inl (cI, 9, .inl ft)), (m8, .inl (cZ, 256, .inl fr))] s.heap.size = A at hD ⊢
  have hA : ∀ q : Nat, s.heap.size ≤ q → A q := fun q h => by rw [← hAe]; exact Or.inr h
  have hS : va_S A s.heap s.heap [] := va_S.rf
  have hl := lv_entry ([.ref mo, .int p1, .int p2, .int p3]) (n := 6) (Nat.le_of_ble_eq_true rfl)
  rw [lg_entry_eq]
  generalize (lg_sl ([.ref mo, .int p1, .int p2, .int p3]) ++ List.replicate (6 - (lg_sl ([.ref mo, .int p1, .int p2, .int p3])).length) Slot.unset).toArray = ls at hl ⊢
  have hl : lv_has ls 6 [(0, .ref mo), (1, .int p1), (2, .int p2), (3, .int p3)] := hl
  refine lv_iload_n hx hb dX8_leastAt_0 rfl (lv_at hl 3 rfl) ?_
  refine lv_if_lt (tgt := 13) hx hb dX8_leastAt_1 (by decide) (fun c_1 => ?_) (fun c_1 => ?_)
  · skip
    refine lv_iconst (v := (-1)) hx hb dX8_leastAt_13 (by decide +kernel) ?_
    have hP9 := hP.sub (ws' := [(mo, .inr (8, [.int (nI n), .ref m1, .ref m2, .ref m3, .long ka, .long kb, .ref m6, .ref m7, .ref m8, .ref m9, .ref m10, .ref m11, .ref m12, .ref m13, .ref m14, .ref m15, .ref m16])), (m1, .inl (cZ, 8, .inl fs)), (m2, .inl (cI, 8, .inl fp)), (m6, .inl (cI, 8, .inl fw)), (m7, .inl (cI, 9, .inl ft)), (m8, .inl (cZ, 256, .inl fr))]) [0, 1, 2, 3, 4, 5] rfl
    have hD9 := hD.sub (ws' := [(mo, .inr (8, [.int (nI n), .ref m1, .ref m2, .ref m3, .long ka, .long kb, .ref m6, .ref m7, .ref m8, .ref m9, .ref m10, .ref m11, .ref m12, .ref m13, .ref m14, .ref m15, .ref m16])), (m1, .inl (cZ, 8, .inl fs)), (m2, .inl (cI, 8, .inl fp)), (m6, .inl (cI, 8, .inl fw)), (m7, .inl (cI, 9, .inl ft)), (m8, .inl (cZ, 256, .inl fr))]) [0, 1, 2, 3, 4, 5] (by decide) rfl
    refine W.widen (k := 0) (n := 0) (Nat.le_of_ble_eq_true rfl) (Nat.le_of_ble_eq_true rfl) ?_
    exact W.iret (v := (-1)) hx hb hr (fun t ht hW => ⟨⟨(-1), (), rfl, trivial, fw, ft, fr, by rw [ht]; exact hP9, hD9⟩, hS.F ht⟩) hS.2.2 dX8_leastAt_14
  · skip
    refine lv_aload_n hx hb dX8_leastAt_4 rfl (lv_at hl 0 rfl) ?_
    refine lv_iload_n hx hb dX8_leastAt_5 rfl (lv_at hl 1 rfl) ?_
    refine lv_iload_n hx hb dX8_leastAt_6 rfl (lv_at hl 2 rfl) ?_
    have hPc := hP.sub (ws' := [(mo, .inr (8, [.int (nI n), .ref m1, .ref m2, .ref m3, .long ka, .long kb, .ref m6, .ref m7, .ref m8, .ref m9, .ref m10, .ref m11, .ref m12, .ref m13, .ref m14, .ref m15, .ref m16])), (m1, .inl (cZ, 8, .inl fs)), (m2, .inl (cI, 8, .inl fp)), (m6, .inl (cI, 8, .inl fw)), (m7, .inl (cI, 9, .inl ft)), (m8, .inl (cZ, 256, .inl fr))]) [0, 1, 2, 3, 4, 5] rfl
    have hDc := hD.sub (ws' := [(mo, .inr (8, [.int (nI n), .ref m1, .ref m2, .ref m3, .long ka, .long kb, .ref m6, .ref m7, .ref m8, .ref m9, .ref m10, .ref m11, .ref m12, .ref m13, .ref m14, .ref m15, .ref m16])), (m1, .inl (cZ, 8, .inl fs)), (m2, .inl (cI, 8, .inl fp)), (m6, .inl (cI, 8, .inl fw)), (m7, .inl (cI, 9, .inl ft)), (m8, .inl (cZ, 256, .inl fr))]) [0, 1, 2, 3, 4, 5] (by decide) rfl
    have hFc := va_free (wc := [(mo, .inr (8, [.int (nI n), .ref m1, .ref m2, .ref m3, .long ka, .long kb, .ref m6, .ref m7, .ref m8, .ref m9, .ref m10, .ref m11, .ref m12, .ref m13, .ref m14, .ref m15, .ref m16])), (m1, .inl (cZ, 8, .inl fs)), (m2, .inl (cI, 8, .inl fp)), (m6, .inl (cI, 8, .inl fw)), (m7, .inl (cI, 9, .inl ft)), (m8, .inl (cZ, 256, .inl fr))]) hD hS hA [0, 1, 2, 3, 4, 5] rfl
    refine va_calli (va_runV (As := [.int p1, .int p2]) (rest := []) ⟨hx, hb, hml, hown, hts⟩ (mz_m_works l dC dI cI cJ cZ mo m1 m2 m3 m6 m7 m8 m9 m10 m11 m12 m13 m14 m15 m16 n ka kb fs fp fw ft fr p1 p2 s.heap.size (by first | assumption | omega)) (cwV 2 hts gX8_leastAt_X8_works rfl rfl rfl (by decide +kernel) ⟨Nat.le_of_ble_eq_true rfl, Nat.le_of_ble_eq_true rfl⟩) ⟨fun a U g mk q => mz_blI q, va_recv hK hPc (ci := 8) (q0 := 0) rfl rfl, fun U hU hW => ⟨rfl, by rw [hU], by rw [hU]; exact hPc, va_K.moved hW.alike hK, hDc.weaken (fun _ _ _ _ => trivial), mz_nw hW hN⟩⟩ rfl rfl hl.1 rfl (lv_room (Nat.le_of_ble_eq_true rfl)) dX8_leastAt_7 ⟨Nat.le_of_ble_eq_true rfl, Nat.le_of_ble_eq_true rfl⟩) hS (fun q _ h => hFc q h) hFc (fun r_7 u t H1 locs ht hvm hw_7 hB hz1 hk1 hS => ?_)
    obtain ⟨gw_7, gt_7, gr_7, hP1, hD1⟩ := hB
    rw [ht] at hP1
    obtain ⟨hP, hD⟩ := va_join (wr := []) (w1 := [(mo, .inr (8, [.int (nI n), .ref m1, .ref m2, .ref m3, .long ka, .long kb, .ref m6, .ref m7, .ref m8, .ref m9, .ref m10, .ref m11, .ref m12, .ref m13, .ref m14, .ref m15, .ref m16])), (m1, .inl (cZ, 8, .inl fs)), (m2, .inl (cI, 8, .inl fp)), (m6, .inl (cI, 8, .inl gw_7)), (m7, .inl (cI, 9, .inl gt_7)), (m8, .inl (cZ, 256, .inl gr_7))]) hP hD [0, 1, 2, 3, 4, 5] [] rfl rfl (by decide) (by decide) hk1 hFc hP1 hD1
    generalize H1 = H at hP hS ⊢
    have hP : va_P (dC, dI) vwCl [(mo, .inr (8, [.int (nI n), .ref m1, .ref m2, .ref m3, .long ka, .long kb, .ref m6, .ref m7, .ref m8, .ref m9, .ref m10, .ref m11, .ref m12, .ref m13, .ref m14, .ref m15, .ref m16])), (m1, .inl (cZ, 8, .inl fs)), (m2, .inl (cI, 8, .inl fp)), (m6, .inl (cI, 8, .inl gw_7)), (m7, .inl (cI, 9, .inl gt_7)), (m8, .inl (cZ, 256, .inl gr_7))] H := hP
    have hD : va_D A [(mo, .inr (8, [.int (nI n), .ref m1, .ref m2, .ref m3, .long ka, .long kb, .ref m6, .ref m7, .ref m8, .ref m9, .ref m10, .ref m11, .ref m12, .ref m13, .ref m14, .ref m15, .ref m16])), (m1, .inl (cZ, 8, .inl fs)), (m2, .inl (cI, 8, .inl fp)), (m6, .inl (cI, 8, .inl gw_7)), (m7, .inl (cI, 9, .inl gt_7)), (m8, .inl (cZ, 256, .inl gr_7))] := hD
    refine lv_if_ne (tgt := 15) hx hb dX8_leastAt_10 (by decide) (fun c_10 => ?_) (fun c_10 => ?_)
    · skip
      refine lv_iload_n hx hb dX8_leastAt_15 rfl (lv_at hl 3 rfl) ?_
      refine lv_istore (lv' := [(4, .int p3), (0, .ref mo), (1, .int p1), (2, .int p2), (3, .int p3)]) hx hb dX8_leastAt_16 hl (by decide) rfl (fun ls hl => ?_)
      refine lv_iconst (v := 0) hx hb dX8_leastAt_18 (by decide +kernel) ?_
      refine lv_istore (lv' := [(5, .int 0), (4, .int p3), (0, .ref mo), (1, .int p1), (2, .int p2), (3, .int p3)]) hx hb dX8_leastAt_19 hl (by decide) rfl (fun ls hl => ?_)
      refine mz_loopU (fun k H locs ls => ∃ (i_21 : Nat), ∃ (x4_21 : Int32), i_21 ≤ 256 ∧ va_P (dC, dI) vwCl [(mo, .inr (8, [.int (nI n), .ref m1, .ref m2, .ref m3, .long ka, .long kb, .ref m6, .ref m7, .ref m8, .ref m9, .ref m10, .ref m11, .ref m12, .ref m13, .ref m14, .ref m15, .ref m16])), (m1, .inl (cZ, 8, .inl fs)), (m2, .inl (cI, 8, .inl fp)), (m6, .inl (cI, 8, .inl gw_7)), (m7, .inl (cI, 9, .inl gt_7)), (m8, .inl (cZ, 256, .inl gr_7))] H ∧ va_D A [(mo, .inr (8, [.int (nI n), .ref m1, .ref m2, .ref m3, .long ka, .long kb, .ref m6, .ref m7, .ref m8, .ref m9, .ref m10, .ref m11, .ref m12, .ref m13, .ref m14, .ref m15, .ref m16])), (m1, .inl (cZ, 8, .inl fs)), (m2, .inl (cI, 8, .inl fp)), (m6, .inl (cI, 8, .inl gw_7)), (m7, .inl (cI, 9, .inl gt_7)), (m8, .inl (cZ, 256, .inl gr_7))] ∧ va_S A s.heap H locs ∧ lv_has ls 6 [(5, .int (nI i_21)), (4, .int x4_21), (0, .ref mo), (1, .int p1), (2, .int p2), (3, .int p3)] ∧ k = 256 - i_21) ?_ _ _ _ _ ⟨0, p3, by omega, hP, hD, hS, lv_sub hl [0, 1, 2, 3, 4, 5] rfl, rfl⟩
      intro k_21 H locs ls hI_21 ih_21
      obtain ⟨i_21, x4_21, hi_21, hP, hD, hS, hl, hk_21⟩ := hI_21
      refine lv_iload hx hb dX8_leastAt_21 (lv_at hl 0 rfl) ?_
      refine lv_sipush (v := 256) hx hb dX8_leastAt_23 (by decide +kernel) ?_
      refine lv_icmp_ge (tgt := 58) hx hb dX8_leastAt_26 (by decide) (fun c_26 => ?_) (fun c_26 => ?_)
      · skip
        have d_26 : 256 ≤ i_21 := (nI_leI (a := 256) (b := i_21) (by omega) (by omega)).mp c_26
        refine lv_iconst (v := (-1)) hx hb dX8_leastAt_58 (by decide +kernel) ?_
        have hP9 := hP.sub (ws' := [(mo, .inr (8, [.int (nI n), .ref m1, .ref m2, .ref m3, .long ka, .long kb, .ref m6, .ref m7, .ref m8, .ref m9, .ref m10, .ref m11, .ref m12, .ref m13, .ref m14, .ref m15, .ref m16])), (m1, .inl (cZ, 8, .inl fs)), (m2, .inl (cI, 8, .inl fp)), (m6, .inl (cI, 8, .inl gw_7)), (m7, .inl (cI, 9, .inl gt_7)), (m8, .inl (cZ, 256, .inl gr_7))]) [0, 1, 2, 3, 4, 5] rfl
        have hD9 := hD.sub (ws' := [(mo, .inr (8, [.int (nI n), .ref m1, .ref m2, .ref m3, .long ka, .long kb, .ref m6, .ref m7, .ref m8, .ref m9, .ref m10, .ref m11, .ref m12, .ref m13, .ref m14, .ref m15, .ref m16])), (m1, .inl (cZ, 8, .inl fs)), (m2, .inl (cI, 8, .inl fp)), (m6, .inl (cI, 8, .inl gw_7)), (m7, .inl (cI, 9, .inl gt_7)), (m8, .inl (cZ, 256, .inl gr_7))]) [0, 1, 2, 3, 4, 5] (by decide) rfl
        refine W.widen (k := 0) (n := 0) (Nat.le_of_ble_eq_true rfl) (Nat.le_of_ble_eq_true rfl) ?_
        exact W.iret (v := (-1)) hx hb hr (fun t ht hW => ⟨⟨(-1), (), rfl, trivial, gw_7, gt_7, gr_7, by rw [ht]; exact hP9, hD9⟩, hS.F ht⟩) hS.2.2 dX8_leastAt_59
      · skip
        have d_26 : ¬ 256 ≤ i_21 := fun h => c_26 ((nI_leI (a := 256) (b := i_21) (by omega) (by omega)).mpr h)
        refine lv_aload_n hx hb dX8_leastAt_29 rfl (lv_at hl 2 rfl) ?_
        refine lv_iload hx hb dX8_leastAt_30 (lv_at hl 0 rfl) ?_
        have hPc := hP.sub (ws' := [(mo, .inr (8, [.int (nI n), .ref m1, .ref m2, .ref m3, .long ka, .long kb, .ref m6, .ref m7, .ref m8, .ref m9, .ref m10, .ref m11, .ref m12, .ref m13, .ref m14, .ref m15, .ref m16])), (m8, .inl (cZ, 256, .inl gr_7))]) [0, 5] rfl
        refine va_calli (va_runV (As := [.int (nI i_21)]) (rest := []) ⟨hx, hb, hml, hown, hts⟩ (mz_m_isLeast l dC dI cI cJ cZ mo m1 m2 m3 m6 m7 m8 m9 m10 m11 m12 m13 m14 m15 m16 n ka kb gr_7 i_21 H (by first | assumption | omega)) (cwV 1 hts gX8_leastAt_X8_isLeast rfl rfl rfl (by decide +kernel) ⟨Nat.le_of_ble_eq_true rfl, Nat.le_of_ble_eq_true rfl⟩) ⟨fun a U g mk q => mz_blP q, va_recv hK hPc (ci := 8) (q0 := 0) rfl rfl, fun U hU hW => ⟨rfl, hU, hPc, va_K.moved hW.alike hK, mz_nw hW hN⟩⟩ rfl rfl hl.1 rfl (lv_room (Nat.le_of_ble_eq_true rfl)) dX8_leastAt_32 ⟨Nat.le_of_ble_eq_true rfl, Nat.le_of_ble_eq_true rfl⟩) hS (fun q _ h => h.elim) (fun q h => h.elim) (fun r_32 u t H1 locs ht hvm hw_32 hB hz1 hk1 hS => ?_)
        have hE : H = H1 := hB.symm.trans ht
        subst hE
        refine lv_if_ne (tgt := 41) hx hb dX8_leastAt_35 (by decide) (fun c_35 => ?_) (fun c_35 => ?_)
        · skip
          refine lv_iload hx hb dX8_leastAt_41 (lv_at hl 1 rfl) ?_
          refine lv_if_ne (tgt := 49) hx hb dX8_leastAt_43 (by decide) (fun c_43 => ?_) (fun c_43 => ?_)
          · skip
            obtain ⟨v_49, ev_49⟩ : ∃ y : Int32, y = x4_21 + Int32.ofInt (-1) := ⟨_, rfl⟩
            refine lv_iinc (v := v_49) (lv' := [(4, .int v_49), (5, .int (nI i_21)), (0, .ref mo), (1, .int p1), (2, .int p2), (3, .int p3)]) hx hb dX8_leastAt_49 hl (k := 1) rfl ev_49.symm (by decide) rfl (fun ls hl => ?_)
            refine lv_iinc (v := (nI (i_21 + 1))) (lv' := [(5, .int (nI (i_21 + 1))), (4, .int v_49), (0, .ref mo), (1, .int p1), (2, .int p2), (3, .int p3)]) hx hb dX8_leastAt_52 hl (k := 1) rfl (nI_1 _) (by decide) rfl (fun ls hl => ?_)
            refine lv_goto (tgt := 21) hx hb dX8_leastAt_55 (by decide) ?_
            exact ih_21 _ (by omega) _ _ _ ⟨(i_21 + 1), v_49, by omega, hP, hD, hS, lv_sub hl [0, 1, 2, 3, 4, 5] rfl, rfl⟩
          · skip
            refine lv_iload hx hb dX8_leastAt_46 (lv_at hl 0 rfl) ?_
            have hP9 := hP.sub (ws' := [(mo, .inr (8, [.int (nI n), .ref m1, .ref m2, .ref m3, .long ka, .long kb, .ref m6, .ref m7, .ref m8, .ref m9, .ref m10, .ref m11, .ref m12, .ref m13, .ref m14, .ref m15, .ref m16])), (m1, .inl (cZ, 8, .inl fs)), (m2, .inl (cI, 8, .inl fp)), (m6, .inl (cI, 8, .inl gw_7)), (m7, .inl (cI, 9, .inl gt_7)), (m8, .inl (cZ, 256, .inl gr_7))]) [0, 1, 2, 3, 4, 5] rfl
            have hD9 := hD.sub (ws' := [(mo, .inr (8, [.int (nI n), .ref m1, .ref m2, .ref m3, .long ka, .long kb, .ref m6, .ref m7, .ref m8, .ref m9, .ref m10, .ref m11, .ref m12, .ref m13, .ref m14, .ref m15, .ref m16])), (m1, .inl (cZ, 8, .inl fs)), (m2, .inl (cI, 8, .inl fp)), (m6, .inl (cI, 8, .inl gw_7)), (m7, .inl (cI, 9, .inl gt_7)), (m8, .inl (cZ, 256, .inl gr_7))]) [0, 1, 2, 3, 4, 5] (by decide) rfl
            refine W.widen (k := 0) (n := 0) (Nat.le_of_ble_eq_true rfl) (Nat.le_of_ble_eq_true rfl) ?_
            exact W.iret (v := (nI i_21)) hx hb hr (fun t ht hW => ⟨⟨(nI i_21), (), rfl, trivial, gw_7, gt_7, gr_7, by rw [ht]; exact hP9, hD9⟩, hS.F ht⟩) hS.2.2 dX8_leastAt_48
        · skip
          refine lv_goto (tgt := 52) hx hb dX8_leastAt_38 (by decide) ?_
          refine lv_iinc (v := (nI (i_21 + 1))) (lv' := [(5, .int (nI (i_21 + 1))), (4, .int x4_21), (0, .ref mo), (1, .int p1), (2, .int p2), (3, .int p3)]) hx hb dX8_leastAt_52 hl (k := 0) rfl (nI_1 _) (by decide) rfl (fun ls hl => ?_)
          refine lv_goto (tgt := 21) hx hb dX8_leastAt_55 (by decide) ?_
          exact ih_21 _ (by omega) _ _ _ ⟨(i_21 + 1), x4_21, by omega, hP, hD, hS, lv_sub hl [0, 1, 2, 3, 4, 5] rfl, rfl⟩
    · skip
      refine lv_iconst (v := (-1)) hx hb dX8_leastAt_13 (by decide +kernel) ?_
      have hP9 := hP.sub (ws' := [(mo, .inr (8, [.int (nI n), .ref m1, .ref m2, .ref m3, .long ka, .long kb, .ref m6, .ref m7, .ref m8, .ref m9, .ref m10, .ref m11, .ref m12, .ref m13, .ref m14, .ref m15, .ref m16])), (m1, .inl (cZ, 8, .inl fs)), (m2, .inl (cI, 8, .inl fp)), (m6, .inl (cI, 8, .inl gw_7)), (m7, .inl (cI, 9, .inl gt_7)), (m8, .inl (cZ, 256, .inl gr_7))]) [0, 1, 2, 3, 4, 5] rfl
      have hD9 := hD.sub (ws' := [(mo, .inr (8, [.int (nI n), .ref m1, .ref m2, .ref m3, .long ka, .long kb, .ref m6, .ref m7, .ref m8, .ref m9, .ref m10, .ref m11, .ref m12, .ref m13, .ref m14, .ref m15, .ref m16])), (m1, .inl (cZ, 8, .inl fs)), (m2, .inl (cI, 8, .inl fp)), (m6, .inl (cI, 8, .inl gw_7)), (m7, .inl (cI, 9, .inl gt_7)), (m8, .inl (cZ, 256, .inl gr_7))]) [0, 1, 2, 3, 4, 5] (by decide) rfl
      refine W.widen (k := 0) (n := 0) (Nat.le_of_ble_eq_true rfl) (Nat.le_of_ble_eq_true rfl) ?_
      exact W.iret (v := (-1)) hx hb hr (fun t ht hW => ⟨⟨(-1), (), rfl, trivial, gw_7, gt_7, gr_7, by rw [ht]; exact hP9, hD9⟩, hS.F ht⟩) hS.2.2 dX8_leastAt_14
set_option maxHeartbeats 1000000 in
set_option maxRecDepth 100000 in
theorem mz_m_fit (l : Launch) (dC : Nat → ClassId) (dI : Nat → Nat → Nat) (cI cJ cZ : ClassId) (mo : Nat) (m1 : Nat) (m2 : Nat) (m3 : Nat) (m6 : Nat) (m7 : Nat) (m8 : Nat) (m9 : Nat) (m10 : Nat) (m11 : Nat) (m12 : Nat) (m13 : Nat) (m14 : Nat) (m15 : Nat) (m16 : Nat) (n : Nat) (ka : Int64) (kb : Int64) (fs : Nat → Int32) (fp : Nat → Int32) (fw : Nat → Int32) (ft : Nat → Int32) (p1 : Int32) (p2 : Int32) (p3 : Int32) (sz : Nat) (hn : n ≤ 8) : Met l yX8_fit wsX8_fit ({ frames := 5, cells := 0, slots := 0, locals := 136 }) (va_Pc [.ref mo, .int p1, .int p2, .int p3] (fun U => U.heap.size = sz ∧ va_P (dC, dI) vwCl [(mo, .inr (8, [.int (nI n), .ref m1, .ref m2, .ref m3, .long ka, .long kb, .ref m6, .ref m7, .ref m8, .ref m9, .ref m10, .ref m11, .ref m12, .ref m13, .ref m14, .ref m15, .ref m16])), (m1, .inl (cZ, 8, .inl fs)), (m2, .inl (cI, 8, .inl fp)), (m6, .inl (cI, 8, .inl fw)), (m7, .inl (cI, 9, .inl ft))] U.heap ∧ va_K (dC, dI) vwCl [(cI, FieldType.int), (cJ, FieldType.long), (cZ, FieldType.boolean)] U ∧ va_D (fun _ => True) [(mo, .inr (8, [.int (nI n), .ref m1, .ref m2, .ref m3, .long ka, .long kb, .ref m6, .ref m7, .ref m8, .ref m9, .ref m10, .ref m11, .ref m12, .ref m13, .ref m14, .ref m15, .ref m16])), (m1, .inl (cZ, 8, .inl fs)), (m2, .inl (cI, 8, .inl fp)), (m6, .inl (cI, 8, .inl fw)), (m7, .inl (cI, 9, .inl ft))] ∧ mz_N U)) (va_Qi (fun (r : Int32) (_ : Unit) => r = 0 ∨ r = 1) (fun _ t => ∃ (gw : Nat → Int32), ∃ (gt : Nat → Int32), va_P (dC, dI) vwCl [(mo, .inr (8, [.int (nI n), .ref m1, .ref m2, .ref m3, .long ka, .long kb, .ref m6, .ref m7, .ref m8, .ref m9, .ref m10, .ref m11, .ref m12, .ref m13, .ref m14, .ref m15, .ref m16])), (m1, .inl (cZ, 8, .inl fs)), (m2, .inl (cI, 8, .inl fp)), (m6, .inl (cI, 8, .inl gw)), (m7, .inl (cI, 9, .inl gt))] t.heap ∧ va_D (va_A [(mo, .inr (8, [.int (nI n), .ref m1, .ref m2, .ref m3, .long ka, .long kb, .ref m6, .ref m7, .ref m8, .ref m9, .ref m10, .ref m11, .ref m12, .ref m13, .ref m14, .ref m15, .ref m16])), (m1, .inl (cZ, 8, .inl fs)), (m2, .inl (cI, 8, .inl fp)), (m6, .inl (cI, 8, .inl fw)), (m7, .inl (cI, 9, .inl ft))] sz) [(mo, .inr (8, [.int (nI n), .ref m1, .ref m2, .ref m3, .long ka, .long kb, .ref m6, .ref m7, .ref m8, .ref m9, .ref m10, .ref m11, .ref m12, .ref m13, .ref m14, .ref m15, .ref m16])), (m1, .inl (cZ, 8, .inl fs)), (m2, .inl (cI, 8, .inl fp)), (m6, .inl (cI, 8, .inl gw)), (m7, .inl (cI, 9, .inl gt))]) (va_A [(mo, .inr (8, [.int (nI n), .ref m1, .ref m2, .ref m3, .long ka, .long kb, .ref m6, .ref m7, .ref m8, .ref m9, .ref m10, .ref m11, .ref m12, .ref m13, .ref m14, .ref m15, .ref m16])), (m1, .inl (cZ, 8, .inl fs)), (m2, .inl (cI, 8, .inl fp)), (m6, .inl (cI, 8, .inl fw)), (m7, .inl (cI, 9, .inl ft))] sz)) 0 0 (va_A [(mo, .inr (8, [.int (nI n), .ref m1, .ref m2, .ref m3, .long ka, .long kb, .ref m6, .ref m7, .ref m8, .ref m9, .ref m10, .ref m11, .ref m12, .ref m13, .ref m14, .ref m15, .ref m16])), (m1, .inl (cZ, 8, .inl fs)), (m2, .inl (cI, 8, .inl fp)), (m6, .inl (cI, 8, .inl fw)), (m7, .inl (cI, 9, .inl ft))] sz) := by
  refine Met.ofW (cc := cX8_fit) (maxL := 7) (ret := (some .boolean)) (by decide) rfl ?_
  intro p e s m args below meth c s₁ B hml hv
  obtain ⟨rfl, hsz, hP, hK, hD0, hN⟩ := hv
  subst hsz
  have hx := B.exec
  have hb := B.bytes
  have hr := B.returns
  have hts := atoms_spec (ws := wsX8_fit) B.pre
  have hown : s.vm.findClass RX8 = some m.cls := findClass_of_methodNamed B.named
  have hlocks := B.notSynchronized
  have hD := hD0.self (sz := s.heap.size)
  generalize hAe : va_A [(mo, .inr (8, [.int (nI n), .ref m1, .ref m2, .ref m3, .long ka, .long kb, .ref m6, .ref m7, .ref m8, .ref m9, .ref m10, .ref m11, .ref m12, .ref m13, .ref m14, .ref m15, .ref m16])), (m1, .inl (cZ, 8, .inl fs)), (m2, .inl (cI, 8, .inl fp)), (m6, .inl (cI, 8, .inl fw)), (m7, .inl (cI, 9, .inl ft))] s.heap.size = A at hD ⊢
  have hA : ∀ q : Nat, s.heap.size ≤ q → A q := fun q h => by rw [← hAe]; exact Or.inr h
  have hS : va_S A s.heap s.heap [] := va_S.rf
  have hiX8 : ∀ w ∈ u_ws RX8 TX8 17, w ∈ wsX8_fit := by decide +kernel
  have hl := lv_entry ([.ref mo, .int p1, .int p2, .int p3]) (n := 7) (Nat.le_of_ble_eq_true rfl)
  rw [lg_entry_eq]
  generalize (lg_sl ([.ref mo, .int p1, .int p2, .int p3]) ++ List.replicate (7 - (lg_sl ([.ref mo, .int p1, .int p2, .int p3])).length) Slot.unset).toArray = ls at hl ⊢
  have hl : lv_has ls 7 [(0, .ref mo), (1, .int p1), (2, .int p2), (3, .int p3)] := hl
  refine lv_aload_n hx hb dX8_fit_0 rfl (lv_at hl 0 rfl) ?_
  refine lv_iload_n hx hb dX8_fit_1 rfl (lv_at hl 1 rfl) ?_
  have hPc := hP.sub (ws' := [(mo, .inr (8, [.int (nI n), .ref m1, .ref m2, .ref m3, .long ka, .long kb, .ref m6, .ref m7, .ref m8, .ref m9, .ref m10, .ref m11, .ref m12, .ref m13, .ref m14, .ref m15, .ref m16]))]) [0] rfl
  refine va_calli (va_runV (As := [.int p1]) (rest := []) ⟨hx, hb, hml, hown, hts⟩ (mz_m_isThing l dC dI cI cJ cZ mo m1 m2 m3 m6 m7 m8 m9 m10 m11 m12 m13 m14 m15 m16 n ka kb p1 s.heap (by first | assumption | omega)) (cwV 1 hts gX8_fit_X8_isThing rfl rfl rfl (by decide +kernel) ⟨Nat.le_of_ble_eq_true rfl, Nat.le_of_ble_eq_true rfl⟩) ⟨fun a U g mk q => mz_blP q, va_recv hK hPc (ci := 8) (q0 := 0) rfl rfl, fun U hU hW => ⟨rfl, hU, hPc, va_K.moved hW.alike hK, mz_nw hW hN⟩⟩ rfl rfl hl.1 rfl (lv_room (Nat.le_of_ble_eq_true rfl)) dX8_fit_2 ⟨Nat.le_of_ble_eq_true rfl, Nat.le_of_ble_eq_true rfl⟩) hS (fun q _ h => h.elim) (fun q h => h.elim) (fun r_2 u t H1 locs ht hvm hw_2 hB hz1 hk1 hS => ?_)
  have hE : s.heap = H1 := hB.symm.trans ht
  subst hE
  rcases (show (r_2 = 1 ∧ ∃ j : Nat, j < n ∧ p1 = nI j) ∨ r_2 = 0 from hw_2) with ⟨rfl, j_2, hj_2, he_2⟩ | rfl
  · skip
    subst he_2
    refine lv_if_eq (tgt := 58) hx hb dX8_fit_5 (by decide) (fun c_5 => absurd c_5 (by decide +kernel)) (fun _ => ?_)
    refine lv_aload_n hx hb dX8_fit_8 rfl (lv_at hl 0 rfl) ?_
    refine lv_iload_n hx hb dX8_fit_9 rfl (lv_at hl 2 rfl) ?_
    have hPc := hP.sub (ws' := [(mo, .inr (8, [.int (nI n), .ref m1, .ref m2, .ref m3, .long ka, .long kb, .ref m6, .ref m7, .ref m8, .ref m9, .ref m10, .ref m11, .ref m12, .ref m13, .ref m14, .ref m15, .ref m16]))]) [0] rfl
    refine va_calli (va_runV (As := [.int p2]) (rest := []) ⟨hx, hb, hml, hown, hts⟩ (mz_m_isThing l dC dI cI cJ cZ mo m1 m2 m3 m6 m7 m8 m9 m10 m11 m12 m13 m14 m15 m16 n ka kb p2 s.heap (by first | assumption | omega)) (cwV 1 hts gX8_fit_X8_isThing rfl rfl rfl (by decide +kernel) ⟨Nat.le_of_ble_eq_true rfl, Nat.le_of_ble_eq_true rfl⟩) ⟨fun a U g mk q => mz_blP q, va_recv hK hPc (ci := 8) (q0 := 0) rfl rfl, fun U hU hW => ⟨rfl, hU, hPc, va_K.moved hW.alike hK, mz_nw hW hN⟩⟩ rfl rfl hl.1 rfl (lv_room (Nat.le_of_ble_eq_true rfl)) dX8_fit_10 ⟨Nat.le_of_ble_eq_true rfl, Nat.le_of_ble_eq_true rfl⟩) hS (fun q _ h => h.elim) (fun q h => h.elim) (fun r_10 u t H1 locs ht hvm hw_10 hB hz1 hk1 hS => ?_)
    have hE : s.heap = H1 := hB.symm.trans ht
    subst hE
    rcases (show (r_10 = 1 ∧ ∃ j : Nat, j < n ∧ p2 = nI j) ∨ r_10 = 0 from hw_10) with ⟨rfl, j_10, hj_10, he_10⟩ | rfl
    · skip
      subst he_10
      refine lv_if_eq (tgt := 58) hx hb dX8_fit_13 (by decide) (fun c_13 => absurd c_13 (by decide +kernel)) (fun _ => ?_)
      refine lv_iload_n hx hb dX8_fit_16 rfl (lv_at hl 1 rfl) ?_
      refine lv_iload_n hx hb dX8_fit_17 rfl (lv_at hl 2 rfl) ?_
      refine lv_icmp_eq (tgt := 58) hx hb dX8_fit_18 (by decide) (fun c_18 => ?_) (fun c_18 => ?_)
      · skip
        have d_18 : j_2 = j_10 := (nI_eq (a := j_2) (b := j_10) (by omega) (by omega)).mp c_18
        refine lv_iconst (v := 0) hx hb dX8_fit_58 (by decide +kernel) ?_
        have hP9 := hP.sub (ws' := [(mo, .inr (8, [.int (nI n), .ref m1, .ref m2, .ref m3, .long ka, .long kb, .ref m6, .ref m7, .ref m8, .ref m9, .ref m10, .ref m11, .ref m12, .ref m13, .ref m14, .ref m15, .ref m16])), (m1, .inl (cZ, 8, .inl fs)), (m2, .inl (cI, 8, .inl fp)), (m6, .inl (cI, 8, .inl fw)), (m7, .inl (cI, 9, .inl ft))]) [0, 1, 2, 3, 4] rfl
        have hD9 := hD.sub (ws' := [(mo, .inr (8, [.int (nI n), .ref m1, .ref m2, .ref m3, .long ka, .long kb, .ref m6, .ref m7, .ref m8, .ref m9, .ref m10, .ref m11, .ref m12, .ref m13, .ref m14, .ref m15, .ref m16])), (m1, .inl (cZ, 8, .inl fs)), (m2, .inl (cI, 8, .inl fp)), (m6, .inl (cI, 8, .inl fw)), (m7, .inl (cI, 9, .inl ft))]) [0, 1, 2, 3, 4] (by decide) rfl
        refine W.widen (k := 0) (n := 0) (Nat.le_of_ble_eq_true rfl) (Nat.le_of_ble_eq_true rfl) ?_
        exact W.zret (v := 0) hx hb hr (mz_nz (by decide +kernel)) (fun t ht hW => ⟨⟨0, (), rfl, Or.inl rfl, fw, ft, by rw [ht]; exact hP9, hD9⟩, hS.F ht⟩) hS.2.2 dX8_fit_59
      · skip
        have d_18 : ¬ j_2 = j_10 := fun h => c_18 ((nI_eq (a := j_2) (b := j_10) (by omega) (by omega)).mpr h)
        refine lv_aload_n hx hb dX8_fit_21 rfl (lv_at hl 0 rfl) ?_
        refine lv_iload_n hx hb dX8_fit_22 rfl (lv_at hl 3 rfl) ?_
        have hPc := hP.sub (ws' := [(mo, .inr (8, [.int (nI n), .ref m1, .ref m2, .ref m3, .long ka, .long kb, .ref m6, .ref m7, .ref m8, .ref m9, .ref m10, .ref m11, .ref m12, .ref m13, .ref m14, .ref m15, .ref m16]))]) [0] rfl
        refine va_calli (va_runV (As := [.int p3]) (rest := []) ⟨hx, hb, hml, hown, hts⟩ (mz_m_isHeap l dC dI cI cJ cZ mo m1 m2 m3 m6 m7 m8 m9 m10 m11 m12 m13 m14 m15 m16 n ka kb p3 s.heap (by first | assumption | omega)) (cwV 1 hts gX8_fit_X8_isHeap rfl rfl rfl (by decide +kernel) ⟨Nat.le_of_ble_eq_true rfl, Nat.le_of_ble_eq_true rfl⟩) ⟨fun a U g mk q => mz_blP q, va_recv hK hPc (ci := 8) (q0 := 0) rfl rfl, fun U hU hW => ⟨rfl, hU, hPc, va_K.moved hW.alike hK, mz_nw hW hN⟩⟩ rfl rfl hl.1 rfl (lv_room (Nat.le_of_ble_eq_true rfl)) dX8_fit_23 ⟨Nat.le_of_ble_eq_true rfl, Nat.le_of_ble_eq_true rfl⟩) hS (fun q _ h => h.elim) (fun q h => h.elim) (fun r_23 u t H1 locs ht hvm hw_23 hB hz1 hk1 hS => ?_)
        have hE : s.heap = H1 := hB.symm.trans ht
        subst hE
        refine lv_if_eq (tgt := 58) hx hb dX8_fit_26 (by decide) (fun c_26 => ?_) (fun c_26 => ?_)
        · skip
          refine lv_iconst (v := 0) hx hb dX8_fit_58 (by decide +kernel) ?_
          have hP9 := hP.sub (ws' := [(mo, .inr (8, [.int (nI n), .ref m1, .ref m2, .ref m3, .long ka, .long kb, .ref m6, .ref m7, .ref m8, .ref m9, .ref m10, .ref m11, .ref m12, .ref m13, .ref m14, .ref m15, .ref m16])), (m1, .inl (cZ, 8, .inl fs)), (m2, .inl (cI, 8, .inl fp)), (m6, .inl (cI, 8, .inl fw)), (m7, .inl (cI, 9, .inl ft))]) [0, 1, 2, 3, 4] rfl
          have hD9 := hD.sub (ws' := [(mo, .inr (8, [.int (nI n), .ref m1, .ref m2, .ref m3, .long ka, .long kb, .ref m6, .ref m7, .ref m8, .ref m9, .ref m10, .ref m11, .ref m12, .ref m13, .ref m14, .ref m15, .ref m16])), (m1, .inl (cZ, 8, .inl fs)), (m2, .inl (cI, 8, .inl fp)), (m6, .inl (cI, 8, .inl fw)), (m7, .inl (cI, 9, .inl ft))]) [0, 1, 2, 3, 4] (by decide) rfl
          refine W.widen (k := 0) (n := 0) (Nat.le_of_ble_eq_true rfl) (Nat.le_of_ble_eq_true rfl) ?_
          exact W.zret (v := 0) hx hb hr (mz_nz (by decide +kernel)) (fun t ht hW => ⟨⟨0, (), rfl, Or.inl rfl, fw, ft, by rw [ht]; exact hP9, hD9⟩, hS.F ht⟩) hS.2.2 dX8_fit_59
        · skip
          refine lv_iload_n hx hb dX8_fit_29 rfl (lv_at hl 3 rfl) ?_
          refine lv_aload_n hx hb dX8_fit_30 rfl (lv_at hl 0 rfl) ?_
          have hPc := hP.sub (ws' := [(mo, .inr (8, [.int (nI n), .ref m1, .ref m2, .ref m3, .long ka, .long kb, .ref m6, .ref m7, .ref m8, .ref m9, .ref m10, .ref m11, .ref m12, .ref m13, .ref m14, .ref m15, .ref m16])), (m1, .inl (cZ, 8, .inl fs))]) [0, 1] rfl
          refine va_calli (va_runV (As := []) (rest := [.int p3]) ⟨hx, hb, hml, hown, hts⟩ (mz_m_seen l dC dI cI cJ cZ mo m1 m2 m3 m6 m7 m8 m9 m10 m11 m12 m13 m14 m15 m16 n ka kb fs s.heap (by first | assumption | omega)) (cwV 0 hts gX8_fit_X8_seen rfl rfl rfl (by decide +kernel) ⟨Nat.le_of_ble_eq_true rfl, Nat.le_of_ble_eq_true rfl⟩) ⟨fun a U g mk q => mz_blP q, va_recv hK hPc (ci := 8) (q0 := 0) rfl rfl, fun U hU hW => ⟨rfl, hU, hPc, va_K.moved hW.alike hK, mz_nw hW hN⟩⟩ rfl rfl hl.1 rfl (lv_room (Nat.le_of_ble_eq_true rfl)) dX8_fit_31 ⟨Nat.le_of_ble_eq_true rfl, Nat.le_of_ble_eq_true rfl⟩) hS (fun q _ h => h.elim) (fun q h => h.elim) (fun r_31 u t H1 locs ht hvm hw_31 hB hz1 hk1 hS => ?_)
          have hE : s.heap = H1 := hB.symm.trans ht
          subst hE
          refine lv_iconst (v := (-1)) hx hb dX8_fit_34 (by decide +kernel) ?_
          refine lv_ixor hx hb dX8_fit_35 ?_
          refine lv_topi (fun v_35 ev_35 => ?_)
          refine lv_iand hx hb dX8_fit_36 ?_
          refine lv_topi (fun v_36 ev_36 => ?_)
          refine lv_if_ne (tgt := 58) hx hb dX8_fit_37 (by decide) (fun c_37 => ?_) (fun c_37 => ?_)
          · skip
            refine lv_iconst (v := 0) hx hb dX8_fit_58 (by decide +kernel) ?_
            have hP9 := hP.sub (ws' := [(mo, .inr (8, [.int (nI n), .ref m1, .ref m2, .ref m3, .long ka, .long kb, .ref m6, .ref m7, .ref m8, .ref m9, .ref m10, .ref m11, .ref m12, .ref m13, .ref m14, .ref m15, .ref m16])), (m1, .inl (cZ, 8, .inl fs)), (m2, .inl (cI, 8, .inl fp)), (m6, .inl (cI, 8, .inl fw)), (m7, .inl (cI, 9, .inl ft))]) [0, 1, 2, 3, 4] rfl
            have hD9 := hD.sub (ws' := [(mo, .inr (8, [.int (nI n), .ref m1, .ref m2, .ref m3, .long ka, .long kb, .ref m6, .ref m7, .ref m8, .ref m9, .ref m10, .ref m11, .ref m12, .ref m13, .ref m14, .ref m15, .ref m16])), (m1, .inl (cZ, 8, .inl fs)), (m2, .inl (cI, 8, .inl fp)), (m6, .inl (cI, 8, .inl fw)), (m7, .inl (cI, 9, .inl ft))]) [0, 1, 2, 3, 4] (by decide) rfl
            refine W.widen (k := 0) (n := 0) (Nat.le_of_ble_eq_true rfl) (Nat.le_of_ble_eq_true rfl) ?_
            exact W.zret (v := 0) hx hb hr (mz_nz (by decide +kernel)) (fun t ht hW => ⟨⟨0, (), rfl, Or.inl rfl, fw, ft, by rw [ht]; exact hP9, hD9⟩, hS.F ht⟩) hS.2.2 dX8_fit_59
          · skip
            refine lv_iload_n hx hb dX8_fit_40 rfl (lv_at hl 3 rfl) ?_
            refine lv_iload_n hx hb dX8_fit_41 rfl (lv_at hl 1 rfl) ?_
            refine lv_ishr hx hb dX8_fit_42 ?_
            refine lv_topi (fun v_42 ev_42 => ?_)
            refine lv_iconst (v := 1) hx hb dX8_fit_43 (by decide +kernel) ?_
            refine lv_iand hx hb dX8_fit_44 ?_
            refine lv_topi (fun v_44 ev_44 => ?_)
            refine lv_iconst (v := 1) hx hb dX8_fit_45 (by decide +kernel) ?_
            refine lv_icmp_eq (tgt := 58) hx hb dX8_fit_46 (by decide) (fun c_46 => ?_) (fun c_46 => ?_)
            · skip
              refine lv_iconst (v := 0) hx hb dX8_fit_58 (by decide +kernel) ?_
              have hP9 := hP.sub (ws' := [(mo, .inr (8, [.int (nI n), .ref m1, .ref m2, .ref m3, .long ka, .long kb, .ref m6, .ref m7, .ref m8, .ref m9, .ref m10, .ref m11, .ref m12, .ref m13, .ref m14, .ref m15, .ref m16])), (m1, .inl (cZ, 8, .inl fs)), (m2, .inl (cI, 8, .inl fp)), (m6, .inl (cI, 8, .inl fw)), (m7, .inl (cI, 9, .inl ft))]) [0, 1, 2, 3, 4] rfl
              have hD9 := hD.sub (ws' := [(mo, .inr (8, [.int (nI n), .ref m1, .ref m2, .ref m3, .long ka, .long kb, .ref m6, .ref m7, .ref m8, .ref m9, .ref m10, .ref m11, .ref m12, .ref m13, .ref m14, .ref m15, .ref m16])), (m1, .inl (cZ, 8, .inl fs)), (m2, .inl (cI, 8, .inl fp)), (m6, .inl (cI, 8, .inl fw)), (m7, .inl (cI, 9, .inl ft))]) [0, 1, 2, 3, 4] (by decide) rfl
              refine W.widen (k := 0) (n := 0) (Nat.le_of_ble_eq_true rfl) (Nat.le_of_ble_eq_true rfl) ?_
              exact W.zret (v := 0) hx hb hr (mz_nz (by decide +kernel)) (fun t ht hW => ⟨⟨0, (), rfl, Or.inl rfl, fw, ft, by rw [ht]; exact hP9, hD9⟩, hS.F ht⟩) hS.2.2 dX8_fit_59
            · skip
              refine lv_iload_n hx hb dX8_fit_49 rfl (lv_at hl 3 rfl) ?_
              refine lv_iload_n hx hb dX8_fit_50 rfl (lv_at hl 2 rfl) ?_
              refine lv_ishr hx hb dX8_fit_51 ?_
              refine lv_topi (fun v_51 ev_51 => ?_)
              refine lv_iconst (v := 1) hx hb dX8_fit_52 (by decide +kernel) ?_
              refine lv_iand hx hb dX8_fit_53 ?_
              refine lv_topi (fun v_53 ev_53 => ?_)
              refine lv_iconst (v := 1) hx hb dX8_fit_54 (by decide +kernel) ?_
              refine lv_icmp_ne (tgt := 60) hx hb dX8_fit_55 (by decide) (fun c_55 => ?_) (fun c_55 => ?_)
              · skip
                refine lv_aload_n hx hb dX8_fit_60 rfl (lv_at hl 0 rfl) ?_
                refine lv_iload_n hx hb dX8_fit_61 rfl (lv_at hl 1 rfl) ?_
                refine lv_iconst (v := 0) hx hb dX8_fit_62 (by decide +kernel) ?_
                have hPc := hP.sub (ws' := [(mo, .inr (8, [.int (nI n), .ref m1, .ref m2, .ref m3, .long ka, .long kb, .ref m6, .ref m7, .ref m8, .ref m9, .ref m10, .ref m11, .ref m12, .ref m13, .ref m14, .ref m15, .ref m16])), (m2, .inl (cI, 8, .inl fp))]) [0, 2] rfl
                refine va_calli (va_runV (As := [.int (nI j_2), .int 0]) (rest := []) ⟨hx, hb, hml, hown, hts⟩ (mz_m_belowOf l dC dI cI cJ cZ mo m1 m2 m3 m6 m7 m8 m9 m10 m11 m12 m13 m14 m15 m16 n ka kb fp (nI j_2) s.heap (by first | assumption | omega)) (cwV 2 hts gX8_fit_X8_belowOf rfl rfl rfl (by decide +kernel) ⟨Nat.le_of_ble_eq_true rfl, Nat.le_of_ble_eq_true rfl⟩) ⟨fun a U g mk q => mz_blP q, va_recv hK hPc (ci := 8) (q0 := 0) rfl rfl, fun U hU hW => ⟨rfl, hU, hPc, va_K.moved hW.alike hK, mz_nw hW hN⟩⟩ rfl rfl hl.1 rfl (lv_room (Nat.le_of_ble_eq_true rfl)) dX8_fit_63 ⟨Nat.le_of_ble_eq_true rfl, Nat.le_of_ble_eq_true rfl⟩) hS (fun q _ h => h.elim) (fun q h => h.elim) (fun r_63 u t H1 locs ht hvm hw_63 hB hz1 hk1 hS => ?_)
                have hE : s.heap = H1 := hB.symm.trans ht
                subst hE
                refine lv_istore (lv' := [(4, .int r_63), (0, .ref mo), (1, .int (nI j_2)), (2, .int (nI j_10)), (3, .int p3)]) hx hb dX8_fit_66 hl (by decide) rfl (fun ls hl => ?_)
                refine lv_iload hx hb dX8_fit_68 (lv_at hl 0 rfl) ?_
                refine lv_iload_n hx hb dX8_fit_70 rfl (lv_at hl 3 rfl) ?_
                refine lv_ishr hx hb dX8_fit_71 ?_
                refine lv_topi (fun v_71 ev_71 => ?_)
                refine lv_iconst (v := 1) hx hb dX8_fit_72 (by decide +kernel) ?_
                refine lv_iand hx hb dX8_fit_73 ?_
                refine lv_topi (fun v_73 ev_73 => ?_)
                refine lv_if_ne (tgt := 91) hx hb dX8_fit_74 (by decide) (fun c_74 => ?_) (fun c_74 => ?_)
                · skip
                  refine lv_iconst (v := 1) hx hb dX8_fit_91 (by decide +kernel) ?_
                  refine lv_iload_n hx hb dX8_fit_92 rfl (lv_at hl 3 rfl) ?_
                  refine lv_ishl hx hb dX8_fit_93 ?_
                  refine mz_ti (y := (nI (2 ^ j_10))) (mz_sh1 (by omega)) ?_
                  refine lv_istore (lv' := [(5, .int (nI (2 ^ j_10))), (4, .int r_63), (0, .ref mo), (1, .int (nI j_2)), (2, .int (nI j_10)), (3, .int p3)]) hx hb dX8_fit_94 hl (by decide) rfl (fun ls hl => ?_)
                  refine lv_iconst (v := 0) hx hb dX8_fit_96 (by decide +kernel) ?_
                  refine lv_istore (lv' := [(6, .int 0), (5, .int (nI (2 ^ j_10))), (4, .int r_63), (0, .ref mo), (1, .int (nI j_2)), (2, .int (nI j_10)), (3, .int p3)]) hx hb dX8_fit_97 hl (by decide) rfl (fun ls hl => ?_)
                  refine mz_loopU (fun k H locs ls => ∃ (i_99 : Nat), ∃ (x5_99 : Int32), i_99 ≤ n ∧ va_P (dC, dI) vwCl [(mo, .inr (8, [.int (nI n), .ref m1, .ref m2, .ref m3, .long ka, .long kb, .ref m6, .ref m7, .ref m8, .ref m9, .ref m10, .ref m11, .ref m12, .ref m13, .ref m14, .ref m15, .ref m16])), (m1, .inl (cZ, 8, .inl fs)), (m2, .inl (cI, 8, .inl fp)), (m6, .inl (cI, 8, .inl fw)), (m7, .inl (cI, 9, .inl ft))] H ∧ va_D A [(mo, .inr (8, [.int (nI n), .ref m1, .ref m2, .ref m3, .long ka, .long kb, .ref m6, .ref m7, .ref m8, .ref m9, .ref m10, .ref m11, .ref m12, .ref m13, .ref m14, .ref m15, .ref m16])), (m1, .inl (cZ, 8, .inl fs)), (m2, .inl (cI, 8, .inl fp)), (m6, .inl (cI, 8, .inl fw)), (m7, .inl (cI, 9, .inl ft))] ∧ va_S A s.heap H locs ∧ lv_has ls 7 [(6, .int (nI i_99)), (5, .int x5_99), (4, .int r_63), (0, .ref mo), (1, .int (nI j_2)), (2, .int (nI j_10)), (3, .int p3)] ∧ k = n - i_99) ?_ _ _ _ _ ⟨0, (nI (2 ^ j_10)), by omega, hP, hD, hS, lv_sub hl [0, 1, 2, 3, 4, 5, 6] rfl, rfl⟩
                  intro k_99 H locs ls hI_99 ih_99
                  obtain ⟨i_99, x5_99, hi_99, hP, hD, hS, hl, hk_99⟩ := hI_99
                  refine lv_iload hx hb dX8_fit_99 (lv_at hl 0 rfl) ?_
                  refine lv_aload_n hx hb dX8_fit_101 rfl (lv_at hl 3 rfl) ?_
                  refine va_get (D := (dC, dI)) (ci := 8) (v := .int (nI n)) (C := RX8) (T := TX8) (N := 17) hx hb hts hiX8 hown hK hP 0 rfl rfl 0 (by decide) (hts (.fieldLink RX8 58 "MadeItSoModel" "many" "I") (by decide +kernel)) (fun _ h9 => h9) rfl dX8_fit_102 ?_
                  refine lv_icmp_ge (tgt := 149) hx hb dX8_fit_105 (by decide) (fun c_105 => ?_) (fun c_105 => ?_)
                  · skip
                    have d_105 : n ≤ i_99 := (nI_leI (a := n) (b := i_99) (by omega) (by omega)).mp c_105
                    refine lv_iconst (v := 0) hx hb dX8_fit_149 (by decide +kernel) ?_
                    refine lv_istore (lv' := [(6, .int 0), (5, .int x5_99), (4, .int r_63), (0, .ref mo), (1, .int (nI j_2)), (2, .int (nI j_10)), (3, .int p3)]) hx hb dX8_fit_150 hl (by decide) rfl (fun ls hl => ?_)
                    refine mz_loopU (fun k H locs ls => ∃ (i_152 : Nat), i_152 ≤ n ∧ va_P (dC, dI) vwCl [(mo, .inr (8, [.int (nI n), .ref m1, .ref m2, .ref m3, .long ka, .long kb, .ref m6, .ref m7, .ref m8, .ref m9, .ref m10, .ref m11, .ref m12, .ref m13, .ref m14, .ref m15, .ref m16])), (m1, .inl (cZ, 8, .inl fs)), (m2, .inl (cI, 8, .inl fp)), (m6, .inl (cI, 8, .inl fw)), (m7, .inl (cI, 9, .inl ft))] H ∧ va_D A [(mo, .inr (8, [.int (nI n), .ref m1, .ref m2, .ref m3, .long ka, .long kb, .ref m6, .ref m7, .ref m8, .ref m9, .ref m10, .ref m11, .ref m12, .ref m13, .ref m14, .ref m15, .ref m16])), (m1, .inl (cZ, 8, .inl fs)), (m2, .inl (cI, 8, .inl fp)), (m6, .inl (cI, 8, .inl fw)), (m7, .inl (cI, 9, .inl ft))] ∧ va_S A s.heap H locs ∧ lv_has ls 7 [(6, .int (nI i_152)), (5, .int x5_99), (4, .int r_63), (0, .ref mo), (1, .int (nI j_2)), (2, .int (nI j_10)), (3, .int p3)] ∧ k = n - i_152) ?_ _ _ _ _ ⟨0, by omega, hP, hD, hS, lv_sub hl [0, 1, 2, 3, 4, 5, 6] rfl, rfl⟩
                    intro k_152 H locs ls hI_152 ih_152
                    obtain ⟨i_152, hi_152, hP, hD, hS, hl, hk_152⟩ := hI_152
                    refine lv_iload hx hb dX8_fit_152 (lv_at hl 0 rfl) ?_
                    refine lv_aload_n hx hb dX8_fit_154 rfl (lv_at hl 3 rfl) ?_
                    refine va_get (D := (dC, dI)) (ci := 8) (v := .int (nI n)) (C := RX8) (T := TX8) (N := 17) hx hb hts hiX8 hown hK hP 0 rfl rfl 0 (by decide) (hts (.fieldLink RX8 58 "MadeItSoModel" "many" "I") (by decide +kernel)) (fun _ h9 => h9) rfl dX8_fit_155 ?_
                    refine lv_icmp_ge (tgt := 197) hx hb dX8_fit_158 (by decide) (fun c_158 => ?_) (fun c_158 => ?_)
                    · skip
                      have d_158 : n ≤ i_152 := (nI_leI (a := n) (b := i_152) (by omega) (by omega)).mp c_158
                      refine lv_aload_n hx hb dX8_fit_197 rfl (lv_at hl 3 rfl) ?_
                      refine lv_iconst (v := 1) hx hb dX8_fit_198 (by decide +kernel) ?_
                      refine lv_iload_n hx hb dX8_fit_199 rfl (lv_at hl 4 rfl) ?_
                      refine lv_ishl hx hb dX8_fit_200 ?_
                      refine mz_ti (y := (nI (2 ^ j_2))) (mz_sh1 (by omega)) ?_
                      refine lv_iconst (v := 1) hx hb dX8_fit_201 (by decide +kernel) ?_
                      refine lv_iload_n hx hb dX8_fit_202 rfl (lv_at hl 5 rfl) ?_
                      refine lv_ishl hx hb dX8_fit_203 ?_
                      refine mz_ti (y := (nI (2 ^ j_10))) (mz_sh1 (by omega)) ?_
                      refine lv_iload_n hx hb dX8_fit_204 rfl (lv_at hl 6 rfl) ?_
                      refine lv_iload_n hx hb dX8_fit_205 rfl (lv_at hl 4 rfl) ?_
                      refine lv_iload hx hb dX8_fit_206 (lv_at hl 1 rfl) ?_
                      have hPc := hP.sub (ws' := [(mo, .inr (8, [.int (nI n), .ref m1, .ref m2, .ref m3, .long ka, .long kb, .ref m6, .ref m7, .ref m8, .ref m9, .ref m10, .ref m11, .ref m12, .ref m13, .ref m14, .ref m15, .ref m16])), (m2, .inl (cI, 8, .inl fp)), (m6, .inl (cI, 8, .inl fw)), (m7, .inl (cI, 9, .inl ft))]) [0, 2, 3, 4] rfl
                      have hDc := hD.sub (ws' := [(mo, .inr (8, [.int (nI n), .ref m1, .ref m2, .ref m3, .long ka, .long kb, .ref m6, .ref m7, .ref m8, .ref m9, .ref m10, .ref m11, .ref m12, .ref m13, .ref m14, .ref m15, .ref m16])), (m2, .inl (cI, 8, .inl fp)), (m6, .inl (cI, 8, .inl fw)), (m7, .inl (cI, 9, .inl ft))]) [0, 2, 3, 4] (by decide) rfl
                      have hFc := va_free (wc := [(mo, .inr (8, [.int (nI n), .ref m1, .ref m2, .ref m3, .long ka, .long kb, .ref m6, .ref m7, .ref m8, .ref m9, .ref m10, .ref m11, .ref m12, .ref m13, .ref m14, .ref m15, .ref m16])), (m2, .inl (cI, 8, .inl fp)), (m6, .inl (cI, 8, .inl fw)), (m7, .inl (cI, 9, .inl ft))]) hD hS hA [0, 2, 3, 4] rfl
                      refine va_calli (va_runV (As := [.int (nI (2 ^ j_2)), .int (nI (2 ^ j_10)), .int p3, .int (nI j_2), .int x5_99]) (rest := []) ⟨hx, hb, hml, hown, hts⟩ (mz_m_barred l dC dI cI cJ cZ mo m1 m2 m3 m6 m7 m8 m9 m10 m11 m12 m13 m14 m15 m16 n ka kb fp fw ft (nI (2 ^ j_2)) (nI (2 ^ j_10)) p3 (nI j_2) x5_99 H.size (by first | assumption | omega)) (cwV 5 hts gX8_fit_X8_barred rfl rfl rfl (by decide +kernel) ⟨Nat.le_of_ble_eq_true rfl, Nat.le_of_ble_eq_true rfl⟩) ⟨fun a U g mk q => mz_blI q, va_recv hK hPc (ci := 8) (q0 := 0) rfl rfl, fun U hU hW => ⟨rfl, by rw [hU], by rw [hU]; exact hPc, va_K.moved hW.alike hK, hDc.weaken (fun _ _ _ _ => trivial), mz_nw hW hN⟩⟩ rfl rfl hl.1 rfl (lv_room (Nat.le_of_ble_eq_true rfl)) dX8_fit_208 ⟨Nat.le_of_ble_eq_true rfl, Nat.le_of_ble_eq_true rfl⟩) hS (fun q _ h => hFc q h) hFc (fun r_208 u t H1 locs ht hvm hw_208 hB hz1 hk1 hS => ?_)
                      obtain ⟨gw_208, gt_208, hP1, hD1⟩ := hB
                      rw [ht] at hP1
                      obtain ⟨hP, hD⟩ := va_join (wr := [(m1, .inl (cZ, 8, .inl fs))]) (w1 := [(mo, .inr (8, [.int (nI n), .ref m1, .ref m2, .ref m3, .long ka, .long kb, .ref m6, .ref m7, .ref m8, .ref m9, .ref m10, .ref m11, .ref m12, .ref m13, .ref m14, .ref m15, .ref m16])), (m2, .inl (cI, 8, .inl fp)), (m6, .inl (cI, 8, .inl gw_208)), (m7, .inl (cI, 9, .inl gt_208))]) hP hD [0, 2, 3, 4] [1] rfl rfl (by decide) (by decide) hk1 hFc hP1 hD1
                      generalize H1 = H at hP hS ⊢
                      have hP : va_P (dC, dI) vwCl [(m1, .inl (cZ, 8, .inl fs)), (mo, .inr (8, [.int (nI n), .ref m1, .ref m2, .ref m3, .long ka, .long kb, .ref m6, .ref m7, .ref m8, .ref m9, .ref m10, .ref m11, .ref m12, .ref m13, .ref m14, .ref m15, .ref m16])), (m2, .inl (cI, 8, .inl fp)), (m6, .inl (cI, 8, .inl gw_208)), (m7, .inl (cI, 9, .inl gt_208))] H := hP
                      have hD : va_D A [(m1, .inl (cZ, 8, .inl fs)), (mo, .inr (8, [.int (nI n), .ref m1, .ref m2, .ref m3, .long ka, .long kb, .ref m6, .ref m7, .ref m8, .ref m9, .ref m10, .ref m11, .ref m12, .ref m13, .ref m14, .ref m15, .ref m16])), (m2, .inl (cI, 8, .inl fp)), (m6, .inl (cI, 8, .inl gw_208)), (m7, .inl (cI, 9, .inl gt_208))] := hD
                      have hP9 := hP.sub (ws' := [(mo, .inr (8, [.int (nI n), .ref m1, .ref m2, .ref m3, .long ka, .long kb, .ref m6, .ref m7, .ref m8, .ref m9, .ref m10, .ref m11, .ref m12, .ref m13, .ref m14, .ref m15, .ref m16])), (m1, .inl (cZ, 8, .inl fs)), (m2, .inl (cI, 8, .inl fp)), (m6, .inl (cI, 8, .inl gw_208)), (m7, .inl (cI, 9, .inl gt_208))]) [1, 0, 2, 3, 4] rfl
                      have hD9 := hD.sub (ws' := [(mo, .inr (8, [.int (nI n), .ref m1, .ref m2, .ref m3, .long ka, .long kb, .ref m6, .ref m7, .ref m8, .ref m9, .ref m10, .ref m11, .ref m12, .ref m13, .ref m14, .ref m15, .ref m16])), (m1, .inl (cZ, 8, .inl fs)), (m2, .inl (cI, 8, .inl fp)), (m6, .inl (cI, 8, .inl gw_208)), (m7, .inl (cI, 9, .inl gt_208))]) [1, 0, 2, 3, 4] (by decide) rfl
                      refine W.widen (k := 0) (n := 0) (Nat.le_of_ble_eq_true rfl) (Nat.le_of_ble_eq_true rfl) ?_
                      exact W.zret (v := r_208) hx hb hr (mz_nzo hw_208) (fun t ht hW => ⟨⟨r_208, (), rfl, hw_208, gw_208, gt_208, by rw [ht]; exact hP9, hD9⟩, hS.F ht⟩) hS.2.2 dX8_fit_211
                    · skip
                      have d_158 : ¬ n ≤ i_152 := fun h => c_158 ((nI_leI (a := n) (b := i_152) (by omega) (by omega)).mpr h)
                      refine lv_iload hx hb dX8_fit_161 (lv_at hl 1 rfl) ?_
                      refine lv_iload hx hb dX8_fit_163 (lv_at hl 0 rfl) ?_
                      refine lv_ishr hx hb dX8_fit_165 ?_
                      refine lv_topi (fun v_165 ev_165 => ?_)
                      refine lv_iconst (v := 1) hx hb dX8_fit_166 (by decide +kernel) ?_
                      refine lv_iand hx hb dX8_fit_167 ?_
                      refine lv_topi (fun v_167 ev_167 => ?_)
                      refine lv_iconst (v := 1) hx hb dX8_fit_168 (by decide +kernel) ?_
                      refine lv_icmp_ne (tgt := 191) hx hb dX8_fit_169 (by decide) (fun c_169 => ?_) (fun c_169 => ?_)
                      · skip
                        refine lv_iinc (v := (nI (i_152 + 1))) (lv' := [(6, .int (nI (i_152 + 1))), (5, .int x5_99), (4, .int r_63), (0, .ref mo), (1, .int (nI j_2)), (2, .int (nI j_10)), (3, .int p3)]) hx hb dX8_fit_191 hl (k := 0) rfl (nI_1 _) (by decide) rfl (fun ls hl => ?_)
                        refine lv_goto (tgt := 152) hx hb dX8_fit_194 (by decide) ?_
                        exact ih_152 _ (by omega) _ _ _ ⟨(i_152 + 1), by omega, hP, hD, hS, lv_sub hl [0, 1, 2, 3, 4, 5, 6] rfl, rfl⟩
                      · skip
                        refine lv_iload_n hx hb dX8_fit_172 rfl (lv_at hl 6 rfl) ?_
                        refine lv_iconst (v := 1) hx hb dX8_fit_173 (by decide +kernel) ?_
                        refine lv_iload hx hb dX8_fit_174 (lv_at hl 0 rfl) ?_
                        refine lv_ishl hx hb dX8_fit_176 ?_
                        refine mz_ti (y := (nI (2 ^ i_152))) (mz_sh1 (by omega)) ?_
                        refine lv_aload_n hx hb dX8_fit_177 rfl (lv_at hl 3 rfl) ?_
                        refine lv_iload hx hb dX8_fit_178 (lv_at hl 0 rfl) ?_
                        refine lv_iconst (v := 0) hx hb dX8_fit_180 (by decide +kernel) ?_
                        have hPc := hP.sub (ws' := [(mo, .inr (8, [.int (nI n), .ref m1, .ref m2, .ref m3, .long ka, .long kb, .ref m6, .ref m7, .ref m8, .ref m9, .ref m10, .ref m11, .ref m12, .ref m13, .ref m14, .ref m15, .ref m16])), (m2, .inl (cI, 8, .inl fp))]) [0, 2] rfl
                        refine va_calli (va_runV (As := [.int (nI i_152), .int 0]) (rest := [.int (nI (2 ^ i_152)), .int p3]) ⟨hx, hb, hml, hown, hts⟩ (mz_m_belowOf l dC dI cI cJ cZ mo m1 m2 m3 m6 m7 m8 m9 m10 m11 m12 m13 m14 m15 m16 n ka kb fp (nI i_152) H (by first | assumption | omega)) (cwV 2 hts gX8_fit_X8_belowOf rfl rfl rfl (by decide +kernel) ⟨Nat.le_of_ble_eq_true rfl, Nat.le_of_ble_eq_true rfl⟩) ⟨fun a U g mk q => mz_blP q, va_recv hK hPc (ci := 8) (q0 := 0) rfl rfl, fun U hU hW => ⟨rfl, hU, hPc, va_K.moved hW.alike hK, mz_nw hW hN⟩⟩ rfl rfl hl.1 rfl (lv_room (Nat.le_of_ble_eq_true rfl)) dX8_fit_181 ⟨Nat.le_of_ble_eq_true rfl, Nat.le_of_ble_eq_true rfl⟩) hS (fun q _ h => h.elim) (fun q h => h.elim) (fun r_181 u t H1 locs ht hvm hw_181 hB hz1 hk1 hS => ?_)
                        have hE : H = H1 := hB.symm.trans ht
                        subst hE
                        refine lv_ior hx hb dX8_fit_184 ?_
                        refine lv_topi (fun v_184 ev_184 => ?_)
                        refine lv_iand hx hb dX8_fit_185 ?_
                        refine lv_topi (fun v_185 ev_185 => ?_)
                        refine lv_if_eq (tgt := 191) hx hb dX8_fit_186 (by decide) (fun c_186 => ?_) (fun c_186 => ?_)
                        · skip
                          refine lv_iinc (v := (nI (i_152 + 1))) (lv' := [(6, .int (nI (i_152 + 1))), (5, .int x5_99), (4, .int r_63), (0, .ref mo), (1, .int (nI j_2)), (2, .int (nI j_10)), (3, .int p3)]) hx hb dX8_fit_191 hl (k := 0) rfl (nI_1 _) (by decide) rfl (fun ls hl => ?_)
                          refine lv_goto (tgt := 152) hx hb dX8_fit_194 (by decide) ?_
                          exact ih_152 _ (by omega) _ _ _ ⟨(i_152 + 1), by omega, hP, hD, hS, lv_sub hl [0, 1, 2, 3, 4, 5, 6] rfl, rfl⟩
                        · skip
                          refine lv_iconst (v := 0) hx hb dX8_fit_189 (by decide +kernel) ?_
                          have hP9 := hP.sub (ws' := [(mo, .inr (8, [.int (nI n), .ref m1, .ref m2, .ref m3, .long ka, .long kb, .ref m6, .ref m7, .ref m8, .ref m9, .ref m10, .ref m11, .ref m12, .ref m13, .ref m14, .ref m15, .ref m16])), (m1, .inl (cZ, 8, .inl fs)), (m2, .inl (cI, 8, .inl fp)), (m6, .inl (cI, 8, .inl fw)), (m7, .inl (cI, 9, .inl ft))]) [0, 1, 2, 3, 4] rfl
                          have hD9 := hD.sub (ws' := [(mo, .inr (8, [.int (nI n), .ref m1, .ref m2, .ref m3, .long ka, .long kb, .ref m6, .ref m7, .ref m8, .ref m9, .ref m10, .ref m11, .ref m12, .ref m13, .ref m14, .ref m15, .ref m16])), (m1, .inl (cZ, 8, .inl fs)), (m2, .inl (cI, 8, .inl fp)), (m6, .inl (cI, 8, .inl fw)), (m7, .inl (cI, 9, .inl ft))]) [0, 1, 2, 3, 4] (by decide) rfl
                          refine W.widen (k := 0) (n := 0) (Nat.le_of_ble_eq_true rfl) (Nat.le_of_ble_eq_true rfl) ?_
                          exact W.zret (v := 0) hx hb hr (mz_nz (by decide +kernel)) (fun t ht hW => ⟨⟨0, (), rfl, Or.inl rfl, fw, ft, by rw [ht]; exact hP9, hD9⟩, hS.F ht⟩) hS.2.2 dX8_fit_190
                  · skip
                    have d_105 : ¬ n ≤ i_99 := fun h => c_105 ((nI_leI (a := n) (b := i_99) (by omega) (by omega)).mpr h)
                    refine lv_iload hx hb dX8_fit_108 (lv_at hl 2 rfl) ?_
                    refine lv_iload hx hb dX8_fit_110 (lv_at hl 0 rfl) ?_
                    refine lv_ishr hx hb dX8_fit_112 ?_
                    refine lv_topi (fun v_112 ev_112 => ?_)
                    refine lv_iconst (v := 1) hx hb dX8_fit_113 (by decide +kernel) ?_
                    refine lv_iand hx hb dX8_fit_114 ?_
                    refine lv_topi (fun v_114 ev_114 => ?_)
                    refine lv_iconst (v := 1) hx hb dX8_fit_115 (by decide +kernel) ?_
                    refine lv_icmp_ne (tgt := 143) hx hb dX8_fit_116 (by decide) (fun c_116 => ?_) (fun c_116 => ?_)
                    · skip
                      refine lv_iinc (v := (nI (i_99 + 1))) (lv' := [(6, .int (nI (i_99 + 1))), (5, .int x5_99), (4, .int r_63), (0, .ref mo), (1, .int (nI j_2)), (2, .int (nI j_10)), (3, .int p3)]) hx hb dX8_fit_143 hl (k := 0) rfl (nI_1 _) (by decide) rfl (fun ls hl => ?_)
                      refine lv_goto (tgt := 99) hx hb dX8_fit_146 (by decide) ?_
                      exact ih_99 _ (by omega) _ _ _ ⟨(i_99 + 1), x5_99, by omega, hP, hD, hS, lv_sub hl [0, 1, 2, 3, 4, 5, 6] rfl, rfl⟩
                    · skip
                      refine lv_aload_n hx hb dX8_fit_119 rfl (lv_at hl 3 rfl) ?_
                      refine lv_iload hx hb dX8_fit_120 (lv_at hl 0 rfl) ?_
                      refine lv_iconst (v := 0) hx hb dX8_fit_122 (by decide +kernel) ?_
                      have hPc := hP.sub (ws' := [(mo, .inr (8, [.int (nI n), .ref m1, .ref m2, .ref m3, .long ka, .long kb, .ref m6, .ref m7, .ref m8, .ref m9, .ref m10, .ref m11, .ref m12, .ref m13, .ref m14, .ref m15, .ref m16])), (m2, .inl (cI, 8, .inl fp))]) [0, 2] rfl
                      refine va_calli (va_runV (As := [.int (nI i_99), .int 0]) (rest := []) ⟨hx, hb, hml, hown, hts⟩ (mz_m_belowOf l dC dI cI cJ cZ mo m1 m2 m3 m6 m7 m8 m9 m10 m11 m12 m13 m14 m15 m16 n ka kb fp (nI i_99) H (by first | assumption | omega)) (cwV 2 hts gX8_fit_X8_belowOf rfl rfl rfl (by decide +kernel) ⟨Nat.le_of_ble_eq_true rfl, Nat.le_of_ble_eq_true rfl⟩) ⟨fun a U g mk q => mz_blP q, va_recv hK hPc (ci := 8) (q0 := 0) rfl rfl, fun U hU hW => ⟨rfl, hU, hPc, va_K.moved hW.alike hK, mz_nw hW hN⟩⟩ rfl rfl hl.1 rfl (lv_room (Nat.le_of_ble_eq_true rfl)) dX8_fit_123 ⟨Nat.le_of_ble_eq_true rfl, Nat.le_of_ble_eq_true rfl⟩) hS (fun q _ h => h.elim) (fun q h => h.elim) (fun r_123 u t H1 locs ht hvm hw_123 hB hz1 hk1 hS => ?_)
                      have hE : H = H1 := hB.symm.trans ht
                      subst hE
                      refine lv_iload_n hx hb dX8_fit_126 rfl (lv_at hl 5 rfl) ?_
                      refine lv_ishr hx hb dX8_fit_127 ?_
                      refine lv_topi (fun v_127 ev_127 => ?_)
                      refine lv_iconst (v := 1) hx hb dX8_fit_128 (by decide +kernel) ?_
                      refine lv_iand hx hb dX8_fit_129 ?_
                      refine lv_topi (fun v_129 ev_129 => ?_)
                      refine lv_iconst (v := 1) hx hb dX8_fit_130 (by decide +kernel) ?_
                      refine lv_icmp_ne (tgt := 143) hx hb dX8_fit_131 (by decide) (fun c_131 => ?_) (fun c_131 => ?_)
                      · skip
                        refine lv_iinc (v := (nI (i_99 + 1))) (lv' := [(6, .int (nI (i_99 + 1))), (5, .int x5_99), (4, .int r_63), (0, .ref mo), (1, .int (nI j_2)), (2, .int (nI j_10)), (3, .int p3)]) hx hb dX8_fit_143 hl (k := 0) rfl (nI_1 _) (by decide) rfl (fun ls hl => ?_)
                        refine lv_goto (tgt := 99) hx hb dX8_fit_146 (by decide) ?_
                        exact ih_99 _ (by omega) _ _ _ ⟨(i_99 + 1), x5_99, by omega, hP, hD, hS, lv_sub hl [0, 1, 2, 3, 4, 5, 6] rfl, rfl⟩
                      · skip
                        refine lv_iload hx hb dX8_fit_134 (lv_at hl 1 rfl) ?_
                        refine lv_iconst (v := 1) hx hb dX8_fit_136 (by decide +kernel) ?_
                        refine lv_iload hx hb dX8_fit_137 (lv_at hl 0 rfl) ?_
                        refine lv_ishl hx hb dX8_fit_139 ?_
                        refine mz_ti (y := (nI (2 ^ i_99))) (mz_sh1 (by omega)) ?_
                        refine lv_ior hx hb dX8_fit_140 ?_
                        refine lv_topi (fun v_140 ev_140 => ?_)
                        refine lv_istore (lv' := [(5, .int v_140), (6, .int (nI i_99)), (4, .int r_63), (0, .ref mo), (1, .int (nI j_2)), (2, .int (nI j_10)), (3, .int p3)]) hx hb dX8_fit_141 hl (by decide) rfl (fun ls hl => ?_)
                        refine lv_iinc (v := (nI (i_99 + 1))) (lv' := [(6, .int (nI (i_99 + 1))), (5, .int v_140), (4, .int r_63), (0, .ref mo), (1, .int (nI j_2)), (2, .int (nI j_10)), (3, .int p3)]) hx hb dX8_fit_143 hl (k := 1) rfl (nI_1 _) (by decide) rfl (fun ls hl => ?_)
                        refine lv_goto (tgt := 99) hx hb dX8_fit_146 (by decide) ?_
                        exact ih_99 _ (by omega) _ _ _ ⟨(i_99 + 1), v_140, by omega, hP, hD, hS, lv_sub hl [0, 1, 2, 3, 4, 5, 6] rfl, rfl⟩
                · skip
                  refine lv_aload_n hx hb dX8_fit_77 rfl (lv_at hl 1 rfl) ?_
                  refine lv_iconst (v := 1) hx hb dX8_fit_78 (by decide +kernel) ?_
                  refine lv_iload_n hx hb dX8_fit_79 rfl (lv_at hl 2 rfl) ?_
                  refine lv_ishl hx hb dX8_fit_80 ?_
                  refine mz_ti (y := (nI (2 ^ j_2))) (mz_sh1 (by omega)) ?_
                  refine lv_iconst (v := 1) hx hb dX8_fit_81 (by decide +kernel) ?_
                  refine lv_iload_n hx hb dX8_fit_82 rfl (lv_at hl 3 rfl) ?_
                  refine lv_ishl hx hb dX8_fit_83 ?_
                  refine mz_ti (y := (nI (2 ^ j_10))) (mz_sh1 (by omega)) ?_
                  refine lv_iload_n hx hb dX8_fit_84 rfl (lv_at hl 4 rfl) ?_
                  refine lv_iconst (v := 0) hx hb dX8_fit_85 (by decide +kernel) ?_
                  refine lv_iconst (v := 0) hx hb dX8_fit_86 (by decide +kernel) ?_
                  have hPc := hP.sub (ws' := [(mo, .inr (8, [.int (nI n), .ref m1, .ref m2, .ref m3, .long ka, .long kb, .ref m6, .ref m7, .ref m8, .ref m9, .ref m10, .ref m11, .ref m12, .ref m13, .ref m14, .ref m15, .ref m16])), (m2, .inl (cI, 8, .inl fp)), (m6, .inl (cI, 8, .inl fw)), (m7, .inl (cI, 9, .inl ft))]) [0, 2, 3, 4] rfl
                  have hDc := hD.sub (ws' := [(mo, .inr (8, [.int (nI n), .ref m1, .ref m2, .ref m3, .long ka, .long kb, .ref m6, .ref m7, .ref m8, .ref m9, .ref m10, .ref m11, .ref m12, .ref m13, .ref m14, .ref m15, .ref m16])), (m2, .inl (cI, 8, .inl fp)), (m6, .inl (cI, 8, .inl fw)), (m7, .inl (cI, 9, .inl ft))]) [0, 2, 3, 4] (by decide) rfl
                  have hFc := va_free (wc := [(mo, .inr (8, [.int (nI n), .ref m1, .ref m2, .ref m3, .long ka, .long kb, .ref m6, .ref m7, .ref m8, .ref m9, .ref m10, .ref m11, .ref m12, .ref m13, .ref m14, .ref m15, .ref m16])), (m2, .inl (cI, 8, .inl fp)), (m6, .inl (cI, 8, .inl fw)), (m7, .inl (cI, 9, .inl ft))]) hD hS hA [0, 2, 3, 4] rfl
                  refine va_calli (va_runV (As := [.int (nI (2 ^ j_2)), .int (nI (2 ^ j_10)), .int p3, .int 0, .int 0]) (rest := []) ⟨hx, hb, hml, hown, hts⟩ (mz_m_barred l dC dI cI cJ cZ mo m1 m2 m3 m6 m7 m8 m9 m10 m11 m12 m13 m14 m15 m16 n ka kb fp fw ft (nI (2 ^ j_2)) (nI (2 ^ j_10)) p3 0 0 s.heap.size (by first | assumption | omega)) (cwV 5 hts gX8_fit_X8_barred rfl rfl rfl (by decide +kernel) ⟨Nat.le_of_ble_eq_true rfl, Nat.le_of_ble_eq_true rfl⟩) ⟨fun a U g mk q => mz_blI q, va_recv hK hPc (ci := 8) (q0 := 0) rfl rfl, fun U hU hW => ⟨rfl, by rw [hU], by rw [hU]; exact hPc, va_K.moved hW.alike hK, hDc.weaken (fun _ _ _ _ => trivial), mz_nw hW hN⟩⟩ rfl rfl hl.1 rfl (lv_room (Nat.le_of_ble_eq_true rfl)) dX8_fit_87 ⟨Nat.le_of_ble_eq_true rfl, Nat.le_of_ble_eq_true rfl⟩) hS (fun q _ h => hFc q h) hFc (fun r_87 u t H1 locs ht hvm hw_87 hB hz1 hk1 hS => ?_)
                  obtain ⟨gw_87, gt_87, hP1, hD1⟩ := hB
                  rw [ht] at hP1
                  obtain ⟨hP, hD⟩ := va_join (wr := [(m1, .inl (cZ, 8, .inl fs))]) (w1 := [(mo, .inr (8, [.int (nI n), .ref m1, .ref m2, .ref m3, .long ka, .long kb, .ref m6, .ref m7, .ref m8, .ref m9, .ref m10, .ref m11, .ref m12, .ref m13, .ref m14, .ref m15, .ref m16])), (m2, .inl (cI, 8, .inl fp)), (m6, .inl (cI, 8, .inl gw_87)), (m7, .inl (cI, 9, .inl gt_87))]) hP hD [0, 2, 3, 4] [1] rfl rfl (by decide) (by decide) hk1 hFc hP1 hD1
                  generalize H1 = H at hP hS ⊢
                  have hP : va_P (dC, dI) vwCl [(m1, .inl (cZ, 8, .inl fs)), (mo, .inr (8, [.int (nI n), .ref m1, .ref m2, .ref m3, .long ka, .long kb, .ref m6, .ref m7, .ref m8, .ref m9, .ref m10, .ref m11, .ref m12, .ref m13, .ref m14, .ref m15, .ref m16])), (m2, .inl (cI, 8, .inl fp)), (m6, .inl (cI, 8, .inl gw_87)), (m7, .inl (cI, 9, .inl gt_87))] H := hP
                  have hD : va_D A [(m1, .inl (cZ, 8, .inl fs)), (mo, .inr (8, [.int (nI n), .ref m1, .ref m2, .ref m3, .long ka, .long kb, .ref m6, .ref m7, .ref m8, .ref m9, .ref m10, .ref m11, .ref m12, .ref m13, .ref m14, .ref m15, .ref m16])), (m2, .inl (cI, 8, .inl fp)), (m6, .inl (cI, 8, .inl gw_87)), (m7, .inl (cI, 9, .inl gt_87))] := hD
                  have hP9 := hP.sub (ws' := [(mo, .inr (8, [.int (nI n), .ref m1, .ref m2, .ref m3, .long ka, .long kb, .ref m6, .ref m7, .ref m8, .ref m9, .ref m10, .ref m11, .ref m12, .ref m13, .ref m14, .ref m15, .ref m16])), (m1, .inl (cZ, 8, .inl fs)), (m2, .inl (cI, 8, .inl fp)), (m6, .inl (cI, 8, .inl gw_87)), (m7, .inl (cI, 9, .inl gt_87))]) [1, 0, 2, 3, 4] rfl
                  have hD9 := hD.sub (ws' := [(mo, .inr (8, [.int (nI n), .ref m1, .ref m2, .ref m3, .long ka, .long kb, .ref m6, .ref m7, .ref m8, .ref m9, .ref m10, .ref m11, .ref m12, .ref m13, .ref m14, .ref m15, .ref m16])), (m1, .inl (cZ, 8, .inl fs)), (m2, .inl (cI, 8, .inl fp)), (m6, .inl (cI, 8, .inl gw_87)), (m7, .inl (cI, 9, .inl gt_87))]) [1, 0, 2, 3, 4] (by decide) rfl
                  refine W.widen (k := 0) (n := 0) (Nat.le_of_ble_eq_true rfl) (Nat.le_of_ble_eq_true rfl) ?_
                  exact W.zret (v := r_87) hx hb hr (mz_nzo hw_87) (fun t ht hW => ⟨⟨r_87, (), rfl, hw_87, gw_87, gt_87, by rw [ht]; exact hP9, hD9⟩, hS.F ht⟩) hS.2.2 dX8_fit_90
              · skip
                refine lv_iconst (v := 0) hx hb dX8_fit_58 (by decide +kernel) ?_
                have hP9 := hP.sub (ws' := [(mo, .inr (8, [.int (nI n), .ref m1, .ref m2, .ref m3, .long ka, .long kb, .ref m6, .ref m7, .ref m8, .ref m9, .ref m10, .ref m11, .ref m12, .ref m13, .ref m14, .ref m15, .ref m16])), (m1, .inl (cZ, 8, .inl fs)), (m2, .inl (cI, 8, .inl fp)), (m6, .inl (cI, 8, .inl fw)), (m7, .inl (cI, 9, .inl ft))]) [0, 1, 2, 3, 4] rfl
                have hD9 := hD.sub (ws' := [(mo, .inr (8, [.int (nI n), .ref m1, .ref m2, .ref m3, .long ka, .long kb, .ref m6, .ref m7, .ref m8, .ref m9, .ref m10, .ref m11, .ref m12, .ref m13, .ref m14, .ref m15, .ref m16])), (m1, .inl (cZ, 8, .inl fs)), (m2, .inl (cI, 8, .inl fp)), (m6, .inl (cI, 8, .inl fw)), (m7, .inl (cI, 9, .inl ft))]) [0, 1, 2, 3, 4] (by decide) rfl
                refine W.widen (k := 0) (n := 0) (Nat.le_of_ble_eq_true rfl) (Nat.le_of_ble_eq_true rfl) ?_
                exact W.zret (v := 0) hx hb hr (mz_nz (by decide +kernel)) (fun t ht hW => ⟨⟨0, (), rfl, Or.inl rfl, fw, ft, by rw [ht]; exact hP9, hD9⟩, hS.F ht⟩) hS.2.2 dX8_fit_59
    · skip
      refine lv_if_eq (tgt := 58) hx hb dX8_fit_13 (by decide) (fun _ => ?_) (fun c_13 => absurd (by decide +kernel) c_13)
      refine lv_iconst (v := 0) hx hb dX8_fit_58 (by decide +kernel) ?_
      have hP9 := hP.sub (ws' := [(mo, .inr (8, [.int (nI n), .ref m1, .ref m2, .ref m3, .long ka, .long kb, .ref m6, .ref m7, .ref m8, .ref m9, .ref m10, .ref m11, .ref m12, .ref m13, .ref m14, .ref m15, .ref m16])), (m1, .inl (cZ, 8, .inl fs)), (m2, .inl (cI, 8, .inl fp)), (m6, .inl (cI, 8, .inl fw)), (m7, .inl (cI, 9, .inl ft))]) [0, 1, 2, 3, 4] rfl
      have hD9 := hD.sub (ws' := [(mo, .inr (8, [.int (nI n), .ref m1, .ref m2, .ref m3, .long ka, .long kb, .ref m6, .ref m7, .ref m8, .ref m9, .ref m10, .ref m11, .ref m12, .ref m13, .ref m14, .ref m15, .ref m16])), (m1, .inl (cZ, 8, .inl fs)), (m2, .inl (cI, 8, .inl fp)), (m6, .inl (cI, 8, .inl fw)), (m7, .inl (cI, 9, .inl ft))]) [0, 1, 2, 3, 4] (by decide) rfl
      refine W.widen (k := 0) (n := 0) (Nat.le_of_ble_eq_true rfl) (Nat.le_of_ble_eq_true rfl) ?_
      exact W.zret (v := 0) hx hb hr (mz_nz (by decide +kernel)) (fun t ht hW => ⟨⟨0, (), rfl, Or.inl rfl, fw, ft, by rw [ht]; exact hP9, hD9⟩, hS.F ht⟩) hS.2.2 dX8_fit_59
  · skip
    refine lv_if_eq (tgt := 58) hx hb dX8_fit_5 (by decide) (fun _ => ?_) (fun c_5 => absurd (by decide +kernel) c_5)
    refine lv_iconst (v := 0) hx hb dX8_fit_58 (by decide +kernel) ?_
    have hP9 := hP.sub (ws' := [(mo, .inr (8, [.int (nI n), .ref m1, .ref m2, .ref m3, .long ka, .long kb, .ref m6, .ref m7, .ref m8, .ref m9, .ref m10, .ref m11, .ref m12, .ref m13, .ref m14, .ref m15, .ref m16])), (m1, .inl (cZ, 8, .inl fs)), (m2, .inl (cI, 8, .inl fp)), (m6, .inl (cI, 8, .inl fw)), (m7, .inl (cI, 9, .inl ft))]) [0, 1, 2, 3, 4] rfl
    have hD9 := hD.sub (ws' := [(mo, .inr (8, [.int (nI n), .ref m1, .ref m2, .ref m3, .long ka, .long kb, .ref m6, .ref m7, .ref m8, .ref m9, .ref m10, .ref m11, .ref m12, .ref m13, .ref m14, .ref m15, .ref m16])), (m1, .inl (cZ, 8, .inl fs)), (m2, .inl (cI, 8, .inl fp)), (m6, .inl (cI, 8, .inl fw)), (m7, .inl (cI, 9, .inl ft))]) [0, 1, 2, 3, 4] (by decide) rfl
    refine W.widen (k := 0) (n := 0) (Nat.le_of_ble_eq_true rfl) (Nat.le_of_ble_eq_true rfl) ?_
    exact W.zret (v := 0) hx hb hr (mz_nz (by decide +kernel)) (fun t ht hW => ⟨⟨0, (), rfl, Or.inl rfl, fw, ft, by rw [ht]; exact hP9, hD9⟩, hS.F ht⟩) hS.2.2 dX8_fit_59
set_option maxHeartbeats 1000000 in
set_option maxRecDepth 100000 in
theorem mz_m_agrees (l : Launch) (dC : Nat → ClassId) (dI : Nat → Nat → Nat) (cI cJ cZ : ClassId) (mo : Nat) (m1 : Nat) (m2 : Nat) (m3 : Nat) (m6 : Nat) (m7 : Nat) (m8 : Nat) (m9 : Nat) (m10 : Nat) (m11 : Nat) (m12 : Nat) (m13 : Nat) (m14 : Nat) (m15 : Nat) (m16 : Nat) (n : Nat) (ka : Int64) (kb : Int64) (fp : Nat → Int32) (fb : Nat → Int32) (fu : Nat → Int64) (fd : Nat → Int64) (fh : Nat → Int64) (p1 : Int32) (p2 : Int32) (p3 : Int32) (p4 : Int32) (p5 : Int32) (sz : Nat) (hn : n ≤ 8) (ha : mz_acy n fp) : Met l yX8_agrees wsX8_agrees ({ frames := 3, cells := 0, slots := 0, locals := 76 }) (va_Pc [.ref mo, .int p1, .int p2, .int p3, .int p4, .int p5] (fun U => U.heap.size = sz ∧ va_P (dC, dI) vwCl [(mo, .inr (8, [.int (nI n), .ref m1, .ref m2, .ref m3, .long ka, .long kb, .ref m6, .ref m7, .ref m8, .ref m9, .ref m10, .ref m11, .ref m12, .ref m13, .ref m14, .ref m15, .ref m16])), (m2, .inl (cI, 8, .inl fp)), (m3, .inl (cI, 1024, .inl fb)), (m9, .inl (cJ, 200, .inr (.inl fu))), (m10, .inl (cJ, 200, .inr (.inl fd))), (m11, .inl (cJ, 200, .inr (.inl fh)))] U.heap ∧ va_K (dC, dI) vwCl [(cI, FieldType.int), (cJ, FieldType.long), (cZ, FieldType.boolean)] U ∧ va_D (fun _ => True) [(mo, .inr (8, [.int (nI n), .ref m1, .ref m2, .ref m3, .long ka, .long kb, .ref m6, .ref m7, .ref m8, .ref m9, .ref m10, .ref m11, .ref m12, .ref m13, .ref m14, .ref m15, .ref m16])), (m2, .inl (cI, 8, .inl fp)), (m3, .inl (cI, 1024, .inl fb)), (m9, .inl (cJ, 200, .inr (.inl fu))), (m10, .inl (cJ, 200, .inr (.inl fd))), (m11, .inl (cJ, 200, .inr (.inl fh)))] ∧ mz_N U)) (va_Qi (fun (r : Int32) (_ : Unit) => True) (fun _ t => ∃ (gu : Nat → Int64), ∃ (gd : Nat → Int64), ∃ (gh : Nat → Int64), va_P (dC, dI) vwCl [(mo, .inr (8, [.int (nI n), .ref m1, .ref m2, .ref m3, .long ka, .long kb, .ref m6, .ref m7, .ref m8, .ref m9, .ref m10, .ref m11, .ref m12, .ref m13, .ref m14, .ref m15, .ref m16])), (m2, .inl (cI, 8, .inl fp)), (m3, .inl (cI, 1024, .inl fb)), (m9, .inl (cJ, 200, .inr (.inl gu))), (m10, .inl (cJ, 200, .inr (.inl gd))), (m11, .inl (cJ, 200, .inr (.inl gh)))] t.heap ∧ va_D (va_A [(mo, .inr (8, [.int (nI n), .ref m1, .ref m2, .ref m3, .long ka, .long kb, .ref m6, .ref m7, .ref m8, .ref m9, .ref m10, .ref m11, .ref m12, .ref m13, .ref m14, .ref m15, .ref m16])), (m2, .inl (cI, 8, .inl fp)), (m3, .inl (cI, 1024, .inl fb)), (m9, .inl (cJ, 200, .inr (.inl fu))), (m10, .inl (cJ, 200, .inr (.inl fd))), (m11, .inl (cJ, 200, .inr (.inl fh)))] sz) [(mo, .inr (8, [.int (nI n), .ref m1, .ref m2, .ref m3, .long ka, .long kb, .ref m6, .ref m7, .ref m8, .ref m9, .ref m10, .ref m11, .ref m12, .ref m13, .ref m14, .ref m15, .ref m16])), (m2, .inl (cI, 8, .inl fp)), (m3, .inl (cI, 1024, .inl fb)), (m9, .inl (cJ, 200, .inr (.inl gu))), (m10, .inl (cJ, 200, .inr (.inl gd))), (m11, .inl (cJ, 200, .inr (.inl gh)))]) (va_A [(mo, .inr (8, [.int (nI n), .ref m1, .ref m2, .ref m3, .long ka, .long kb, .ref m6, .ref m7, .ref m8, .ref m9, .ref m10, .ref m11, .ref m12, .ref m13, .ref m14, .ref m15, .ref m16])), (m2, .inl (cI, 8, .inl fp)), (m3, .inl (cI, 1024, .inl fb)), (m9, .inl (cJ, 200, .inr (.inl fu))), (m10, .inl (cJ, 200, .inr (.inl fd))), (m11, .inl (cJ, 200, .inr (.inl fh)))] sz)) 0 0 (va_A [(mo, .inr (8, [.int (nI n), .ref m1, .ref m2, .ref m3, .long ka, .long kb, .ref m6, .ref m7, .ref m8, .ref m9, .ref m10, .ref m11, .ref m12, .ref m13, .ref m14, .ref m15, .ref m16])), (m2, .inl (cI, 8, .inl fp)), (m3, .inl (cI, 1024, .inl fb)), (m9, .inl (cJ, 200, .inr (.inl fu))), (m10, .inl (cJ, 200, .inr (.inl fd))), (m11, .inl (cJ, 200, .inr (.inl fh)))] sz) := by
  refine Met.ofW (cc := cX8_agrees) (maxL := 24) (ret := (some .int)) (by decide) rfl ?_
  intro p e s m args below meth c s₁ B hml hv
  obtain ⟨rfl, hsz, hP, hK, hD0, hN⟩ := hv
  subst hsz
  have hx := B.exec
  have hb := B.bytes
  have hr := B.returns
  have hts := atoms_spec (ws := wsX8_agrees) B.pre
  have hown : s.vm.findClass RX8 = some m.cls := findClass_of_methodNamed B.named
  have hlocks := B.notSynchronized
  have hD := hD0.self (sz := s.heap.size)
  generalize hAe : va_A [(mo, .inr (8, [.int (nI n), .ref m1, .ref m2, .ref m3, .long ka, .long kb, .ref m6, .ref m7, .ref m8, .ref m9, .ref m10, .ref m11, .ref m12, .ref m13, .ref m14, .ref m15, .ref m16])), (m2, .inl (cI, 8, .inl fp)), (m3, .inl (cI, 1024, .inl fb)), (m9, .inl (cJ, 200, .inr (.inl fu))), (m10, .inl (cJ, 200, .inr (.inl fd))), (m11, .inl (cJ, 200, .inr (.inl fh)))] s.heap.size = A at hD ⊢
  have hA : ∀ q : Nat, s.heap.size ≤ q → A q := fun q h => by rw [← hAe]; exact Or.inr h
  have hS : va_S A s.heap s.heap [] := va_S.rf
  have hiX8 : ∀ w ∈ u_ws RX8 TX8 17, w ∈ wsX8_agrees := by decide +kernel
  have hl := lv_entry ([.ref mo, .int p1, .int p2, .int p3, .int p4, .int p5]) (n := 24) (Nat.le_of_ble_eq_true rfl)
  rw [lg_entry_eq]
  generalize (lg_sl ([.ref mo, .int p1, .int p2, .int p3, .int p4, .int p5]) ++ List.replicate (24 - (lg_sl ([.ref mo, .int p1, .int p2, .int p3, .int p4, .int p5])).length) Slot.unset).toArray = ls at hl ⊢
  have hl : lv_has ls 24 [(0, .ref mo), (1, .int p1), (2, .int p2), (3, .int p3), (4, .int p4), (5, .int p5)] := hl
  refine lv_aload_n hx hb dX8_agrees_0 rfl (lv_at hl 0 rfl) ?_
  refine lv_iload_n hx hb dX8_agrees_1 rfl (lv_at hl 1 rfl) ?_
  have hPc := hP.sub (ws' := [(mo, .inr (8, [.int (nI n), .ref m1, .ref m2, .ref m3, .long ka, .long kb, .ref m6, .ref m7, .ref m8, .ref m9, .ref m10, .ref m11, .ref m12, .ref m13, .ref m14, .ref m15, .ref m16]))]) [0] rfl
  refine va_calli (va_runV (As := [.int p1]) (rest := []) ⟨hx, hb, hml, hown, hts⟩ (mz_m_isThing l dC dI cI cJ cZ mo m1 m2 m3 m6 m7 m8 m9 m10 m11 m12 m13 m14 m15 m16 n ka kb p1 s.heap (by first | assumption | omega)) (cwV 1 hts gX8_agrees_X8_isThing rfl rfl rfl (by decide +kernel) ⟨Nat.le_of_ble_eq_true rfl, Nat.le_of_ble_eq_true rfl⟩) ⟨fun a U g mk q => mz_blP q, va_recv hK hPc (ci := 8) (q0 := 0) rfl rfl, fun U hU hW => ⟨rfl, hU, hPc, va_K.moved hW.alike hK, mz_nw hW hN⟩⟩ rfl rfl hl.1 rfl (lv_room (Nat.le_of_ble_eq_true rfl)) dX8_agrees_2 ⟨Nat.le_of_ble_eq_true rfl, Nat.le_of_ble_eq_true rfl⟩) hS (fun q _ h => h.elim) (fun q h => h.elim) (fun r_2 u t H1 locs ht hvm hw_2 hB hz1 hk1 hS => ?_)
  have hE : s.heap = H1 := hB.symm.trans ht
  subst hE
  rcases (show (r_2 = 1 ∧ ∃ j : Nat, j < n ∧ p1 = nI j) ∨ r_2 = 0 from hw_2) with ⟨rfl, j_2, hj_2, he_2⟩ | rfl
  · skip
    subst he_2
    refine lv_if_eq (tgt := 69) hx hb dX8_agrees_5 (by decide) (fun c_5 => absurd c_5 (by decide +kernel)) (fun _ => ?_)
    refine lv_aload_n hx hb dX8_agrees_8 rfl (lv_at hl 0 rfl) ?_
    refine lv_iload_n hx hb dX8_agrees_9 rfl (lv_at hl 2 rfl) ?_
    have hPc := hP.sub (ws' := [(mo, .inr (8, [.int (nI n), .ref m1, .ref m2, .ref m3, .long ka, .long kb, .ref m6, .ref m7, .ref m8, .ref m9, .ref m10, .ref m11, .ref m12, .ref m13, .ref m14, .ref m15, .ref m16]))]) [0] rfl
    refine va_calli (va_runV (As := [.int p2]) (rest := []) ⟨hx, hb, hml, hown, hts⟩ (mz_m_isThing l dC dI cI cJ cZ mo m1 m2 m3 m6 m7 m8 m9 m10 m11 m12 m13 m14 m15 m16 n ka kb p2 s.heap (by first | assumption | omega)) (cwV 1 hts gX8_agrees_X8_isThing rfl rfl rfl (by decide +kernel) ⟨Nat.le_of_ble_eq_true rfl, Nat.le_of_ble_eq_true rfl⟩) ⟨fun a U g mk q => mz_blP q, va_recv hK hPc (ci := 8) (q0 := 0) rfl rfl, fun U hU hW => ⟨rfl, hU, hPc, va_K.moved hW.alike hK, mz_nw hW hN⟩⟩ rfl rfl hl.1 rfl (lv_room (Nat.le_of_ble_eq_true rfl)) dX8_agrees_10 ⟨Nat.le_of_ble_eq_true rfl, Nat.le_of_ble_eq_true rfl⟩) hS (fun q _ h => h.elim) (fun q h => h.elim) (fun r_10 u t H1 locs ht hvm hw_10 hB hz1 hk1 hS => ?_)
    have hE : s.heap = H1 := hB.symm.trans ht
    subst hE
    rcases (show (r_10 = 1 ∧ ∃ j : Nat, j < n ∧ p2 = nI j) ∨ r_10 = 0 from hw_10) with ⟨rfl, j_10, hj_10, he_10⟩ | rfl
    · skip
      subst he_10
      refine lv_if_eq (tgt := 69) hx hb dX8_agrees_13 (by decide) (fun c_13 => absurd c_13 (by decide +kernel)) (fun _ => ?_)
      refine lv_iload_n hx hb dX8_agrees_16 rfl (lv_at hl 1 rfl) ?_
      refine lv_iload_n hx hb dX8_agrees_17 rfl (lv_at hl 2 rfl) ?_
      refine lv_icmp_eq (tgt := 69) hx hb dX8_agrees_18 (by decide) (fun c_18 => ?_) (fun c_18 => ?_)
      · skip
        have d_18 : j_2 = j_10 := (nI_eq (a := j_2) (b := j_10) (by omega) (by omega)).mp c_18
        refine lv_iconst (v := (-1)) hx hb dX8_agrees_69 (by decide +kernel) ?_
        have hP9 := hP.sub (ws' := [(mo, .inr (8, [.int (nI n), .ref m1, .ref m2, .ref m3, .long ka, .long kb, .ref m6, .ref m7, .ref m8, .ref m9, .ref m10, .ref m11, .ref m12, .ref m13, .ref m14, .ref m15, .ref m16])), (m2, .inl (cI, 8, .inl fp)), (m3, .inl (cI, 1024, .inl fb)), (m9, .inl (cJ, 200, .inr (.inl fu))), (m10, .inl (cJ, 200, .inr (.inl fd))), (m11, .inl (cJ, 200, .inr (.inl fh)))]) [0, 1, 2, 3, 4, 5] rfl
        have hD9 := hD.sub (ws' := [(mo, .inr (8, [.int (nI n), .ref m1, .ref m2, .ref m3, .long ka, .long kb, .ref m6, .ref m7, .ref m8, .ref m9, .ref m10, .ref m11, .ref m12, .ref m13, .ref m14, .ref m15, .ref m16])), (m2, .inl (cI, 8, .inl fp)), (m3, .inl (cI, 1024, .inl fb)), (m9, .inl (cJ, 200, .inr (.inl fu))), (m10, .inl (cJ, 200, .inr (.inl fd))), (m11, .inl (cJ, 200, .inr (.inl fh)))]) [0, 1, 2, 3, 4, 5] (by decide) rfl
        refine W.widen (k := 0) (n := 0) (Nat.le_of_ble_eq_true rfl) (Nat.le_of_ble_eq_true rfl) ?_
        exact W.iret (v := (-1)) hx hb hr (fun t ht hW => ⟨⟨(-1), (), rfl, trivial, fu, fd, fh, by rw [ht]; exact hP9, hD9⟩, hS.F ht⟩) hS.2.2 dX8_agrees_70
      · skip
        have d_18 : ¬ j_2 = j_10 := fun h => c_18 ((nI_eq (a := j_2) (b := j_10) (by omega) (by omega)).mpr h)
        refine lv_aload_n hx hb dX8_agrees_21 rfl (lv_at hl 0 rfl) ?_
        refine lv_iload_n hx hb dX8_agrees_22 rfl (lv_at hl 3 rfl) ?_
        have hPc := hP.sub (ws' := [(mo, .inr (8, [.int (nI n), .ref m1, .ref m2, .ref m3, .long ka, .long kb, .ref m6, .ref m7, .ref m8, .ref m9, .ref m10, .ref m11, .ref m12, .ref m13, .ref m14, .ref m15, .ref m16]))]) [0] rfl
        refine va_calli (va_runV (As := [.int p3]) (rest := []) ⟨hx, hb, hml, hown, hts⟩ (mz_m_isHeap l dC dI cI cJ cZ mo m1 m2 m3 m6 m7 m8 m9 m10 m11 m12 m13 m14 m15 m16 n ka kb p3 s.heap (by first | assumption | omega)) (cwV 1 hts gX8_agrees_X8_isHeap rfl rfl rfl (by decide +kernel) ⟨Nat.le_of_ble_eq_true rfl, Nat.le_of_ble_eq_true rfl⟩) ⟨fun a U g mk q => mz_blP q, va_recv hK hPc (ci := 8) (q0 := 0) rfl rfl, fun U hU hW => ⟨rfl, hU, hPc, va_K.moved hW.alike hK, mz_nw hW hN⟩⟩ rfl rfl hl.1 rfl (lv_room (Nat.le_of_ble_eq_true rfl)) dX8_agrees_23 ⟨Nat.le_of_ble_eq_true rfl, Nat.le_of_ble_eq_true rfl⟩) hS (fun q _ h => h.elim) (fun q h => h.elim) (fun r_23 u t H1 locs ht hvm hw_23 hB hz1 hk1 hS => ?_)
        have hE : s.heap = H1 := hB.symm.trans ht
        subst hE
        refine lv_if_eq (tgt := 69) hx hb dX8_agrees_26 (by decide) (fun c_26 => ?_) (fun c_26 => ?_)
        · skip
          refine lv_iconst (v := (-1)) hx hb dX8_agrees_69 (by decide +kernel) ?_
          have hP9 := hP.sub (ws' := [(mo, .inr (8, [.int (nI n), .ref m1, .ref m2, .ref m3, .long ka, .long kb, .ref m6, .ref m7, .ref m8, .ref m9, .ref m10, .ref m11, .ref m12, .ref m13, .ref m14, .ref m15, .ref m16])), (m2, .inl (cI, 8, .inl fp)), (m3, .inl (cI, 1024, .inl fb)), (m9, .inl (cJ, 200, .inr (.inl fu))), (m10, .inl (cJ, 200, .inr (.inl fd))), (m11, .inl (cJ, 200, .inr (.inl fh)))]) [0, 1, 2, 3, 4, 5] rfl
          have hD9 := hD.sub (ws' := [(mo, .inr (8, [.int (nI n), .ref m1, .ref m2, .ref m3, .long ka, .long kb, .ref m6, .ref m7, .ref m8, .ref m9, .ref m10, .ref m11, .ref m12, .ref m13, .ref m14, .ref m15, .ref m16])), (m2, .inl (cI, 8, .inl fp)), (m3, .inl (cI, 1024, .inl fb)), (m9, .inl (cJ, 200, .inr (.inl fu))), (m10, .inl (cJ, 200, .inr (.inl fd))), (m11, .inl (cJ, 200, .inr (.inl fh)))]) [0, 1, 2, 3, 4, 5] (by decide) rfl
          refine W.widen (k := 0) (n := 0) (Nat.le_of_ble_eq_true rfl) (Nat.le_of_ble_eq_true rfl) ?_
          exact W.iret (v := (-1)) hx hb hr (fun t ht hW => ⟨⟨(-1), (), rfl, trivial, fu, fd, fh, by rw [ht]; exact hP9, hD9⟩, hS.F ht⟩) hS.2.2 dX8_agrees_70
        · skip
          refine lv_iload_n hx hb dX8_agrees_29 rfl (lv_at hl 3 rfl) ?_
          refine lv_iload_n hx hb dX8_agrees_30 rfl (lv_at hl 1 rfl) ?_
          refine lv_ishr hx hb dX8_agrees_31 ?_
          refine lv_topi (fun v_31 ev_31 => ?_)
          refine lv_iconst (v := 1) hx hb dX8_agrees_32 (by decide +kernel) ?_
          refine lv_iand hx hb dX8_agrees_33 ?_
          refine lv_topi (fun v_33 ev_33 => ?_)
          refine lv_iconst (v := 1) hx hb dX8_agrees_34 (by decide +kernel) ?_
          refine lv_icmp_eq (tgt := 69) hx hb dX8_agrees_35 (by decide) (fun c_35 => ?_) (fun c_35 => ?_)
          · skip
            refine lv_iconst (v := (-1)) hx hb dX8_agrees_69 (by decide +kernel) ?_
            have hP9 := hP.sub (ws' := [(mo, .inr (8, [.int (nI n), .ref m1, .ref m2, .ref m3, .long ka, .long kb, .ref m6, .ref m7, .ref m8, .ref m9, .ref m10, .ref m11, .ref m12, .ref m13, .ref m14, .ref m15, .ref m16])), (m2, .inl (cI, 8, .inl fp)), (m3, .inl (cI, 1024, .inl fb)), (m9, .inl (cJ, 200, .inr (.inl fu))), (m10, .inl (cJ, 200, .inr (.inl fd))), (m11, .inl (cJ, 200, .inr (.inl fh)))]) [0, 1, 2, 3, 4, 5] rfl
            have hD9 := hD.sub (ws' := [(mo, .inr (8, [.int (nI n), .ref m1, .ref m2, .ref m3, .long ka, .long kb, .ref m6, .ref m7, .ref m8, .ref m9, .ref m10, .ref m11, .ref m12, .ref m13, .ref m14, .ref m15, .ref m16])), (m2, .inl (cI, 8, .inl fp)), (m3, .inl (cI, 1024, .inl fb)), (m9, .inl (cJ, 200, .inr (.inl fu))), (m10, .inl (cJ, 200, .inr (.inl fd))), (m11, .inl (cJ, 200, .inr (.inl fh)))]) [0, 1, 2, 3, 4, 5] (by decide) rfl
            refine W.widen (k := 0) (n := 0) (Nat.le_of_ble_eq_true rfl) (Nat.le_of_ble_eq_true rfl) ?_
            exact W.iret (v := (-1)) hx hb hr (fun t ht hW => ⟨⟨(-1), (), rfl, trivial, fu, fd, fh, by rw [ht]; exact hP9, hD9⟩, hS.F ht⟩) hS.2.2 dX8_agrees_70
          · skip
            refine lv_iload_n hx hb dX8_agrees_38 rfl (lv_at hl 3 rfl) ?_
            refine lv_iload_n hx hb dX8_agrees_39 rfl (lv_at hl 2 rfl) ?_
            refine lv_ishr hx hb dX8_agrees_40 ?_
            refine lv_topi (fun v_40 ev_40 => ?_)
            refine lv_iconst (v := 1) hx hb dX8_agrees_41 (by decide +kernel) ?_
            refine lv_iand hx hb dX8_agrees_42 ?_
            refine lv_topi (fun v_42 ev_42 => ?_)
            refine lv_iconst (v := 1) hx hb dX8_agrees_43 (by decide +kernel) ?_
            refine lv_icmp_eq (tgt := 69) hx hb dX8_agrees_44 (by decide) (fun c_44 => ?_) (fun c_44 => ?_)
            · skip
              refine lv_iconst (v := (-1)) hx hb dX8_agrees_69 (by decide +kernel) ?_
              have hP9 := hP.sub (ws' := [(mo, .inr (8, [.int (nI n), .ref m1, .ref m2, .ref m3, .long ka, .long kb, .ref m6, .ref m7, .ref m8, .ref m9, .ref m10, .ref m11, .ref m12, .ref m13, .ref m14, .ref m15, .ref m16])), (m2, .inl (cI, 8, .inl fp)), (m3, .inl (cI, 1024, .inl fb)), (m9, .inl (cJ, 200, .inr (.inl fu))), (m10, .inl (cJ, 200, .inr (.inl fd))), (m11, .inl (cJ, 200, .inr (.inl fh)))]) [0, 1, 2, 3, 4, 5] rfl
              have hD9 := hD.sub (ws' := [(mo, .inr (8, [.int (nI n), .ref m1, .ref m2, .ref m3, .long ka, .long kb, .ref m6, .ref m7, .ref m8, .ref m9, .ref m10, .ref m11, .ref m12, .ref m13, .ref m14, .ref m15, .ref m16])), (m2, .inl (cI, 8, .inl fp)), (m3, .inl (cI, 1024, .inl fb)), (m9, .inl (cJ, 200, .inr (.inl fu))), (m10, .inl (cJ, 200, .inr (.inl fd))), (m11, .inl (cJ, 200, .inr (.inl fh)))]) [0, 1, 2, 3, 4, 5] (by decide) rfl
              refine W.widen (k := 0) (n := 0) (Nat.le_of_ble_eq_true rfl) (Nat.le_of_ble_eq_true rfl) ?_
              exact W.iret (v := (-1)) hx hb hr (fun t ht hW => ⟨⟨(-1), (), rfl, trivial, fu, fd, fh, by rw [ht]; exact hP9, hD9⟩, hS.F ht⟩) hS.2.2 dX8_agrees_70
            · skip
              refine lv_iload hx hb dX8_agrees_47 (lv_at hl 4 rfl) ?_
              refine lv_if_lt (tgt := 69) hx hb dX8_agrees_49 (by decide) (fun c_49 => ?_) (fun c_49 => ?_)
              · skip
                refine lv_iconst (v := (-1)) hx hb dX8_agrees_69 (by decide +kernel) ?_
                have hP9 := hP.sub (ws' := [(mo, .inr (8, [.int (nI n), .ref m1, .ref m2, .ref m3, .long ka, .long kb, .ref m6, .ref m7, .ref m8, .ref m9, .ref m10, .ref m11, .ref m12, .ref m13, .ref m14, .ref m15, .ref m16])), (m2, .inl (cI, 8, .inl fp)), (m3, .inl (cI, 1024, .inl fb)), (m9, .inl (cJ, 200, .inr (.inl fu))), (m10, .inl (cJ, 200, .inr (.inl fd))), (m11, .inl (cJ, 200, .inr (.inl fh)))]) [0, 1, 2, 3, 4, 5] rfl
                have hD9 := hD.sub (ws' := [(mo, .inr (8, [.int (nI n), .ref m1, .ref m2, .ref m3, .long ka, .long kb, .ref m6, .ref m7, .ref m8, .ref m9, .ref m10, .ref m11, .ref m12, .ref m13, .ref m14, .ref m15, .ref m16])), (m2, .inl (cI, 8, .inl fp)), (m3, .inl (cI, 1024, .inl fb)), (m9, .inl (cJ, 200, .inr (.inl fu))), (m10, .inl (cJ, 200, .inr (.inl fd))), (m11, .inl (cJ, 200, .inr (.inl fh)))]) [0, 1, 2, 3, 4, 5] (by decide) rfl
                refine W.widen (k := 0) (n := 0) (Nat.le_of_ble_eq_true rfl) (Nat.le_of_ble_eq_true rfl) ?_
                exact W.iret (v := (-1)) hx hb hr (fun t ht hW => ⟨⟨(-1), (), rfl, trivial, fu, fd, fh, by rw [ht]; exact hP9, hD9⟩, hS.F ht⟩) hS.2.2 dX8_agrees_70
              · skip
                refine lv_iload hx hb dX8_agrees_52 (lv_at hl 4 rfl) ?_
                refine lv_iconst (v := 1) hx hb dX8_agrees_54 (by decide +kernel) ?_
                refine lv_icmp_gt (tgt := 69) hx hb dX8_agrees_55 (by decide) (fun c_55 => ?_) (fun c_55 => ?_)
                · skip
                  refine lv_iconst (v := (-1)) hx hb dX8_agrees_69 (by decide +kernel) ?_
                  have hP9 := hP.sub (ws' := [(mo, .inr (8, [.int (nI n), .ref m1, .ref m2, .ref m3, .long ka, .long kb, .ref m6, .ref m7, .ref m8, .ref m9, .ref m10, .ref m11, .ref m12, .ref m13, .ref m14, .ref m15, .ref m16])), (m2, .inl (cI, 8, .inl fp)), (m3, .inl (cI, 1024, .inl fb)), (m9, .inl (cJ, 200, .inr (.inl fu))), (m10, .inl (cJ, 200, .inr (.inl fd))), (m11, .inl (cJ, 200, .inr (.inl fh)))]) [0, 1, 2, 3, 4, 5] rfl
                  have hD9 := hD.sub (ws' := [(mo, .inr (8, [.int (nI n), .ref m1, .ref m2, .ref m3, .long ka, .long kb, .ref m6, .ref m7, .ref m8, .ref m9, .ref m10, .ref m11, .ref m12, .ref m13, .ref m14, .ref m15, .ref m16])), (m2, .inl (cI, 8, .inl fp)), (m3, .inl (cI, 1024, .inl fb)), (m9, .inl (cJ, 200, .inr (.inl fu))), (m10, .inl (cJ, 200, .inr (.inl fd))), (m11, .inl (cJ, 200, .inr (.inl fh)))]) [0, 1, 2, 3, 4, 5] (by decide) rfl
                  refine W.widen (k := 0) (n := 0) (Nat.le_of_ble_eq_true rfl) (Nat.le_of_ble_eq_true rfl) ?_
                  exact W.iret (v := (-1)) hx hb hr (fun t ht hW => ⟨⟨(-1), (), rfl, trivial, fu, fd, fh, by rw [ht]; exact hP9, hD9⟩, hS.F ht⟩) hS.2.2 dX8_agrees_70
                · skip
                  refine lv_iload hx hb dX8_agrees_58 (lv_at hl 5 rfl) ?_
                  refine lv_if_lt (tgt := 69) hx hb dX8_agrees_60 (by decide) (fun c_60 => ?_) (fun c_60 => ?_)
                  · skip
                    refine lv_iconst (v := (-1)) hx hb dX8_agrees_69 (by decide +kernel) ?_
                    have hP9 := hP.sub (ws' := [(mo, .inr (8, [.int (nI n), .ref m1, .ref m2, .ref m3, .long ka, .long kb, .ref m6, .ref m7, .ref m8, .ref m9, .ref m10, .ref m11, .ref m12, .ref m13, .ref m14, .ref m15, .ref m16])), (m2, .inl (cI, 8, .inl fp)), (m3, .inl (cI, 1024, .inl fb)), (m9, .inl (cJ, 200, .inr (.inl fu))), (m10, .inl (cJ, 200, .inr (.inl fd))), (m11, .inl (cJ, 200, .inr (.inl fh)))]) [0, 1, 2, 3, 4, 5] rfl
                    have hD9 := hD.sub (ws' := [(mo, .inr (8, [.int (nI n), .ref m1, .ref m2, .ref m3, .long ka, .long kb, .ref m6, .ref m7, .ref m8, .ref m9, .ref m10, .ref m11, .ref m12, .ref m13, .ref m14, .ref m15, .ref m16])), (m2, .inl (cI, 8, .inl fp)), (m3, .inl (cI, 1024, .inl fb)), (m9, .inl (cJ, 200, .inr (.inl fu))), (m10, .inl (cJ, 200, .inr (.inl fd))), (m11, .inl (cJ, 200, .inr (.inl fh)))]) [0, 1, 2, 3, 4, 5] (by decide) rfl
                    refine W.widen (k := 0) (n := 0) (Nat.le_of_ble_eq_true rfl) (Nat.le_of_ble_eq_true rfl) ?_
                    exact W.iret (v := (-1)) hx hb hr (fun t ht hW => ⟨⟨(-1), (), rfl, trivial, fu, fd, fh, by rw [ht]; exact hP9, hD9⟩, hS.F ht⟩) hS.2.2 dX8_agrees_70
                  · skip
                    refine lv_iload hx hb dX8_agrees_63 (lv_at hl 5 rfl) ?_
                    refine lv_iconst (v := 1) hx hb dX8_agrees_65 (by decide +kernel) ?_
                    refine lv_icmp_le (tgt := 71) hx hb dX8_agrees_66 (by decide) (fun c_66 => ?_) (fun c_66 => ?_)
                    · skip
                      refine lv_aload_n hx hb dX8_agrees_71 rfl (lv_at hl 0 rfl) ?_
                      refine lv_iconst (v := 0) hx hb dX8_agrees_72 (by decide +kernel) ?_
                      refine lv_iload_n hx hb dX8_agrees_73 rfl (lv_at hl 2 rfl) ?_
                      refine lv_iload hx hb dX8_agrees_74 (lv_at hl 5 rfl) ?_
                      have hPc := hP.sub (ws' := []) [] rfl
                      refine va_calli (va_runS (As := [.int 0, .int (nI j_10), .int p5]) (rest := [.ref mo]) ⟨hx, hb, hml, hown, hts⟩ (mz_m_withOne l dC dI cI cJ cZ 0 (nI j_10) p5 s.heap ) (va_cwS 3 hts gX8_agrees_X8_withOne rfl rfl rfl (by decide +kernel) ⟨Nat.le_of_ble_eq_true rfl, Nat.le_of_ble_eq_true rfl⟩) ⟨fun a U g mk q => mz_blP q, fun U hU hW => ⟨rfl, hU, hPc, va_K.moved hW.alike hK, mz_nw hW hN⟩⟩ rfl rfl hl.1 rfl (lv_room (Nat.le_of_ble_eq_true rfl)) dX8_agrees_76 ⟨Nat.le_of_ble_eq_true rfl, Nat.le_of_ble_eq_true rfl⟩) hS (fun q _ h => h.elim) (fun q h => h.elim) (fun r_76 u t H1 locs ht hvm hw_76 hB hz1 hk1 hS => ?_)
                      have hE : s.heap = H1 := hB.symm.trans ht
                      subst hE
                      refine lv_iconst (v := 0) hx hb dX8_agrees_79 (by decide +kernel) ?_
                      refine lv_iload_n hx hb dX8_agrees_80 rfl (lv_at hl 1 rfl) ?_
                      refine lv_iload hx hb dX8_agrees_81 (lv_at hl 4 rfl) ?_
                      have hPc := hP.sub (ws' := []) [] rfl
                      refine va_calli (va_runS (As := [.int 0, .int (nI j_2), .int p4]) (rest := [.int r_76, .ref mo]) ⟨hx, hb, hml, hown, hts⟩ (mz_m_withOne l dC dI cI cJ cZ 0 (nI j_2) p4 s.heap ) (va_cwS 3 hts gX8_agrees_X8_withOne rfl rfl rfl (by decide +kernel) ⟨Nat.le_of_ble_eq_true rfl, Nat.le_of_ble_eq_true rfl⟩) ⟨fun a U g mk q => mz_blP q, fun U hU hW => ⟨rfl, hU, hPc, va_K.moved hW.alike hK, mz_nw hW hN⟩⟩ rfl rfl hl.1 rfl (lv_room (Nat.le_of_ble_eq_true rfl)) dX8_agrees_83 ⟨Nat.le_of_ble_eq_true rfl, Nat.le_of_ble_eq_true rfl⟩) hS (fun q _ h => h.elim) (fun q h => h.elim) (fun r_83 u t H1 locs ht hvm hw_83 hB hz1 hk1 hS => ?_)
                      have hE : s.heap = H1 := hB.symm.trans ht
                      subst hE
                      have hPc := hP.sub (ws' := [(mo, .inr (8, [.int (nI n), .ref m1, .ref m2, .ref m3, .long ka, .long kb, .ref m6, .ref m7, .ref m8, .ref m9, .ref m10, .ref m11, .ref m12, .ref m13, .ref m14, .ref m15, .ref m16])), (m2, .inl (cI, 8, .inl fp)), (m3, .inl (cI, 1024, .inl fb))]) [0, 1, 2] rfl
                      refine va_calll (va_runV (As := [.int r_76, .int r_83]) (rest := []) ⟨hx, hb, hml, hown, hts⟩ (mz_m_sum l dC dI cI cJ cZ mo m1 m2 m3 m6 m7 m8 m9 m10 m11 m12 m13 m14 m15 m16 n ka kb fp fb r_76 r_83 s.heap (by first | assumption | omega) (by first | assumption | omega)) (cwV 2 hts gX8_agrees_X8_sum rfl rfl rfl (by decide +kernel) ⟨Nat.le_of_ble_eq_true rfl, Nat.le_of_ble_eq_true rfl⟩) ⟨fun a U g mk q => mz_blP q, va_recv hK hPc (ci := 8) (q0 := 0) rfl rfl, fun U hU hW => ⟨rfl, hU, hPc, va_K.moved hW.alike hK, mz_nw hW hN⟩⟩ rfl rfl hl.1 rfl (lv_room (Nat.le_of_ble_eq_true rfl)) dX8_agrees_86 ⟨Nat.le_of_ble_eq_true rfl, Nat.le_of_ble_eq_true rfl⟩) hS (fun q _ h => h.elim) (fun q h => h.elim) (fun r_86 u t H1 locs ht hvm hw_86 hB hz1 hk1 hS => ?_)
                      have hE : s.heap = H1 := hB.symm.trans ht
                      subst hE
                      refine lv_lstore (lv' := [(6, .long r_86), (0, .ref mo), (1, .int (nI j_2)), (2, .int (nI j_10)), (3, .int p3), (4, .int p4), (5, .int p5)]) hx hb dX8_agrees_89 hl (by decide) rfl (fun ls hl => ?_)
                      refine lv_lconst (v := 0) hx hb dX8_agrees_91 (by decide +kernel) ?_
                      refine lv_lstore (lv' := [(8, .long 0), (6, .long r_86), (0, .ref mo), (1, .int (nI j_2)), (2, .int (nI j_10)), (3, .int p3), (4, .int p4), (5, .int p5)]) hx hb dX8_agrees_92 hl (by decide) rfl (fun ls hl => ?_)
                      refine lv_iconst (v := 0) hx hb dX8_agrees_94 (by decide +kernel) ?_
                      refine lv_istore (lv' := [(10, .int 0), (8, .long 0), (6, .long r_86), (0, .ref mo), (1, .int (nI j_2)), (2, .int (nI j_10)), (3, .int p3), (4, .int p4), (5, .int p5)]) hx hb dX8_agrees_95 hl (by decide) rfl (fun ls hl => ?_)
                      refine mz_loopU (fun k H locs ls => ∃ (i_97 : Nat), ∃ (fm9_97 : Nat → Int64), ∃ (fm10_97 : Nat → Int64), i_97 ≤ 200 ∧ va_P (dC, dI) vwCl [(mo, .inr (8, [.int (nI n), .ref m1, .ref m2, .ref m3, .long ka, .long kb, .ref m6, .ref m7, .ref m8, .ref m9, .ref m10, .ref m11, .ref m12, .ref m13, .ref m14, .ref m15, .ref m16])), (m2, .inl (cI, 8, .inl fp)), (m3, .inl (cI, 1024, .inl fb)), (m9, .inl (cJ, 200, .inr (.inl fm9_97))), (m10, .inl (cJ, 200, .inr (.inl fm10_97))), (m11, .inl (cJ, 200, .inr (.inl fh)))] H ∧ va_D A [(mo, .inr (8, [.int (nI n), .ref m1, .ref m2, .ref m3, .long ka, .long kb, .ref m6, .ref m7, .ref m8, .ref m9, .ref m10, .ref m11, .ref m12, .ref m13, .ref m14, .ref m15, .ref m16])), (m2, .inl (cI, 8, .inl fp)), (m3, .inl (cI, 1024, .inl fb)), (m9, .inl (cJ, 200, .inr (.inl fm9_97))), (m10, .inl (cJ, 200, .inr (.inl fm10_97))), (m11, .inl (cJ, 200, .inr (.inl fh)))] ∧ va_S A s.heap H locs ∧ lv_has ls 24 [(10, .int (nI i_97)), (8, .long 0), (6, .long r_86), (0, .ref mo), (1, .int (nI j_2)), (2, .int (nI j_10)), (3, .int p3), (4, .int p4), (5, .int p5)] ∧ k = 200 - i_97) ?_ _ _ _ _ ⟨0, fu, fd, by omega, hP, hD, hS, lv_sub hl [0, 1, 2, 3, 4, 5, 6, 7, 8] rfl, rfl⟩
                      intro k_97 H locs ls hI_97 ih_97
                      obtain ⟨i_97, fm9_97, fm10_97, hi_97, hP, hD, hS, hl, hk_97⟩ := hI_97
                      refine lv_iload hx hb dX8_agrees_97 (lv_at hl 0 rfl) ?_
                      refine lv_sipush (v := 200) hx hb dX8_agrees_99 (by decide +kernel) ?_
                      refine lv_icmp_ge (tgt := 127) hx hb dX8_agrees_102 (by decide) (fun c_102 => ?_) (fun c_102 => ?_)
                      · skip
                        have d_102 : 200 ≤ i_97 := (nI_leI (a := 200) (b := i_97) (by omega) (by omega)).mp c_102
                        refine lv_aload_n hx hb dX8_agrees_127 rfl (lv_at hl 3 rfl) ?_
                        refine va_get (D := (dC, dI)) (ci := 8) (v := .ref m10) (C := RX8) (T := TX8) (N := 17) hx hb hts hiX8 hown hK hP 0 rfl rfl 10 (by decide) (hts (.fieldLink RX8 37 "MadeItSoModel" "down" "[J") (by decide +kernel)) (fun _ h9 => h9) rfl dX8_agrees_128 ?_
                        refine lv_iconst (v := 0) hx hb dX8_agrees_131 (by decide +kernel) ?_
                        refine lv_lconst (v := 1) hx hb dX8_agrees_132 (by decide +kernel) ?_
                        refine va_last hx hb hK hP hD hS 4 1 rfl rfl (mz_in (by decide +kernel)) dX8_agrees_133 (fun H locs hP hD hS => ?_)
                        have hP : va_P (dC, dI) vwCl [(mo, .inr (8, [.int (nI n), .ref m1, .ref m2, .ref m3, .long ka, .long kb, .ref m6, .ref m7, .ref m8, .ref m9, .ref m10, .ref m11, .ref m12, .ref m13, .ref m14, .ref m15, .ref m16])), (m2, .inl (cI, 8, .inl fp)), (m3, .inl (cI, 1024, .inl fb)), (m9, .inl (cJ, 200, .inr (.inl fm9_97))), (m10, .inl (cJ, 200, .inr (.inl (vp_updL fm10_97 (0 : Int32).toNatClampNeg 1)))), (m11, .inl (cJ, 200, .inr (.inl fh)))] H := hP
                        have hD : va_D A [(mo, .inr (8, [.int (nI n), .ref m1, .ref m2, .ref m3, .long ka, .long kb, .ref m6, .ref m7, .ref m8, .ref m9, .ref m10, .ref m11, .ref m12, .ref m13, .ref m14, .ref m15, .ref m16])), (m2, .inl (cI, 8, .inl fp)), (m3, .inl (cI, 1024, .inl fb)), (m9, .inl (cJ, 200, .inr (.inl fm9_97))), (m10, .inl (cJ, 200, .inr (.inl (vp_updL fm10_97 (0 : Int32).toNatClampNeg 1)))), (m11, .inl (cJ, 200, .inr (.inl fh)))] := hD
                        generalize (vp_updL fm10_97 (0 : Int32).toNatClampNeg 1) = f_133 at hP hD
                        refine lv_iconst (v := 0) hx hb dX8_agrees_134 (by decide +kernel) ?_
                        refine lv_istore (lv' := [(10, .int 0), (8, .long 0), (6, .long r_86), (0, .ref mo), (1, .int (nI j_2)), (2, .int (nI j_10)), (3, .int p3), (4, .int p4), (5, .int p5)]) hx hb dX8_agrees_135 hl (by decide) rfl (fun ls hl => ?_)
                        refine mz_loopU (fun k H locs ls => ∃ (i_137 : Nat), ∃ (x8_137 : Int64), ∃ (fm9_137 : Nat → Int64), ∃ (fm10_137 : Nat → Int64), ∃ (fm11_137 : Nat → Int64), i_137 ≤ 256 ∧ va_P (dC, dI) vwCl [(mo, .inr (8, [.int (nI n), .ref m1, .ref m2, .ref m3, .long ka, .long kb, .ref m6, .ref m7, .ref m8, .ref m9, .ref m10, .ref m11, .ref m12, .ref m13, .ref m14, .ref m15, .ref m16])), (m2, .inl (cI, 8, .inl fp)), (m3, .inl (cI, 1024, .inl fb)), (m9, .inl (cJ, 200, .inr (.inl fm9_137))), (m10, .inl (cJ, 200, .inr (.inl fm10_137))), (m11, .inl (cJ, 200, .inr (.inl fm11_137)))] H ∧ va_D A [(mo, .inr (8, [.int (nI n), .ref m1, .ref m2, .ref m3, .long ka, .long kb, .ref m6, .ref m7, .ref m8, .ref m9, .ref m10, .ref m11, .ref m12, .ref m13, .ref m14, .ref m15, .ref m16])), (m2, .inl (cI, 8, .inl fp)), (m3, .inl (cI, 1024, .inl fb)), (m9, .inl (cJ, 200, .inr (.inl fm9_137))), (m10, .inl (cJ, 200, .inr (.inl fm10_137))), (m11, .inl (cJ, 200, .inr (.inl fm11_137)))] ∧ va_S A s.heap H locs ∧ lv_has ls 24 [(10, .int (nI i_137)), (8, .long x8_137), (6, .long r_86), (0, .ref mo), (1, .int (nI j_2)), (2, .int (nI j_10)), (3, .int p3), (4, .int p4), (5, .int p5)] ∧ k = 256 - i_137) ?_ _ _ _ _ ⟨0, 0, fm9_97, f_133, fh, by omega, hP, hD, hS, lv_sub hl [0, 1, 2, 3, 4, 5, 6, 7, 8] rfl, rfl⟩
                        intro k_137 H locs ls hI_137 ih_137
                        obtain ⟨i_137, x8_137, fm9_137, fm10_137, fm11_137, hi_137, hP, hD, hS, hl, hk_137⟩ := hI_137
                        refine lv_iload hx hb dX8_agrees_137 (lv_at hl 0 rfl) ?_
                        refine lv_sipush (v := 256) hx hb dX8_agrees_139 (by decide +kernel) ?_
                        refine lv_icmp_ge (tgt := 390) hx hb dX8_agrees_142 (by decide) (fun c_142 => ?_) (fun c_142 => ?_)
                        · skip
                          have d_142 : 256 ≤ i_137 := (nI_leI (a := 256) (b := i_137) (by omega) (by omega)).mp c_142
                          refine lv_lload hx hb dX8_agrees_390 (lv_at hl 1 rfl) ?_
                          refine lv_lload hx hb dX8_agrees_392 (lv_at hl 2 rfl) ?_
                          refine W.lcmp hx hb dX8_agrees_394 ?_
                          refine lv_if_gt (tgt := 410) hx hb dX8_agrees_395 (by decide) (fun c_395 => ?_) (fun c_395 => ?_)
                          · skip
                            refine lv_iconst (v := 0) hx hb dX8_agrees_410 (by decide +kernel) ?_
                            have hP9 := hP.sub (ws' := [(mo, .inr (8, [.int (nI n), .ref m1, .ref m2, .ref m3, .long ka, .long kb, .ref m6, .ref m7, .ref m8, .ref m9, .ref m10, .ref m11, .ref m12, .ref m13, .ref m14, .ref m15, .ref m16])), (m2, .inl (cI, 8, .inl fp)), (m3, .inl (cI, 1024, .inl fb)), (m9, .inl (cJ, 200, .inr (.inl fm9_137))), (m10, .inl (cJ, 200, .inr (.inl fm10_137))), (m11, .inl (cJ, 200, .inr (.inl fm11_137)))]) [0, 1, 2, 3, 4, 5] rfl
                            have hD9 := hD.sub (ws' := [(mo, .inr (8, [.int (nI n), .ref m1, .ref m2, .ref m3, .long ka, .long kb, .ref m6, .ref m7, .ref m8, .ref m9, .ref m10, .ref m11, .ref m12, .ref m13, .ref m14, .ref m15, .ref m16])), (m2, .inl (cI, 8, .inl fp)), (m3, .inl (cI, 1024, .inl fb)), (m9, .inl (cJ, 200, .inr (.inl fm9_137))), (m10, .inl (cJ, 200, .inr (.inl fm10_137))), (m11, .inl (cJ, 200, .inr (.inl fm11_137)))]) [0, 1, 2, 3, 4, 5] (by decide) rfl
                            refine W.widen (k := 0) (n := 0) (Nat.le_of_ble_eq_true rfl) (Nat.le_of_ble_eq_true rfl) ?_
                            exact W.iret (v := 0) hx hb hr (fun t ht hW => ⟨⟨0, (), rfl, trivial, fm9_137, fm10_137, fm11_137, by rw [ht]; exact hP9, hD9⟩, hS.F ht⟩) hS.2.2 dX8_agrees_411
                          · skip
                            refine lv_lload hx hb dX8_agrees_398 (lv_at hl 2 rfl) ?_
                            refine lv_lload hx hb dX8_agrees_400 (lv_at hl 1 rfl) ?_
                            refine lv_lsub hx hb dX8_agrees_402 ?_
                            refine lv_topl (fun v_402 ev_402 => ?_)
                            refine lv_ldc2 hx hb hown (hts (.constantLong RX8 159 (256)) (by decide +kernel)) dX8_agrees_403 ?_
                            refine W.lcmp hx hb dX8_agrees_406 ?_
                            refine lv_if_le (tgt := 412) hx hb dX8_agrees_407 (by decide) (fun c_407 => ?_) (fun c_407 => ?_)
                            · skip
                              refine lv_aload_n hx hb dX8_agrees_412 rfl (lv_at hl 3 rfl) ?_
                              refine lv_aload_n hx hb dX8_agrees_413 rfl (lv_at hl 3 rfl) ?_
                              refine va_get (D := (dC, dI)) (ci := 8) (v := .ref m10) (C := RX8) (T := TX8) (N := 17) hx hb hts hiX8 hown hK hP 0 rfl rfl 10 (by decide) (hts (.fieldLink RX8 37 "MadeItSoModel" "down" "[J") (by decide +kernel)) (fun _ h9 => h9) rfl dX8_agrees_414 ?_
                              refine lv_lload hx hb dX8_agrees_417 (lv_at hl 2 rfl) ?_
                              refine lv_lload hx hb dX8_agrees_419 (lv_at hl 1 rfl) ?_
                              refine lv_lsub hx hb dX8_agrees_421 ?_
                              refine lv_topl (fun v_421 ev_421 => ?_)
                              have hPc := hP.sub (ws' := [(mo, .inr (8, [.int (nI n), .ref m1, .ref m2, .ref m3, .long ka, .long kb, .ref m6, .ref m7, .ref m8, .ref m9, .ref m10, .ref m11, .ref m12, .ref m13, .ref m14, .ref m15, .ref m16])), (m11, .inl (cJ, 200, .inr (.inl fm11_137))), (m10, .inl (cJ, 200, .inr (.inl fm10_137)))]) [0, 5, 4] rfl
                              have hDc := hD.sub (ws' := [(mo, .inr (8, [.int (nI n), .ref m1, .ref m2, .ref m3, .long ka, .long kb, .ref m6, .ref m7, .ref m8, .ref m9, .ref m10, .ref m11, .ref m12, .ref m13, .ref m14, .ref m15, .ref m16])), (m11, .inl (cJ, 200, .inr (.inl fm11_137))), (m10, .inl (cJ, 200, .inr (.inl fm10_137)))]) [0, 5, 4] (by decide) rfl
                              have hFc := va_free (wc := [(mo, .inr (8, [.int (nI n), .ref m1, .ref m2, .ref m3, .long ka, .long kb, .ref m6, .ref m7, .ref m8, .ref m9, .ref m10, .ref m11, .ref m12, .ref m13, .ref m14, .ref m15, .ref m16])), (m11, .inl (cJ, 200, .inr (.inl fm11_137))), (m10, .inl (cJ, 200, .inr (.inl fm10_137)))]) hD hS hA [0, 5, 4] rfl
                              refine va_callv (va_runV (As := [.ref m10, .long v_421]) (rest := []) ⟨hx, hb, hml, hown, hts⟩ (mz_m_times_down l dC dI cI cJ cZ mo m1 m2 m3 m6 m7 m8 m9 m10 m11 m12 m13 m14 m15 m16 n ka kb fm11_137 fm10_137 v_421 H.size ) (cwV 2 hts gX8_agrees_X8_times rfl rfl rfl (by decide +kernel) ⟨Nat.le_of_ble_eq_true rfl, Nat.le_of_ble_eq_true rfl⟩) ⟨fun a U g mk q => mz_blI q, va_recv hK hPc (ci := 8) (q0 := 0) rfl rfl, fun U hU hW => ⟨rfl, by rw [hU], by rw [hU]; exact hPc, va_K.moved hW.alike hK, hDc.weaken (fun _ _ _ _ => trivial), mz_nw hW hN⟩⟩ rfl rfl hl.1 rfl (lv_room (Nat.le_of_ble_eq_true rfl)) dX8_agrees_422 ⟨Nat.le_of_ble_eq_true rfl, Nat.le_of_ble_eq_true rfl⟩) hS (fun q _ h => hFc q h) hFc (fun u t H1 locs ht hvm hw_422 hB hz1 hk1 hS => ?_)
                              obtain ⟨gh_422, hP1, hD1⟩ := hB
                              rw [ht] at hP1
                              obtain ⟨hP, hD⟩ := va_join (wr := [(m2, .inl (cI, 8, .inl fp)), (m3, .inl (cI, 1024, .inl fb)), (m9, .inl (cJ, 200, .inr (.inl fm9_137)))]) (w1 := [(mo, .inr (8, [.int (nI n), .ref m1, .ref m2, .ref m3, .long ka, .long kb, .ref m6, .ref m7, .ref m8, .ref m9, .ref m10, .ref m11, .ref m12, .ref m13, .ref m14, .ref m15, .ref m16])), (m11, .inl (cJ, 200, .inr (.inl gh_422))), (m10, .inl (cJ, 200, .inr (.inl fm10_137)))]) hP hD [0, 5, 4] [1, 2, 3] rfl rfl (by decide) (by decide) hk1 hFc hP1 hD1
                              generalize H1 = H at hP hS ⊢
                              have hP : va_P (dC, dI) vwCl [(m2, .inl (cI, 8, .inl fp)), (m3, .inl (cI, 1024, .inl fb)), (m9, .inl (cJ, 200, .inr (.inl fm9_137))), (mo, .inr (8, [.int (nI n), .ref m1, .ref m2, .ref m3, .long ka, .long kb, .ref m6, .ref m7, .ref m8, .ref m9, .ref m10, .ref m11, .ref m12, .ref m13, .ref m14, .ref m15, .ref m16])), (m11, .inl (cJ, 200, .inr (.inl gh_422))), (m10, .inl (cJ, 200, .inr (.inl fm10_137)))] H := hP
                              have hD : va_D A [(m2, .inl (cI, 8, .inl fp)), (m3, .inl (cI, 1024, .inl fb)), (m9, .inl (cJ, 200, .inr (.inl fm9_137))), (mo, .inr (8, [.int (nI n), .ref m1, .ref m2, .ref m3, .long ka, .long kb, .ref m6, .ref m7, .ref m8, .ref m9, .ref m10, .ref m11, .ref m12, .ref m13, .ref m14, .ref m15, .ref m16])), (m11, .inl (cJ, 200, .inr (.inl gh_422))), (m10, .inl (cJ, 200, .inr (.inl fm10_137)))] := hD
                              refine lv_iconst (v := 0) hx hb dX8_agrees_425 (by decide +kernel) ?_
                              refine lv_istore (lv' := [(10, .int 0), (8, .long x8_137), (6, .long r_86), (0, .ref mo), (1, .int (nI j_2)), (2, .int (nI j_10)), (3, .int p3), (4, .int p4), (5, .int p5)]) hx hb dX8_agrees_426 hl (by decide) rfl (fun ls hl => ?_)
                              refine mz_loopU (fun k H locs ls => ∃ (i_428 : Nat), i_428 ≤ 200 ∧ va_P (dC, dI) vwCl [(m2, .inl (cI, 8, .inl fp)), (m3, .inl (cI, 1024, .inl fb)), (m9, .inl (cJ, 200, .inr (.inl fm9_137))), (mo, .inr (8, [.int (nI n), .ref m1, .ref m2, .ref m3, .long ka, .long kb, .ref m6, .ref m7, .ref m8, .ref m9, .ref m10, .ref m11, .ref m12, .ref m13, .ref m14, .ref m15, .ref m16])), (m11, .inl (cJ, 200, .inr (.inl gh_422))), (m10, .inl (cJ, 200, .inr (.inl fm10_137)))] H ∧ va_D A [(m2, .inl (cI, 8, .inl fp)), (m3, .inl (cI, 1024, .inl fb)), (m9, .inl (cJ, 200, .inr (.inl fm9_137))), (mo, .inr (8, [.int (nI n), .ref m1, .ref m2, .ref m3, .long ka, .long kb, .ref m6, .ref m7, .ref m8, .ref m9, .ref m10, .ref m11, .ref m12, .ref m13, .ref m14, .ref m15, .ref m16])), (m11, .inl (cJ, 200, .inr (.inl gh_422))), (m10, .inl (cJ, 200, .inr (.inl fm10_137)))] ∧ va_S A s.heap H locs ∧ lv_has ls 24 [(10, .int (nI i_428)), (8, .long x8_137), (6, .long r_86), (0, .ref mo), (1, .int (nI j_2)), (2, .int (nI j_10)), (3, .int p3), (4, .int p4), (5, .int p5)] ∧ k = 200 - i_428) ?_ _ _ _ _ ⟨0, by omega, hP, hD, hS, lv_sub hl [0, 1, 2, 3, 4, 5, 6, 7, 8] rfl, rfl⟩
                              intro k_428 H locs ls hI_428 ih_428
                              obtain ⟨i_428, hi_428, hP, hD, hS, hl, hk_428⟩ := hI_428
                              refine lv_iload hx hb dX8_agrees_428 (lv_at hl 0 rfl) ?_
                              refine lv_sipush (v := 200) hx hb dX8_agrees_430 (by decide +kernel) ?_
                              refine lv_icmp_ge (tgt := 462) hx hb dX8_agrees_433 (by decide) (fun c_433 => ?_) (fun c_433 => ?_)
                              · skip
                                have d_433 : 200 ≤ i_428 := (nI_leI (a := 200) (b := i_428) (by omega) (by omega)).mp c_433
                                refine lv_iconst (v := 1) hx hb dX8_agrees_462 (by decide +kernel) ?_
                                have hP9 := hP.sub (ws' := [(mo, .inr (8, [.int (nI n), .ref m1, .ref m2, .ref m3, .long ka, .long kb, .ref m6, .ref m7, .ref m8, .ref m9, .ref m10, .ref m11, .ref m12, .ref m13, .ref m14, .ref m15, .ref m16])), (m2, .inl (cI, 8, .inl fp)), (m3, .inl (cI, 1024, .inl fb)), (m9, .inl (cJ, 200, .inr (.inl fm9_137))), (m10, .inl (cJ, 200, .inr (.inl fm10_137))), (m11, .inl (cJ, 200, .inr (.inl gh_422)))]) [3, 0, 1, 2, 5, 4] rfl
                                have hD9 := hD.sub (ws' := [(mo, .inr (8, [.int (nI n), .ref m1, .ref m2, .ref m3, .long ka, .long kb, .ref m6, .ref m7, .ref m8, .ref m9, .ref m10, .ref m11, .ref m12, .ref m13, .ref m14, .ref m15, .ref m16])), (m2, .inl (cI, 8, .inl fp)), (m3, .inl (cI, 1024, .inl fb)), (m9, .inl (cJ, 200, .inr (.inl fm9_137))), (m10, .inl (cJ, 200, .inr (.inl fm10_137))), (m11, .inl (cJ, 200, .inr (.inl gh_422)))]) [3, 0, 1, 2, 5, 4] (by decide) rfl
                                refine W.widen (k := 0) (n := 0) (Nat.le_of_ble_eq_true rfl) (Nat.le_of_ble_eq_true rfl) ?_
                                exact W.iret (v := 1) hx hb hr (fun t ht hW => ⟨⟨1, (), rfl, trivial, fm9_137, fm10_137, gh_422, by rw [ht]; exact hP9, hD9⟩, hS.F ht⟩) hS.2.2 dX8_agrees_463
                              · skip
                                have d_433 : ¬ 200 ≤ i_428 := fun h => c_433 ((nI_leI (a := 200) (b := i_428) (by omega) (by omega)).mpr h)
                                refine lv_aload_n hx hb dX8_agrees_436 rfl (lv_at hl 3 rfl) ?_
                                refine va_get (D := (dC, dI)) (ci := 8) (v := .ref m11) (C := RX8) (T := TX8) (N := 17) hx hb hts hiX8 hown hK hP 3 rfl rfl 11 (by decide) (hts (.fieldLink RX8 40 "MadeItSoModel" "helper" "[J") (by decide +kernel)) (fun _ h9 => h9) rfl dX8_agrees_437 ?_
                                refine lv_iload hx hb dX8_agrees_440 (lv_at hl 0 rfl) ?_
                                refine va_lald hx hb hK hP 4 1 rfl rfl (vp_in_nI (by omega) (by omega)) dX8_agrees_442 ?_
                                refine lv_topl (fun v_442 ev_442 => ?_)
                                refine lv_aload_n hx hb dX8_agrees_443 rfl (lv_at hl 3 rfl) ?_
                                refine va_get (D := (dC, dI)) (ci := 8) (v := .ref m9) (C := RX8) (T := TX8) (N := 17) hx hb hts hiX8 hown hK hP 3 rfl rfl 9 (by decide) (hts (.fieldLink RX8 33 "MadeItSoModel" "up" "[J") (by decide +kernel)) (fun _ h9 => h9) rfl dX8_agrees_444 ?_
                                refine lv_iload hx hb dX8_agrees_447 (lv_at hl 0 rfl) ?_
                                refine va_lald hx hb hK hP 2 1 rfl rfl (vp_in_nI (by omega) (by omega)) dX8_agrees_449 ?_
                                refine lv_topl (fun v_449 ev_449 => ?_)
                                refine W.lcmp hx hb dX8_agrees_450 ?_
                                refine lv_if_eq (tgt := 456) hx hb dX8_agrees_451 (by decide) (fun c_451 => ?_) (fun c_451 => ?_)
                                · skip
                                  have d_451 := mz_lc1 c_451
                                  refine lv_iinc (v := (nI (i_428 + 1))) (lv' := [(10, .int (nI (i_428 + 1))), (8, .long x8_137), (6, .long r_86), (0, .ref mo), (1, .int (nI j_2)), (2, .int (nI j_10)), (3, .int p3), (4, .int p4), (5, .int p5)]) hx hb dX8_agrees_456 hl (k := 0) rfl (nI_1 _) (by decide) rfl (fun ls hl => ?_)
                                  refine lv_goto (tgt := 428) hx hb dX8_agrees_459 (by decide) ?_
                                  exact ih_428 _ (by omega) _ _ _ ⟨(i_428 + 1), by omega, hP, hD, hS, lv_sub hl [0, 1, 2, 3, 4, 5, 6, 7, 8] rfl, rfl⟩
                                · skip
                                  have d_451 := mz_lc0 c_451
                                  refine lv_iconst (v := 0) hx hb dX8_agrees_454 (by decide +kernel) ?_
                                  have hP9 := hP.sub (ws' := [(mo, .inr (8, [.int (nI n), .ref m1, .ref m2, .ref m3, .long ka, .long kb, .ref m6, .ref m7, .ref m8, .ref m9, .ref m10, .ref m11, .ref m12, .ref m13, .ref m14, .ref m15, .ref m16])), (m2, .inl (cI, 8, .inl fp)), (m3, .inl (cI, 1024, .inl fb)), (m9, .inl (cJ, 200, .inr (.inl fm9_137))), (m10, .inl (cJ, 200, .inr (.inl fm10_137))), (m11, .inl (cJ, 200, .inr (.inl gh_422)))]) [3, 0, 1, 2, 5, 4] rfl
                                  have hD9 := hD.sub (ws' := [(mo, .inr (8, [.int (nI n), .ref m1, .ref m2, .ref m3, .long ka, .long kb, .ref m6, .ref m7, .ref m8, .ref m9, .ref m10, .ref m11, .ref m12, .ref m13, .ref m14, .ref m15, .ref m16])), (m2, .inl (cI, 8, .inl fp)), (m3, .inl (cI, 1024, .inl fb)), (m9, .inl (cJ, 200, .inr (.inl fm9_137))), (m10, .inl (cJ, 200, .inr (.inl fm10_137))), (m11, .inl (cJ, 200, .inr (.inl gh_422)))]) [3, 0, 1, 2, 5, 4] (by decide) rfl
                                  refine W.widen (k := 0) (n := 0) (Nat.le_of_ble_eq_true rfl) (Nat.le_of_ble_eq_true rfl) ?_
                                  exact W.iret (v := 0) hx hb hr (fun t ht hW => ⟨⟨0, (), rfl, trivial, fm9_137, fm10_137, gh_422, by rw [ht]; exact hP9, hD9⟩, hS.F ht⟩) hS.2.2 dX8_agrees_455
                            · skip
                              refine lv_iconst (v := 0) hx hb dX8_agrees_410 (by decide +kernel) ?_
                              have hP9 := hP.sub (ws' := [(mo, .inr (8, [.int (nI n), .ref m1, .ref m2, .ref m3, .long ka, .long kb, .ref m6, .ref m7, .ref m8, .ref m9, .ref m10, .ref m11, .ref m12, .ref m13, .ref m14, .ref m15, .ref m16])), (m2, .inl (cI, 8, .inl fp)), (m3, .inl (cI, 1024, .inl fb)), (m9, .inl (cJ, 200, .inr (.inl fm9_137))), (m10, .inl (cJ, 200, .inr (.inl fm10_137))), (m11, .inl (cJ, 200, .inr (.inl fm11_137)))]) [0, 1, 2, 3, 4, 5] rfl
                              have hD9 := hD.sub (ws' := [(mo, .inr (8, [.int (nI n), .ref m1, .ref m2, .ref m3, .long ka, .long kb, .ref m6, .ref m7, .ref m8, .ref m9, .ref m10, .ref m11, .ref m12, .ref m13, .ref m14, .ref m15, .ref m16])), (m2, .inl (cI, 8, .inl fp)), (m3, .inl (cI, 1024, .inl fb)), (m9, .inl (cJ, 200, .inr (.inl fm9_137))), (m10, .inl (cJ, 200, .inr (.inl fm10_137))), (m11, .inl (cJ, 200, .inr (.inl fm11_137)))]) [0, 1, 2, 3, 4, 5] (by decide) rfl
                              refine W.widen (k := 0) (n := 0) (Nat.le_of_ble_eq_true rfl) (Nat.le_of_ble_eq_true rfl) ?_
                              exact W.iret (v := 0) hx hb hr (fun t ht hW => ⟨⟨0, (), rfl, trivial, fm9_137, fm10_137, fm11_137, by rw [ht]; exact hP9, hD9⟩, hS.F ht⟩) hS.2.2 dX8_agrees_411
                        · skip
                          have d_142 : ¬ 256 ≤ i_137 := fun h => c_142 ((nI_leI (a := 256) (b := i_137) (by omega) (by omega)).mpr h)
                          refine lv_iload hx hb dX8_agrees_145 (lv_at hl 0 rfl) ?_
                          refine lv_iload_n hx hb dX8_agrees_147 rfl (lv_at hl 6 rfl) ?_
                          refine lv_iconst (v := (-1)) hx hb dX8_agrees_148 (by decide +kernel) ?_
                          refine lv_ixor hx hb dX8_agrees_149 ?_
                          refine lv_topi (fun v_149 ev_149 => ?_)
                          refine lv_iand hx hb dX8_agrees_150 ?_
                          refine lv_topi (fun v_150 ev_150 => ?_)
                          refine lv_if_eq (tgt := 157) hx hb dX8_agrees_151 (by decide) (fun c_151 => ?_) (fun c_151 => ?_)
                          · skip
                            refine lv_iload_n hx hb dX8_agrees_157 rfl (lv_at hl 6 rfl) ?_
                            refine lv_iload hx hb dX8_agrees_158 (lv_at hl 0 rfl) ?_
                            refine lv_bipush (v := 8) hx hb dX8_agrees_160 (by decide +kernel) ?_
                            refine lv_ishl hx hb dX8_agrees_162 ?_
                            refine lv_topi (fun v_162 ev_162 => ?_)
                            refine lv_ior hx hb dX8_agrees_163 ?_
                            refine lv_topi (fun v_163 ev_163 => ?_)
                            refine lv_istore (lv' := [(11, .int v_163), (10, .int (nI i_137)), (8, .long x8_137), (6, .long r_86), (0, .ref mo), (1, .int (nI j_2)), (2, .int (nI j_10)), (3, .int p3), (4, .int p4), (5, .int p5)]) hx hb dX8_agrees_164 hl (by decide) rfl (fun ls hl => ?_)
                            refine lv_aload_n hx hb dX8_agrees_166 rfl (lv_at hl 4 rfl) ?_
                            refine lv_iload hx hb dX8_agrees_167 (lv_at hl 0 rfl) ?_
                            refine lv_iconst (v := 0) hx hb dX8_agrees_169 (by decide +kernel) ?_
                            have hPc := hP.sub (ws' := [(mo, .inr (8, [.int (nI n), .ref m1, .ref m2, .ref m3, .long ka, .long kb, .ref m6, .ref m7, .ref m8, .ref m9, .ref m10, .ref m11, .ref m12, .ref m13, .ref m14, .ref m15, .ref m16])), (m2, .inl (cI, 8, .inl fp)), (m3, .inl (cI, 1024, .inl fb))]) [0, 1, 2] rfl
                            refine va_calll (va_runV (As := [.int v_163, .int 0]) (rest := []) ⟨hx, hb, hml, hown, hts⟩ (mz_m_sum l dC dI cI cJ cZ mo m1 m2 m3 m6 m7 m8 m9 m10 m11 m12 m13 m14 m15 m16 n ka kb fp fb v_163 0 H (by first | assumption | omega) (by first | assumption | omega)) (cwV 2 hts gX8_agrees_X8_sum rfl rfl rfl (by decide +kernel) ⟨Nat.le_of_ble_eq_true rfl, Nat.le_of_ble_eq_true rfl⟩) ⟨fun a U g mk q => mz_blP q, va_recv hK hPc (ci := 8) (q0 := 0) rfl rfl, fun U hU hW => ⟨rfl, hU, hPc, va_K.moved hW.alike hK, mz_nw hW hN⟩⟩ rfl rfl hl.1 rfl (lv_room (Nat.le_of_ble_eq_true rfl)) dX8_agrees_170 ⟨Nat.le_of_ble_eq_true rfl, Nat.le_of_ble_eq_true rfl⟩) hS (fun q _ h => h.elim) (fun q h => h.elim) (fun r_170 u t H1 locs ht hvm hw_170 hB hz1 hk1 hS => ?_)
                            have hE : H = H1 := hB.symm.trans ht
                            subst hE
                            refine lv_lstore (lv' := [(12, .long r_170), (11, .int v_163), (10, .int (nI i_137)), (8, .long x8_137), (6, .long r_86), (0, .ref mo), (1, .int (nI j_2)), (2, .int (nI j_10)), (3, .int p3), (4, .int p4), (5, .int p5)]) hx hb dX8_agrees_173 hl (by decide) rfl (fun ls hl => ?_)
                            refine lv_lload hx hb dX8_agrees_175 (lv_at hl 0 rfl) ?_
                            refine lv_lconst (v := 0) hx hb dX8_agrees_177 (by decide +kernel) ?_
                            refine W.lcmp hx hb dX8_agrees_178 ?_
                            refine lv_if_ne (tgt := 185) hx hb dX8_agrees_179 (by decide) (fun c_179 => ?_) (fun c_179 => ?_)
                            · skip
                              have d_179 := mz_lc0 c_179
                              refine lv_aload_n hx hb dX8_agrees_185 rfl (lv_at hl 5 rfl) ?_
                              refine lv_iload hx hb dX8_agrees_186 (lv_at hl 1 rfl) ?_
                              refine lv_iload_n hx hb dX8_agrees_188 rfl (lv_at hl 6 rfl) ?_
                              refine lv_iload hx hb dX8_agrees_189 (lv_at hl 9 rfl) ?_
                              have hPc := hP.sub (ws' := []) [] rfl
                              refine va_calli (va_runS (As := [.int v_163, .int (nI j_2), .int p4]) (rest := [.ref mo]) ⟨hx, hb, hml, hown, hts⟩ (mz_m_withOne l dC dI cI cJ cZ v_163 (nI j_2) p4 H ) (va_cwS 3 hts gX8_agrees_X8_withOne rfl rfl rfl (by decide +kernel) ⟨Nat.le_of_ble_eq_true rfl, Nat.le_of_ble_eq_true rfl⟩) ⟨fun a U g mk q => mz_blP q, fun U hU hW => ⟨rfl, hU, hPc, va_K.moved hW.alike hK, mz_nw hW hN⟩⟩ rfl rfl hl.1 rfl (lv_room (Nat.le_of_ble_eq_true rfl)) dX8_agrees_191 ⟨Nat.le_of_ble_eq_true rfl, Nat.le_of_ble_eq_true rfl⟩) hS (fun q _ h => h.elim) (fun q h => h.elim) (fun r_191 u t H1 locs ht hvm hw_191 hB hz1 hk1 hS => ?_)
                              have hE : H = H1 := hB.symm.trans ht
                              subst hE
                              refine lv_iconst (v := 0) hx hb dX8_agrees_194 (by decide +kernel) ?_
                              have hPc := hP.sub (ws' := [(mo, .inr (8, [.int (nI n), .ref m1, .ref m2, .ref m3, .long ka, .long kb, .ref m6, .ref m7, .ref m8, .ref m9, .ref m10, .ref m11, .ref m12, .ref m13, .ref m14, .ref m15, .ref m16])), (m2, .inl (cI, 8, .inl fp)), (m3, .inl (cI, 1024, .inl fb))]) [0, 1, 2] rfl
                              refine va_calll (va_runV (As := [.int r_191, .int 0]) (rest := []) ⟨hx, hb, hml, hown, hts⟩ (mz_m_sum l dC dI cI cJ cZ mo m1 m2 m3 m6 m7 m8 m9 m10 m11 m12 m13 m14 m15 m16 n ka kb fp fb r_191 0 H (by first | assumption | omega) (by first | assumption | omega)) (cwV 2 hts gX8_agrees_X8_sum rfl rfl rfl (by decide +kernel) ⟨Nat.le_of_ble_eq_true rfl, Nat.le_of_ble_eq_true rfl⟩) ⟨fun a U g mk q => mz_blP q, va_recv hK hPc (ci := 8) (q0 := 0) rfl rfl, fun U hU hW => ⟨rfl, hU, hPc, va_K.moved hW.alike hK, mz_nw hW hN⟩⟩ rfl rfl hl.1 rfl (lv_room (Nat.le_of_ble_eq_true rfl)) dX8_agrees_195 ⟨Nat.le_of_ble_eq_true rfl, Nat.le_of_ble_eq_true rfl⟩) hS (fun q _ h => h.elim) (fun q h => h.elim) (fun r_195 u t H1 locs ht hvm hw_195 hB hz1 hk1 hS => ?_)
                              have hE : H = H1 := hB.symm.trans ht
                              subst hE
                              refine lv_lstore (lv' := [(14, .long r_195), (12, .long r_170), (11, .int v_163), (10, .int (nI i_137)), (8, .long x8_137), (6, .long r_86), (0, .ref mo), (1, .int (nI j_2)), (2, .int (nI j_10)), (3, .int p3), (4, .int p4), (5, .int p5)]) hx hb dX8_agrees_198 hl (by decide) rfl (fun ls hl => ?_)
                              refine lv_lload hx hb dX8_agrees_200 (lv_at hl 0 rfl) ?_
                              refine lv_lconst (v := 0) hx hb dX8_agrees_202 (by decide +kernel) ?_
                              refine W.lcmp hx hb dX8_agrees_203 ?_
                              refine lv_if_ne (tgt := 210) hx hb dX8_agrees_204 (by decide) (fun c_204 => ?_) (fun c_204 => ?_)
                              · skip
                                have d_204 := mz_lc0 c_204
                                refine lv_aload_n hx hb dX8_agrees_210 rfl (lv_at hl 6 rfl) ?_
                                refine lv_iload hx hb dX8_agrees_211 (lv_at hl 2 rfl) ?_
                                refine lv_iload_n hx hb dX8_agrees_213 rfl (lv_at hl 7 rfl) ?_
                                refine lv_iload hx hb dX8_agrees_214 (lv_at hl 10 rfl) ?_
                                have hPc := hP.sub (ws' := []) [] rfl
                                refine va_calli (va_runS (As := [.int v_163, .int (nI j_2), .int p4]) (rest := [.ref mo]) ⟨hx, hb, hml, hown, hts⟩ (mz_m_withOne l dC dI cI cJ cZ v_163 (nI j_2) p4 H ) (va_cwS 3 hts gX8_agrees_X8_withOne rfl rfl rfl (by decide +kernel) ⟨Nat.le_of_ble_eq_true rfl, Nat.le_of_ble_eq_true rfl⟩) ⟨fun a U g mk q => mz_blP q, fun U hU hW => ⟨rfl, hU, hPc, va_K.moved hW.alike hK, mz_nw hW hN⟩⟩ rfl rfl hl.1 rfl (lv_room (Nat.le_of_ble_eq_true rfl)) dX8_agrees_216 ⟨Nat.le_of_ble_eq_true rfl, Nat.le_of_ble_eq_true rfl⟩) hS (fun q _ h => h.elim) (fun q h => h.elim) (fun r_216 u t H1 locs ht hvm hw_216 hB hz1 hk1 hS => ?_)
                                have hE : H = H1 := hB.symm.trans ht
                                subst hE
                                refine lv_iload_n hx hb dX8_agrees_219 rfl (lv_at hl 8 rfl) ?_
                                refine lv_iload hx hb dX8_agrees_220 (lv_at hl 11 rfl) ?_
                                have hPc := hP.sub (ws' := []) [] rfl
                                refine va_calli (va_runS (As := [.int r_216, .int (nI j_10), .int p5]) (rest := [.ref mo]) ⟨hx, hb, hml, hown, hts⟩ (mz_m_withOne l dC dI cI cJ cZ r_216 (nI j_10) p5 H ) (va_cwS 3 hts gX8_agrees_X8_withOne rfl rfl rfl (by decide +kernel) ⟨Nat.le_of_ble_eq_true rfl, Nat.le_of_ble_eq_true rfl⟩) ⟨fun a U g mk q => mz_blP q, fun U hU hW => ⟨rfl, hU, hPc, va_K.moved hW.alike hK, mz_nw hW hN⟩⟩ rfl rfl hl.1 rfl (lv_room (Nat.le_of_ble_eq_true rfl)) dX8_agrees_222 ⟨Nat.le_of_ble_eq_true rfl, Nat.le_of_ble_eq_true rfl⟩) hS (fun q _ h => h.elim) (fun q h => h.elim) (fun r_222 u t H1 locs ht hvm hw_222 hB hz1 hk1 hS => ?_)
                                have hE : H = H1 := hB.symm.trans ht
                                subst hE
                                refine lv_iconst (v := 0) hx hb dX8_agrees_225 (by decide +kernel) ?_
                                have hPc := hP.sub (ws' := [(mo, .inr (8, [.int (nI n), .ref m1, .ref m2, .ref m3, .long ka, .long kb, .ref m6, .ref m7, .ref m8, .ref m9, .ref m10, .ref m11, .ref m12, .ref m13, .ref m14, .ref m15, .ref m16])), (m2, .inl (cI, 8, .inl fp)), (m3, .inl (cI, 1024, .inl fb))]) [0, 1, 2] rfl
                                refine va_calll (va_runV (As := [.int r_222, .int 0]) (rest := []) ⟨hx, hb, hml, hown, hts⟩ (mz_m_sum l dC dI cI cJ cZ mo m1 m2 m3 m6 m7 m8 m9 m10 m11 m12 m13 m14 m15 m16 n ka kb fp fb r_222 0 H (by first | assumption | omega) (by first | assumption | omega)) (cwV 2 hts gX8_agrees_X8_sum rfl rfl rfl (by decide +kernel) ⟨Nat.le_of_ble_eq_true rfl, Nat.le_of_ble_eq_true rfl⟩) ⟨fun a U g mk q => mz_blP q, va_recv hK hPc (ci := 8) (q0 := 0) rfl rfl, fun U hU hW => ⟨rfl, hU, hPc, va_K.moved hW.alike hK, mz_nw hW hN⟩⟩ rfl rfl hl.1 rfl (lv_room (Nat.le_of_ble_eq_true rfl)) dX8_agrees_226 ⟨Nat.le_of_ble_eq_true rfl, Nat.le_of_ble_eq_true rfl⟩) hS (fun q _ h => h.elim) (fun q h => h.elim) (fun r_226 u t H1 locs ht hvm hw_226 hB hz1 hk1 hS => ?_)
                                have hE : H = H1 := hB.symm.trans ht
                                subst hE
                                refine lv_lstore (lv' := [(16, .long r_226), (14, .long r_195), (12, .long r_170), (11, .int v_163), (10, .int (nI i_137)), (8, .long x8_137), (6, .long r_86), (0, .ref mo), (1, .int (nI j_2)), (2, .int (nI j_10)), (3, .int p3), (4, .int p4), (5, .int p5)]) hx hb dX8_agrees_229 hl (by decide) rfl (fun ls hl => ?_)
                                refine lv_lload hx hb dX8_agrees_231 (lv_at hl 0 rfl) ?_
                                refine lv_lload hx hb dX8_agrees_233 (lv_at hl 1 rfl) ?_
                                refine W.lcmp hx hb dX8_agrees_235 ?_
                                refine lv_if_ne (tgt := 249) hx hb dX8_agrees_236 (by decide) (fun c_236 => ?_) (fun c_236 => ?_)
                                · skip
                                  have d_236 := mz_lc0 c_236
                                  refine lv_lconst (v := 0) hx hb dX8_agrees_249 (by decide +kernel) ?_
                                  refine lv_lstore (lv' := [(18, .long 0), (16, .long r_226), (14, .long r_195), (12, .long r_170), (11, .int v_163), (10, .int (nI i_137)), (8, .long x8_137), (6, .long r_86), (0, .ref mo), (1, .int (nI j_2)), (2, .int (nI j_10)), (3, .int p3), (4, .int p4), (5, .int p5)]) hx hb dX8_agrees_250 hl (by decide) rfl (fun ls hl => ?_)
                                  refine lv_lconst (v := 0) hx hb dX8_agrees_252 (by decide +kernel) ?_
                                  refine lv_lstore (lv' := [(20, .long 0), (18, .long 0), (16, .long r_226), (14, .long r_195), (12, .long r_170), (11, .int v_163), (10, .int (nI i_137)), (8, .long x8_137), (6, .long r_86), (0, .ref mo), (1, .int (nI j_2)), (2, .int (nI j_10)), (3, .int p3), (4, .int p4), (5, .int p5)]) hx hb dX8_agrees_253 hl (by decide) rfl (fun ls hl => ?_)
                                  refine lv_bipush (v := 62) hx hb dX8_agrees_255 (by decide +kernel) ?_
                                  refine lv_istore (lv' := [(22, .int 62), (20, .long 0), (18, .long 0), (16, .long r_226), (14, .long r_195), (12, .long r_170), (11, .int v_163), (10, .int (nI i_137)), (8, .long x8_137), (6, .long r_86), (0, .ref mo), (1, .int (nI j_2)), (2, .int (nI j_10)), (3, .int p3), (4, .int p4), (5, .int p5)]) hx hb dX8_agrees_257 hl (by decide) rfl (fun ls hl => ?_)
                                  refine mz_loopU (fun k H locs ls => ∃ (x22_259 : Int32), ∃ (x20_259 : Int64), ∃ (x18_259 : Int64), (x22_259 = -1 ∨ ∃ j : Nat, j < 63 ∧ x22_259 = nI j) ∧ va_P (dC, dI) vwCl [(mo, .inr (8, [.int (nI n), .ref m1, .ref m2, .ref m3, .long ka, .long kb, .ref m6, .ref m7, .ref m8, .ref m9, .ref m10, .ref m11, .ref m12, .ref m13, .ref m14, .ref m15, .ref m16])), (m2, .inl (cI, 8, .inl fp)), (m3, .inl (cI, 1024, .inl fb)), (m9, .inl (cJ, 200, .inr (.inl fm9_137))), (m10, .inl (cJ, 200, .inr (.inl fm10_137))), (m11, .inl (cJ, 200, .inr (.inl fm11_137)))] H ∧ va_D A [(mo, .inr (8, [.int (nI n), .ref m1, .ref m2, .ref m3, .long ka, .long kb, .ref m6, .ref m7, .ref m8, .ref m9, .ref m10, .ref m11, .ref m12, .ref m13, .ref m14, .ref m15, .ref m16])), (m2, .inl (cI, 8, .inl fp)), (m3, .inl (cI, 1024, .inl fb)), (m9, .inl (cJ, 200, .inr (.inl fm9_137))), (m10, .inl (cJ, 200, .inr (.inl fm10_137))), (m11, .inl (cJ, 200, .inr (.inl fm11_137)))] ∧ va_S A s.heap H locs ∧ lv_has ls 24 [(22, .int x22_259), (20, .long x20_259), (18, .long x18_259), (16, .long r_226), (14, .long r_195), (12, .long r_170), (11, .int v_163), (10, .int (nI i_137)), (8, .long x8_137), (6, .long r_86), (0, .ref mo), (1, .int (nI j_2)), (2, .int (nI j_10)), (3, .int p3), (4, .int p4), (5, .int p5)] ∧ k = (x22_259.toInt + 1).toNat) ?_ _ _ _ _ ⟨62, 0, 0, Or.inr ⟨62, by decide, rfl⟩, hP, hD, hS, lv_sub hl [0, 1, 2, 3, 4, 5, 6, 7, 8, 9, 10, 11, 12, 13, 14, 15] rfl, rfl⟩
                                  intro k_259 H locs ls hI_259 ih_259
                                  obtain ⟨x22_259, x20_259, x18_259, hx_259, hP, hD, hS, hl, hk_259⟩ := hI_259
                                  refine lv_iload hx hb dX8_agrees_259 (lv_at hl 0 rfl) ?_
                                  refine lv_if_lt (tgt := 347) hx hb dX8_agrees_261 (by decide) (fun c_261 => ?_) (fun c_261 => ?_)
                                  · skip
                                    refine lv_lload hx hb dX8_agrees_347 (lv_at hl 8 rfl) ?_
                                    refine lv_lload hx hb dX8_agrees_349 (lv_at hl 2 rfl) ?_
                                    refine lv_ladd hx hb dX8_agrees_351 ?_
                                    refine lv_topl (fun v_351 ev_351 => ?_)
                                    refine lv_lstore (lv' := [(8, .long v_351), (22, .int x22_259), (20, .long x20_259), (18, .long x18_259), (16, .long r_226), (14, .long r_195), (12, .long r_170), (11, .int v_163), (10, .int (nI i_137)), (6, .long r_86), (0, .ref mo), (1, .int (nI j_2)), (2, .int (nI j_10)), (3, .int p3), (4, .int p4), (5, .int p5)]) hx hb dX8_agrees_352 hl (by decide) rfl (fun ls hl => ?_)
                                    refine lv_lload hx hb dX8_agrees_354 (lv_at hl 2 rfl) ?_
                                    refine lv_lload hx hb dX8_agrees_356 (lv_at hl 5 rfl) ?_
                                    have hPc := hP.sub (ws' := []) [] rfl
                                    refine va_calll (va_runS (As := [.long x20_259, .long r_195]) (rest := []) ⟨hx, hb, hml, hown, hts⟩ (mz_m_shared l dC dI cI cJ cZ x20_259 r_195 H (by first | assumption | omega)) (va_cwS 2 hts gX8_agrees_X8_shared rfl rfl rfl (by decide +kernel) ⟨Nat.le_of_ble_eq_true rfl, Nat.le_of_ble_eq_true rfl⟩) ⟨fun a U g mk q => mz_blP q, fun U hU hW => ⟨rfl, hU, hPc, va_K.moved hW.alike hK, mz_nw hW hN⟩⟩ rfl rfl hl.1 rfl (lv_room (Nat.le_of_ble_eq_true rfl)) dX8_agrees_358 ⟨Nat.le_of_ble_eq_true rfl, Nat.le_of_ble_eq_true rfl⟩) hS (fun q _ h => h.elim) (fun q h => h.elim) (fun r_358 u t H1 locs ht hvm hw_358 hB hz1 hk1 hS => ?_)
                                    have hE : H = H1 := hB.symm.trans ht
                                    subst hE
                                    refine lv_lstore (lv' := [(22, .long r_358), (8, .long v_351), (20, .long x20_259), (18, .long x18_259), (16, .long r_226), (14, .long r_195), (12, .long r_170), (11, .int v_163), (10, .int (nI i_137)), (6, .long r_86), (0, .ref mo), (1, .int (nI j_2)), (2, .int (nI j_10)), (3, .int p3), (4, .int p4), (5, .int p5)]) hx hb dX8_agrees_361 hl (by decide) rfl (fun ls hl => ?_)
                                    refine lv_lload hx hb dX8_agrees_363 (lv_at hl 2 rfl) ?_
                                    refine lv_lconst (v := 0) hx hb dX8_agrees_365 (by decide +kernel) ?_
                                    refine W.lcmp hx hb dX8_agrees_366 ?_
                                    refine lv_if_le (tgt := 384) hx hb dX8_agrees_367 (by decide) (fun c_367 => ?_) (fun c_367 => ?_)
                                    · skip
                                      refine lv_iinc (v := (nI (i_137 + 1))) (lv' := [(10, .int (nI (i_137 + 1))), (22, .long r_358), (8, .long v_351), (20, .long x20_259), (18, .long x18_259), (16, .long r_226), (14, .long r_195), (12, .long r_170), (11, .int v_163), (6, .long r_86), (0, .ref mo), (1, .int (nI j_2)), (2, .int (nI j_10)), (3, .int p3), (4, .int p4), (5, .int p5)]) hx hb dX8_agrees_384 hl (k := 8) rfl (nI_1 _) (by decide) rfl (fun ls hl => ?_)
                                      refine lv_goto (tgt := 137) hx hb dX8_agrees_387 (by decide) ?_
                                      exact ih_137 _ (by omega) _ _ _ ⟨(i_137 + 1), v_351, fm9_137, fm10_137, fm11_137, by omega, hP, hD, hS, lv_sub hl [0, 2, 9, 10, 11, 12, 13, 14, 15] rfl, rfl⟩
                                    · skip
                                      refine lv_aload_n hx hb dX8_agrees_370 rfl (lv_at hl 10 rfl) ?_
                                      refine lv_lload hx hb dX8_agrees_371 (lv_at hl 2 rfl) ?_
                                      refine lv_lload hx hb dX8_agrees_373 (lv_at hl 0 rfl) ?_
                                      refine lv_ldiv hx hb dX8_agrees_375 (by first | assumption | omega) ?_
                                      refine lv_topl (fun v_375 ev_375 => ?_)
                                      refine lv_lload hx hb dX8_agrees_376 (lv_at hl 5 rfl) ?_
                                      refine lv_lload hx hb dX8_agrees_378 (lv_at hl 0 rfl) ?_
                                      refine lv_ldiv hx hb dX8_agrees_380 (by first | assumption | omega) ?_
                                      refine lv_topl (fun v_380 ev_380 => ?_)
                                      have hPc := hP.sub (ws' := [(mo, .inr (8, [.int (nI n), .ref m1, .ref m2, .ref m3, .long ka, .long kb, .ref m6, .ref m7, .ref m8, .ref m9, .ref m10, .ref m11, .ref m12, .ref m13, .ref m14, .ref m15, .ref m16])), (m9, .inl (cJ, 200, .inr (.inl fm9_137))), (m10, .inl (cJ, 200, .inr (.inl fm10_137))), (m11, .inl (cJ, 200, .inr (.inl fm11_137)))]) [0, 3, 4, 5] rfl
                                      have hDc := hD.sub (ws' := [(mo, .inr (8, [.int (nI n), .ref m1, .ref m2, .ref m3, .long ka, .long kb, .ref m6, .ref m7, .ref m8, .ref m9, .ref m10, .ref m11, .ref m12, .ref m13, .ref m14, .ref m15, .ref m16])), (m9, .inl (cJ, 200, .inr (.inl fm9_137))), (m10, .inl (cJ, 200, .inr (.inl fm10_137))), (m11, .inl (cJ, 200, .inr (.inl fm11_137)))]) [0, 3, 4, 5] (by decide) rfl
                                      have hFc := va_free (wc := [(mo, .inr (8, [.int (nI n), .ref m1, .ref m2, .ref m3, .long ka, .long kb, .ref m6, .ref m7, .ref m8, .ref m9, .ref m10, .ref m11, .ref m12, .ref m13, .ref m14, .ref m15, .ref m16])), (m9, .inl (cJ, 200, .inr (.inl fm9_137))), (m10, .inl (cJ, 200, .inr (.inl fm10_137))), (m11, .inl (cJ, 200, .inr (.inl fm11_137)))]) hD hS hA [0, 3, 4, 5] rfl
                                      refine va_callv (va_runV (As := [.long v_375, .long v_380]) (rest := []) ⟨hx, hb, hml, hown, hts⟩ (mz_m_adds l dC dI cI cJ cZ mo m1 m2 m3 m6 m7 m8 m9 m10 m11 m12 m13 m14 m15 m16 n ka kb fm9_137 fm10_137 fm11_137 v_375 v_380 H.size ) (cwV 2 hts gX8_agrees_X8_adds rfl rfl rfl (by decide +kernel) ⟨Nat.le_of_ble_eq_true rfl, Nat.le_of_ble_eq_true rfl⟩) ⟨fun a U g mk q => mz_blI q, va_recv hK hPc (ci := 8) (q0 := 0) rfl rfl, fun U hU hW => ⟨rfl, by rw [hU], by rw [hU]; exact hPc, va_K.moved hW.alike hK, hDc.weaken (fun _ _ _ _ => trivial), mz_nw hW hN⟩⟩ rfl rfl hl.1 rfl (lv_room (Nat.le_of_ble_eq_true rfl)) dX8_agrees_381 ⟨Nat.le_of_ble_eq_true rfl, Nat.le_of_ble_eq_true rfl⟩) hS (fun q _ h => hFc q h) hFc (fun u t H1 locs ht hvm hw_381 hB hz1 hk1 hS => ?_)
                                      obtain ⟨gu_381, gd_381, gh_381, hP1, hD1⟩ := hB
                                      rw [ht] at hP1
                                      obtain ⟨hP, hD⟩ := va_join (wr := [(m2, .inl (cI, 8, .inl fp)), (m3, .inl (cI, 1024, .inl fb))]) (w1 := [(mo, .inr (8, [.int (nI n), .ref m1, .ref m2, .ref m3, .long ka, .long kb, .ref m6, .ref m7, .ref m8, .ref m9, .ref m10, .ref m11, .ref m12, .ref m13, .ref m14, .ref m15, .ref m16])), (m9, .inl (cJ, 200, .inr (.inl gu_381))), (m10, .inl (cJ, 200, .inr (.inl gd_381))), (m11, .inl (cJ, 200, .inr (.inl gh_381)))]) hP hD [0, 3, 4, 5] [1, 2] rfl rfl (by decide) (by decide) hk1 hFc hP1 hD1
                                      generalize H1 = H at hP hS ⊢
                                      have hP : va_P (dC, dI) vwCl [(m2, .inl (cI, 8, .inl fp)), (m3, .inl (cI, 1024, .inl fb)), (mo, .inr (8, [.int (nI n), .ref m1, .ref m2, .ref m3, .long ka, .long kb, .ref m6, .ref m7, .ref m8, .ref m9, .ref m10, .ref m11, .ref m12, .ref m13, .ref m14, .ref m15, .ref m16])), (m9, .inl (cJ, 200, .inr (.inl gu_381))), (m10, .inl (cJ, 200, .inr (.inl gd_381))), (m11, .inl (cJ, 200, .inr (.inl gh_381)))] H := hP
                                      have hD : va_D A [(m2, .inl (cI, 8, .inl fp)), (m3, .inl (cI, 1024, .inl fb)), (mo, .inr (8, [.int (nI n), .ref m1, .ref m2, .ref m3, .long ka, .long kb, .ref m6, .ref m7, .ref m8, .ref m9, .ref m10, .ref m11, .ref m12, .ref m13, .ref m14, .ref m15, .ref m16])), (m9, .inl (cJ, 200, .inr (.inl gu_381))), (m10, .inl (cJ, 200, .inr (.inl gd_381))), (m11, .inl (cJ, 200, .inr (.inl gh_381)))] := hD
                                      refine lv_iinc (v := (nI (i_137 + 1))) (lv' := [(10, .int (nI (i_137 + 1))), (22, .long r_358), (8, .long v_351), (20, .long x20_259), (18, .long x18_259), (16, .long r_226), (14, .long r_195), (12, .long r_170), (11, .int v_163), (6, .long r_86), (0, .ref mo), (1, .int (nI j_2)), (2, .int (nI j_10)), (3, .int p3), (4, .int p4), (5, .int p5)]) hx hb dX8_agrees_384 hl (k := 8) rfl (nI_1 _) (by decide) rfl (fun ls hl => ?_)
                                      refine lv_goto (tgt := 137) hx hb dX8_agrees_387 (by decide) ?_
                                      exact ih_137 _ (by omega) _ _ _ ⟨(i_137 + 1), v_351, gu_381, gd_381, gh_381, by omega, hP.sub [2, 0, 1, 3, 4, 5] rfl, hD.sub [2, 0, 1, 3, 4, 5] (by decide) rfl, hS, lv_sub hl [0, 2, 9, 10, 11, 12, 13, 14, 15] rfl, rfl⟩
                                  · skip
                                    rcases hx_259 with h_264 | ⟨q_264, hq_264, h_264⟩
                                    · exact absurd (show x22_259 < 0 by rw [h_264]; decide) c_261
                                    subst h_264
                                    refine lv_ldc2 hx hb hown (hts (.constantLong RX8 153 (2)) (by decide +kernel)) dX8_agrees_264 ?_
                                    refine lv_lload hx hb dX8_agrees_267 (lv_at hl 2 rfl) ?_
                                    refine lv_lmul hx hb dX8_agrees_269 ?_
                                    refine lv_topl (fun v_269 ev_269 => ?_)
                                    refine lv_lstore (lv' := [(18, .long v_269), (22, .int (nI q_264)), (20, .long x20_259), (16, .long r_226), (14, .long r_195), (12, .long r_170), (11, .int v_163), (10, .int (nI i_137)), (8, .long x8_137), (6, .long r_86), (0, .ref mo), (1, .int (nI j_2)), (2, .int (nI j_10)), (3, .int p3), (4, .int p4), (5, .int p5)]) hx hb dX8_agrees_270 hl (by decide) rfl (fun ls hl => ?_)
                                    refine lv_ldc2 hx hb hown (hts (.constantLong RX8 153 (2)) (by decide +kernel)) dX8_agrees_272 ?_
                                    refine lv_lload hx hb dX8_agrees_275 (lv_at hl 2 rfl) ?_
                                    refine lv_lmul hx hb dX8_agrees_277 ?_
                                    refine lv_topl (fun v_277 ev_277 => ?_)
                                    refine lv_lstore (lv' := [(20, .long v_277), (18, .long v_269), (22, .int (nI q_264)), (16, .long r_226), (14, .long r_195), (12, .long r_170), (11, .int v_163), (10, .int (nI i_137)), (8, .long x8_137), (6, .long r_86), (0, .ref mo), (1, .int (nI j_2)), (2, .int (nI j_10)), (3, .int p3), (4, .int p4), (5, .int p5)]) hx hb dX8_agrees_278 hl (by decide) rfl (fun ls hl => ?_)
                                    refine lv_lload hx hb dX8_agrees_280 (lv_at hl 0 rfl) ?_
                                    refine lv_lload hx hb dX8_agrees_282 (lv_at hl 4 rfl) ?_
                                    refine W.lcmp hx hb dX8_agrees_284 ?_
                                    refine lv_if_lt (tgt := 301) hx hb dX8_agrees_285 (by decide) (fun c_285 => ?_) (fun c_285 => ?_)
                                    · skip
                                      refine lv_lload hx hb dX8_agrees_301 (lv_at hl 5 rfl) ?_
                                      refine lv_iload hx hb dX8_agrees_303 (lv_at hl 2 rfl) ?_
                                      refine lv_lshr hx hb dX8_agrees_305 rfl ?_
                                      refine lv_topl (fun v_305 ev_305 => ?_)
                                      refine lv_lconst (v := 1) hx hb dX8_agrees_306 (by decide +kernel) ?_
                                      refine lv_land hx hb dX8_agrees_307 ?_
                                      refine lv_topl (fun v_307 ev_307 => ?_)
                                      refine lv_lconst (v := 1) hx hb dX8_agrees_308 (by decide +kernel) ?_
                                      refine W.lcmp hx hb dX8_agrees_309 ?_
                                      refine lv_if_ne (tgt := 320) hx hb dX8_agrees_310 (by decide) (fun c_310 => ?_) (fun c_310 => ?_)
                                      · skip
                                        have d_310 := mz_lc0 c_310
                                        refine lv_lload hx hb dX8_agrees_320 (lv_at hl 0 rfl) ?_
                                        refine lv_lload hx hb dX8_agrees_322 (lv_at hl 4 rfl) ?_
                                        refine W.lcmp hx hb dX8_agrees_324 ?_
                                        refine lv_if_lt (tgt := 341) hx hb dX8_agrees_325 (by decide) (fun c_325 => ?_) (fun c_325 => ?_)
                                        · skip
                                          obtain ⟨v_341, ev_341⟩ : ∃ y : Int32, y = (nI q_264) + Int32.ofInt (-1) := ⟨_, rfl⟩
                                          refine lv_iinc (v := v_341) (lv' := [(22, .int v_341), (20, .long v_277), (18, .long v_269), (16, .long r_226), (14, .long r_195), (12, .long r_170), (11, .int v_163), (10, .int (nI i_137)), (8, .long x8_137), (6, .long r_86), (0, .ref mo), (1, .int (nI j_2)), (2, .int (nI j_10)), (3, .int p3), (4, .int p4), (5, .int p5)]) hx hb dX8_agrees_341 hl (k := 2) rfl ev_341.symm (by decide) rfl (fun ls hl => ?_)
                                          refine lv_goto (tgt := 259) hx hb dX8_agrees_344 (by decide) ?_
                                          exact ih_259 _ (by rw [hk_259]; exact mz_predsG (by omega) ev_341) _ _ _ ⟨v_341, v_277, v_269, (mz_predG hq_264 ev_341), hP, hD, hS, lv_sub hl [0, 1, 2, 3, 4, 5, 6, 7, 8, 9, 10, 11, 12, 13, 14, 15] rfl, rfl⟩
                                        · skip
                                          refine lv_lload hx hb dX8_agrees_328 (lv_at hl 0 rfl) ?_
                                          refine lv_lload hx hb dX8_agrees_330 (lv_at hl 4 rfl) ?_
                                          refine lv_lsub hx hb dX8_agrees_332 ?_
                                          refine lv_topl (fun v_332 ev_332 => ?_)
                                          refine lv_lstore (lv' := [(20, .long v_332), (18, .long v_269), (22, .int (nI q_264)), (16, .long r_226), (14, .long r_195), (12, .long r_170), (11, .int v_163), (10, .int (nI i_137)), (8, .long x8_137), (6, .long r_86), (0, .ref mo), (1, .int (nI j_2)), (2, .int (nI j_10)), (3, .int p3), (4, .int p4), (5, .int p5)]) hx hb dX8_agrees_333 hl (by decide) rfl (fun ls hl => ?_)
                                          refine lv_lload hx hb dX8_agrees_335 (lv_at hl 1 rfl) ?_
                                          refine lv_lconst (v := 1) hx hb dX8_agrees_337 (by decide +kernel) ?_
                                          refine lv_ladd hx hb dX8_agrees_338 ?_
                                          refine lv_topl (fun v_338 ev_338 => ?_)
                                          refine lv_lstore (lv' := [(18, .long v_338), (20, .long v_332), (22, .int (nI q_264)), (16, .long r_226), (14, .long r_195), (12, .long r_170), (11, .int v_163), (10, .int (nI i_137)), (8, .long x8_137), (6, .long r_86), (0, .ref mo), (1, .int (nI j_2)), (2, .int (nI j_10)), (3, .int p3), (4, .int p4), (5, .int p5)]) hx hb dX8_agrees_339 hl (by decide) rfl (fun ls hl => ?_)
                                          obtain ⟨v_341, ev_341⟩ : ∃ y : Int32, y = (nI q_264) + Int32.ofInt (-1) := ⟨_, rfl⟩
                                          refine lv_iinc (v := v_341) (lv' := [(22, .int v_341), (18, .long v_338), (20, .long v_332), (16, .long r_226), (14, .long r_195), (12, .long r_170), (11, .int v_163), (10, .int (nI i_137)), (8, .long x8_137), (6, .long r_86), (0, .ref mo), (1, .int (nI j_2)), (2, .int (nI j_10)), (3, .int p3), (4, .int p4), (5, .int p5)]) hx hb dX8_agrees_341 hl (k := 2) rfl ev_341.symm (by decide) rfl (fun ls hl => ?_)
                                          refine lv_goto (tgt := 259) hx hb dX8_agrees_344 (by decide) ?_
                                          exact ih_259 _ (by rw [hk_259]; exact mz_predsG (by omega) ev_341) _ _ _ ⟨v_341, v_332, v_338, (mz_predG hq_264 ev_341), hP, hD, hS, lv_sub hl [0, 2, 1, 3, 4, 5, 6, 7, 8, 9, 10, 11, 12, 13, 14, 15] rfl, rfl⟩
                                      · skip
                                        have d_310 := mz_lc1 c_310
                                        refine lv_lload hx hb dX8_agrees_313 (lv_at hl 0 rfl) ?_
                                        refine lv_lload hx hb dX8_agrees_315 (lv_at hl 3 rfl) ?_
                                        refine lv_ladd hx hb dX8_agrees_317 ?_
                                        refine lv_topl (fun v_317 ev_317 => ?_)
                                        refine lv_lstore (lv' := [(20, .long v_317), (18, .long v_269), (22, .int (nI q_264)), (16, .long r_226), (14, .long r_195), (12, .long r_170), (11, .int v_163), (10, .int (nI i_137)), (8, .long x8_137), (6, .long r_86), (0, .ref mo), (1, .int (nI j_2)), (2, .int (nI j_10)), (3, .int p3), (4, .int p4), (5, .int p5)]) hx hb dX8_agrees_318 hl (by decide) rfl (fun ls hl => ?_)
                                        refine lv_lload hx hb dX8_agrees_320 (lv_at hl 0 rfl) ?_
                                        refine lv_lload hx hb dX8_agrees_322 (lv_at hl 4 rfl) ?_
                                        refine W.lcmp hx hb dX8_agrees_324 ?_
                                        refine lv_if_lt (tgt := 341) hx hb dX8_agrees_325 (by decide) (fun c_325 => ?_) (fun c_325 => ?_)
                                        · skip
                                          obtain ⟨v_341, ev_341⟩ : ∃ y : Int32, y = (nI q_264) + Int32.ofInt (-1) := ⟨_, rfl⟩
                                          refine lv_iinc (v := v_341) (lv' := [(22, .int v_341), (20, .long v_317), (18, .long v_269), (16, .long r_226), (14, .long r_195), (12, .long r_170), (11, .int v_163), (10, .int (nI i_137)), (8, .long x8_137), (6, .long r_86), (0, .ref mo), (1, .int (nI j_2)), (2, .int (nI j_10)), (3, .int p3), (4, .int p4), (5, .int p5)]) hx hb dX8_agrees_341 hl (k := 2) rfl ev_341.symm (by decide) rfl (fun ls hl => ?_)
                                          refine lv_goto (tgt := 259) hx hb dX8_agrees_344 (by decide) ?_
                                          exact ih_259 _ (by rw [hk_259]; exact mz_predsG (by omega) ev_341) _ _ _ ⟨v_341, v_317, v_269, (mz_predG hq_264 ev_341), hP, hD, hS, lv_sub hl [0, 1, 2, 3, 4, 5, 6, 7, 8, 9, 10, 11, 12, 13, 14, 15] rfl, rfl⟩
                                        · skip
                                          refine lv_lload hx hb dX8_agrees_328 (lv_at hl 0 rfl) ?_
                                          refine lv_lload hx hb dX8_agrees_330 (lv_at hl 4 rfl) ?_
                                          refine lv_lsub hx hb dX8_agrees_332 ?_
                                          refine lv_topl (fun v_332 ev_332 => ?_)
                                          refine lv_lstore (lv' := [(20, .long v_332), (18, .long v_269), (22, .int (nI q_264)), (16, .long r_226), (14, .long r_195), (12, .long r_170), (11, .int v_163), (10, .int (nI i_137)), (8, .long x8_137), (6, .long r_86), (0, .ref mo), (1, .int (nI j_2)), (2, .int (nI j_10)), (3, .int p3), (4, .int p4), (5, .int p5)]) hx hb dX8_agrees_333 hl (by decide) rfl (fun ls hl => ?_)
                                          refine lv_lload hx hb dX8_agrees_335 (lv_at hl 1 rfl) ?_
                                          refine lv_lconst (v := 1) hx hb dX8_agrees_337 (by decide +kernel) ?_
                                          refine lv_ladd hx hb dX8_agrees_338 ?_
                                          refine lv_topl (fun v_338 ev_338 => ?_)
                                          refine lv_lstore (lv' := [(18, .long v_338), (20, .long v_332), (22, .int (nI q_264)), (16, .long r_226), (14, .long r_195), (12, .long r_170), (11, .int v_163), (10, .int (nI i_137)), (8, .long x8_137), (6, .long r_86), (0, .ref mo), (1, .int (nI j_2)), (2, .int (nI j_10)), (3, .int p3), (4, .int p4), (5, .int p5)]) hx hb dX8_agrees_339 hl (by decide) rfl (fun ls hl => ?_)
                                          obtain ⟨v_341, ev_341⟩ : ∃ y : Int32, y = (nI q_264) + Int32.ofInt (-1) := ⟨_, rfl⟩
                                          refine lv_iinc (v := v_341) (lv' := [(22, .int v_341), (18, .long v_338), (20, .long v_332), (16, .long r_226), (14, .long r_195), (12, .long r_170), (11, .int v_163), (10, .int (nI i_137)), (8, .long x8_137), (6, .long r_86), (0, .ref mo), (1, .int (nI j_2)), (2, .int (nI j_10)), (3, .int p3), (4, .int p4), (5, .int p5)]) hx hb dX8_agrees_341 hl (k := 2) rfl ev_341.symm (by decide) rfl (fun ls hl => ?_)
                                          refine lv_goto (tgt := 259) hx hb dX8_agrees_344 (by decide) ?_
                                          exact ih_259 _ (by rw [hk_259]; exact mz_predsG (by omega) ev_341) _ _ _ ⟨v_341, v_332, v_338, (mz_predG hq_264 ev_341), hP, hD, hS, lv_sub hl [0, 2, 1, 3, 4, 5, 6, 7, 8, 9, 10, 11, 12, 13, 14, 15] rfl, rfl⟩
                                    · skip
                                      refine lv_lload hx hb dX8_agrees_288 (lv_at hl 0 rfl) ?_
                                      refine lv_lload hx hb dX8_agrees_290 (lv_at hl 4 rfl) ?_
                                      refine lv_lsub hx hb dX8_agrees_292 ?_
                                      refine lv_topl (fun v_292 ev_292 => ?_)
                                      refine lv_lstore (lv' := [(20, .long v_292), (18, .long v_269), (22, .int (nI q_264)), (16, .long r_226), (14, .long r_195), (12, .long r_170), (11, .int v_163), (10, .int (nI i_137)), (8, .long x8_137), (6, .long r_86), (0, .ref mo), (1, .int (nI j_2)), (2, .int (nI j_10)), (3, .int p3), (4, .int p4), (5, .int p5)]) hx hb dX8_agrees_293 hl (by decide) rfl (fun ls hl => ?_)
                                      refine lv_lload hx hb dX8_agrees_295 (lv_at hl 1 rfl) ?_
                                      refine lv_lconst (v := 1) hx hb dX8_agrees_297 (by decide +kernel) ?_
                                      refine lv_ladd hx hb dX8_agrees_298 ?_
                                      refine lv_topl (fun v_298 ev_298 => ?_)
                                      refine lv_lstore (lv' := [(18, .long v_298), (20, .long v_292), (22, .int (nI q_264)), (16, .long r_226), (14, .long r_195), (12, .long r_170), (11, .int v_163), (10, .int (nI i_137)), (8, .long x8_137), (6, .long r_86), (0, .ref mo), (1, .int (nI j_2)), (2, .int (nI j_10)), (3, .int p3), (4, .int p4), (5, .int p5)]) hx hb dX8_agrees_299 hl (by decide) rfl (fun ls hl => ?_)
                                      refine lv_lload hx hb dX8_agrees_301 (lv_at hl 5 rfl) ?_
                                      refine lv_iload hx hb dX8_agrees_303 (lv_at hl 2 rfl) ?_
                                      refine lv_lshr hx hb dX8_agrees_305 rfl ?_
                                      refine lv_topl (fun v_305 ev_305 => ?_)
                                      refine lv_lconst (v := 1) hx hb dX8_agrees_306 (by decide +kernel) ?_
                                      refine lv_land hx hb dX8_agrees_307 ?_
                                      refine lv_topl (fun v_307 ev_307 => ?_)
                                      refine lv_lconst (v := 1) hx hb dX8_agrees_308 (by decide +kernel) ?_
                                      refine W.lcmp hx hb dX8_agrees_309 ?_
                                      refine lv_if_ne (tgt := 320) hx hb dX8_agrees_310 (by decide) (fun c_310 => ?_) (fun c_310 => ?_)
                                      · skip
                                        have d_310 := mz_lc0 c_310
                                        refine lv_lload hx hb dX8_agrees_320 (lv_at hl 1 rfl) ?_
                                        refine lv_lload hx hb dX8_agrees_322 (lv_at hl 4 rfl) ?_
                                        refine W.lcmp hx hb dX8_agrees_324 ?_
                                        refine lv_if_lt (tgt := 341) hx hb dX8_agrees_325 (by decide) (fun c_325 => ?_) (fun c_325 => ?_)
                                        · skip
                                          obtain ⟨v_341, ev_341⟩ : ∃ y : Int32, y = (nI q_264) + Int32.ofInt (-1) := ⟨_, rfl⟩
                                          refine lv_iinc (v := v_341) (lv' := [(22, .int v_341), (18, .long v_298), (20, .long v_292), (16, .long r_226), (14, .long r_195), (12, .long r_170), (11, .int v_163), (10, .int (nI i_137)), (8, .long x8_137), (6, .long r_86), (0, .ref mo), (1, .int (nI j_2)), (2, .int (nI j_10)), (3, .int p3), (4, .int p4), (5, .int p5)]) hx hb dX8_agrees_341 hl (k := 2) rfl ev_341.symm (by decide) rfl (fun ls hl => ?_)
                                          refine lv_goto (tgt := 259) hx hb dX8_agrees_344 (by decide) ?_
                                          exact ih_259 _ (by rw [hk_259]; exact mz_predsG (by omega) ev_341) _ _ _ ⟨v_341, v_292, v_298, (mz_predG hq_264 ev_341), hP, hD, hS, lv_sub hl [0, 2, 1, 3, 4, 5, 6, 7, 8, 9, 10, 11, 12, 13, 14, 15] rfl, rfl⟩
                                        · skip
                                          refine lv_lload hx hb dX8_agrees_328 (lv_at hl 1 rfl) ?_
                                          refine lv_lload hx hb dX8_agrees_330 (lv_at hl 4 rfl) ?_
                                          refine lv_lsub hx hb dX8_agrees_332 ?_
                                          refine lv_topl (fun v_332 ev_332 => ?_)
                                          refine lv_lstore (lv' := [(20, .long v_332), (18, .long v_298), (22, .int (nI q_264)), (16, .long r_226), (14, .long r_195), (12, .long r_170), (11, .int v_163), (10, .int (nI i_137)), (8, .long x8_137), (6, .long r_86), (0, .ref mo), (1, .int (nI j_2)), (2, .int (nI j_10)), (3, .int p3), (4, .int p4), (5, .int p5)]) hx hb dX8_agrees_333 hl (by decide) rfl (fun ls hl => ?_)
                                          refine lv_lload hx hb dX8_agrees_335 (lv_at hl 1 rfl) ?_
                                          refine lv_lconst (v := 1) hx hb dX8_agrees_337 (by decide +kernel) ?_
                                          refine lv_ladd hx hb dX8_agrees_338 ?_
                                          refine lv_topl (fun v_338 ev_338 => ?_)
                                          refine lv_lstore (lv' := [(18, .long v_338), (20, .long v_332), (22, .int (nI q_264)), (16, .long r_226), (14, .long r_195), (12, .long r_170), (11, .int v_163), (10, .int (nI i_137)), (8, .long x8_137), (6, .long r_86), (0, .ref mo), (1, .int (nI j_2)), (2, .int (nI j_10)), (3, .int p3), (4, .int p4), (5, .int p5)]) hx hb dX8_agrees_339 hl (by decide) rfl (fun ls hl => ?_)
                                          obtain ⟨v_341, ev_341⟩ : ∃ y : Int32, y = (nI q_264) + Int32.ofInt (-1) := ⟨_, rfl⟩
                                          refine lv_iinc (v := v_341) (lv' := [(22, .int v_341), (18, .long v_338), (20, .long v_332), (16, .long r_226), (14, .long r_195), (12, .long r_170), (11, .int v_163), (10, .int (nI i_137)), (8, .long x8_137), (6, .long r_86), (0, .ref mo), (1, .int (nI j_2)), (2, .int (nI j_10)), (3, .int p3), (4, .int p4), (5, .int p5)]) hx hb dX8_agrees_341 hl (k := 2) rfl ev_341.symm (by decide) rfl (fun ls hl => ?_)
                                          refine lv_goto (tgt := 259) hx hb dX8_agrees_344 (by decide) ?_
                                          exact ih_259 _ (by rw [hk_259]; exact mz_predsG (by omega) ev_341) _ _ _ ⟨v_341, v_332, v_338, (mz_predG hq_264 ev_341), hP, hD, hS, lv_sub hl [0, 2, 1, 3, 4, 5, 6, 7, 8, 9, 10, 11, 12, 13, 14, 15] rfl, rfl⟩
                                      · skip
                                        have d_310 := mz_lc1 c_310
                                        refine lv_lload hx hb dX8_agrees_313 (lv_at hl 1 rfl) ?_
                                        refine lv_lload hx hb dX8_agrees_315 (lv_at hl 3 rfl) ?_
                                        refine lv_ladd hx hb dX8_agrees_317 ?_
                                        refine lv_topl (fun v_317 ev_317 => ?_)
                                        refine lv_lstore (lv' := [(20, .long v_317), (18, .long v_298), (22, .int (nI q_264)), (16, .long r_226), (14, .long r_195), (12, .long r_170), (11, .int v_163), (10, .int (nI i_137)), (8, .long x8_137), (6, .long r_86), (0, .ref mo), (1, .int (nI j_2)), (2, .int (nI j_10)), (3, .int p3), (4, .int p4), (5, .int p5)]) hx hb dX8_agrees_318 hl (by decide) rfl (fun ls hl => ?_)
                                        refine lv_lload hx hb dX8_agrees_320 (lv_at hl 0 rfl) ?_
                                        refine lv_lload hx hb dX8_agrees_322 (lv_at hl 4 rfl) ?_
                                        refine W.lcmp hx hb dX8_agrees_324 ?_
                                        refine lv_if_lt (tgt := 341) hx hb dX8_agrees_325 (by decide) (fun c_325 => ?_) (fun c_325 => ?_)
                                        · skip
                                          obtain ⟨v_341, ev_341⟩ : ∃ y : Int32, y = (nI q_264) + Int32.ofInt (-1) := ⟨_, rfl⟩
                                          refine lv_iinc (v := v_341) (lv' := [(22, .int v_341), (20, .long v_317), (18, .long v_298), (16, .long r_226), (14, .long r_195), (12, .long r_170), (11, .int v_163), (10, .int (nI i_137)), (8, .long x8_137), (6, .long r_86), (0, .ref mo), (1, .int (nI j_2)), (2, .int (nI j_10)), (3, .int p3), (4, .int p4), (5, .int p5)]) hx hb dX8_agrees_341 hl (k := 2) rfl ev_341.symm (by decide) rfl (fun ls hl => ?_)
                                          refine lv_goto (tgt := 259) hx hb dX8_agrees_344 (by decide) ?_
                                          exact ih_259 _ (by rw [hk_259]; exact mz_predsG (by omega) ev_341) _ _ _ ⟨v_341, v_317, v_298, (mz_predG hq_264 ev_341), hP, hD, hS, lv_sub hl [0, 1, 2, 3, 4, 5, 6, 7, 8, 9, 10, 11, 12, 13, 14, 15] rfl, rfl⟩
                                        · skip
                                          refine lv_lload hx hb dX8_agrees_328 (lv_at hl 0 rfl) ?_
                                          refine lv_lload hx hb dX8_agrees_330 (lv_at hl 4 rfl) ?_
                                          refine lv_lsub hx hb dX8_agrees_332 ?_
                                          refine lv_topl (fun v_332 ev_332 => ?_)
                                          refine lv_lstore (lv' := [(20, .long v_332), (18, .long v_298), (22, .int (nI q_264)), (16, .long r_226), (14, .long r_195), (12, .long r_170), (11, .int v_163), (10, .int (nI i_137)), (8, .long x8_137), (6, .long r_86), (0, .ref mo), (1, .int (nI j_2)), (2, .int (nI j_10)), (3, .int p3), (4, .int p4), (5, .int p5)]) hx hb dX8_agrees_333 hl (by decide) rfl (fun ls hl => ?_)
                                          refine lv_lload hx hb dX8_agrees_335 (lv_at hl 1 rfl) ?_
                                          refine lv_lconst (v := 1) hx hb dX8_agrees_337 (by decide +kernel) ?_
                                          refine lv_ladd hx hb dX8_agrees_338 ?_
                                          refine lv_topl (fun v_338 ev_338 => ?_)
                                          refine lv_lstore (lv' := [(18, .long v_338), (20, .long v_332), (22, .int (nI q_264)), (16, .long r_226), (14, .long r_195), (12, .long r_170), (11, .int v_163), (10, .int (nI i_137)), (8, .long x8_137), (6, .long r_86), (0, .ref mo), (1, .int (nI j_2)), (2, .int (nI j_10)), (3, .int p3), (4, .int p4), (5, .int p5)]) hx hb dX8_agrees_339 hl (by decide) rfl (fun ls hl => ?_)
                                          obtain ⟨v_341, ev_341⟩ : ∃ y : Int32, y = (nI q_264) + Int32.ofInt (-1) := ⟨_, rfl⟩
                                          refine lv_iinc (v := v_341) (lv' := [(22, .int v_341), (18, .long v_338), (20, .long v_332), (16, .long r_226), (14, .long r_195), (12, .long r_170), (11, .int v_163), (10, .int (nI i_137)), (8, .long x8_137), (6, .long r_86), (0, .ref mo), (1, .int (nI j_2)), (2, .int (nI j_10)), (3, .int p3), (4, .int p4), (5, .int p5)]) hx hb dX8_agrees_341 hl (k := 2) rfl ev_341.symm (by decide) rfl (fun ls hl => ?_)
                                          refine lv_goto (tgt := 259) hx hb dX8_agrees_344 (by decide) ?_
                                          exact ih_259 _ (by rw [hk_259]; exact mz_predsG (by omega) ev_341) _ _ _ ⟨v_341, v_332, v_338, (mz_predG hq_264 ev_341), hP, hD, hS, lv_sub hl [0, 2, 1, 3, 4, 5, 6, 7, 8, 9, 10, 11, 12, 13, 14, 15] rfl, rfl⟩
                                · skip
                                  have d_236 := mz_lc1 c_236
                                  refine lv_lload hx hb dX8_agrees_239 (lv_at hl 5 rfl) ?_
                                  refine lv_lload hx hb dX8_agrees_241 (lv_at hl 2 rfl) ?_
                                  refine lv_ladd hx hb dX8_agrees_243 ?_
                                  refine lv_topl (fun v_243 ev_243 => ?_)
                                  refine lv_lstore (lv' := [(8, .long v_243), (16, .long r_226), (14, .long r_195), (12, .long r_170), (11, .int v_163), (10, .int (nI i_137)), (6, .long r_86), (0, .ref mo), (1, .int (nI j_2)), (2, .int (nI j_10)), (3, .int p3), (4, .int p4), (5, .int p5)]) hx hb dX8_agrees_244 hl (by decide) rfl (fun ls hl => ?_)
                                  refine lv_goto (tgt := 384) hx hb dX8_agrees_246 (by decide) ?_
                                  refine lv_iinc (v := (nI (i_137 + 1))) (lv' := [(10, .int (nI (i_137 + 1))), (8, .long v_243), (16, .long r_226), (14, .long r_195), (12, .long r_170), (11, .int v_163), (6, .long r_86), (0, .ref mo), (1, .int (nI j_2)), (2, .int (nI j_10)), (3, .int p3), (4, .int p4), (5, .int p5)]) hx hb dX8_agrees_384 hl (k := 5) rfl (nI_1 _) (by decide) rfl (fun ls hl => ?_)
                                  refine lv_goto (tgt := 137) hx hb dX8_agrees_387 (by decide) ?_
                                  exact ih_137 _ (by omega) _ _ _ ⟨(i_137 + 1), v_243, fm9_137, fm10_137, fm11_137, by omega, hP, hD, hS, lv_sub hl [0, 1, 6, 7, 8, 9, 10, 11, 12] rfl, rfl⟩
                              · skip
                                have d_204 := mz_lc1 c_204
                                refine lv_bipush (v := (-2)) hx hb dX8_agrees_207 (by decide +kernel) ?_
                                have hP9 := hP.sub (ws' := [(mo, .inr (8, [.int (nI n), .ref m1, .ref m2, .ref m3, .long ka, .long kb, .ref m6, .ref m7, .ref m8, .ref m9, .ref m10, .ref m11, .ref m12, .ref m13, .ref m14, .ref m15, .ref m16])), (m2, .inl (cI, 8, .inl fp)), (m3, .inl (cI, 1024, .inl fb)), (m9, .inl (cJ, 200, .inr (.inl fm9_137))), (m10, .inl (cJ, 200, .inr (.inl fm10_137))), (m11, .inl (cJ, 200, .inr (.inl fm11_137)))]) [0, 1, 2, 3, 4, 5] rfl
                                have hD9 := hD.sub (ws' := [(mo, .inr (8, [.int (nI n), .ref m1, .ref m2, .ref m3, .long ka, .long kb, .ref m6, .ref m7, .ref m8, .ref m9, .ref m10, .ref m11, .ref m12, .ref m13, .ref m14, .ref m15, .ref m16])), (m2, .inl (cI, 8, .inl fp)), (m3, .inl (cI, 1024, .inl fb)), (m9, .inl (cJ, 200, .inr (.inl fm9_137))), (m10, .inl (cJ, 200, .inr (.inl fm10_137))), (m11, .inl (cJ, 200, .inr (.inl fm11_137)))]) [0, 1, 2, 3, 4, 5] (by decide) rfl
                                refine W.widen (k := 0) (n := 0) (Nat.le_of_ble_eq_true rfl) (Nat.le_of_ble_eq_true rfl) ?_
                                exact W.iret (v := (-2)) hx hb hr (fun t ht hW => ⟨⟨(-2), (), rfl, trivial, fm9_137, fm10_137, fm11_137, by rw [ht]; exact hP9, hD9⟩, hS.F ht⟩) hS.2.2 dX8_agrees_209
                            · skip
                              have d_179 := mz_lc1 c_179
                              refine lv_goto (tgt := 384) hx hb dX8_agrees_182 (by decide) ?_
                              refine lv_iinc (v := (nI (i_137 + 1))) (lv' := [(10, .int (nI (i_137 + 1))), (12, .long r_170), (11, .int v_163), (8, .long x8_137), (6, .long r_86), (0, .ref mo), (1, .int (nI j_2)), (2, .int (nI j_10)), (3, .int p3), (4, .int p4), (5, .int p5)]) hx hb dX8_agrees_384 hl (k := 2) rfl (nI_1 _) (by decide) rfl (fun ls hl => ?_)
                              refine lv_goto (tgt := 137) hx hb dX8_agrees_387 (by decide) ?_
                              exact ih_137 _ (by omega) _ _ _ ⟨(i_137 + 1), x8_137, fm9_137, fm10_137, fm11_137, by omega, hP, hD, hS, lv_sub hl [0, 3, 4, 5, 6, 7, 8, 9, 10] rfl, rfl⟩
                          · skip
                            refine lv_goto (tgt := 384) hx hb dX8_agrees_154 (by decide) ?_
                            refine lv_iinc (v := (nI (i_137 + 1))) (lv' := [(10, .int (nI (i_137 + 1))), (8, .long x8_137), (6, .long r_86), (0, .ref mo), (1, .int (nI j_2)), (2, .int (nI j_10)), (3, .int p3), (4, .int p4), (5, .int p5)]) hx hb dX8_agrees_384 hl (k := 0) rfl (nI_1 _) (by decide) rfl (fun ls hl => ?_)
                            refine lv_goto (tgt := 137) hx hb dX8_agrees_387 (by decide) ?_
                            exact ih_137 _ (by omega) _ _ _ ⟨(i_137 + 1), x8_137, fm9_137, fm10_137, fm11_137, by omega, hP, hD, hS, lv_sub hl [0, 1, 2, 3, 4, 5, 6, 7, 8] rfl, rfl⟩
                      · skip
                        have d_102 : ¬ 200 ≤ i_97 := fun h => c_102 ((nI_leI (a := 200) (b := i_97) (by omega) (by omega)).mpr h)
                        refine lv_aload_n hx hb dX8_agrees_105 rfl (lv_at hl 3 rfl) ?_
                        refine va_get (D := (dC, dI)) (ci := 8) (v := .ref m9) (C := RX8) (T := TX8) (N := 17) hx hb hts hiX8 hown hK hP 0 rfl rfl 9 (by decide) (hts (.fieldLink RX8 33 "MadeItSoModel" "up" "[J") (by decide +kernel)) (fun _ h9 => h9) rfl dX8_agrees_106 ?_
                        refine lv_iload hx hb dX8_agrees_109 (lv_at hl 0 rfl) ?_
                        refine lv_lconst (v := 0) hx hb dX8_agrees_111 (by decide +kernel) ?_
                        refine va_last hx hb hK hP hD hS 3 1 rfl rfl (vp_in_nI (by omega) (by omega)) dX8_agrees_112 (fun H locs hP hD hS => ?_)
                        have hP : va_P (dC, dI) vwCl [(mo, .inr (8, [.int (nI n), .ref m1, .ref m2, .ref m3, .long ka, .long kb, .ref m6, .ref m7, .ref m8, .ref m9, .ref m10, .ref m11, .ref m12, .ref m13, .ref m14, .ref m15, .ref m16])), (m2, .inl (cI, 8, .inl fp)), (m3, .inl (cI, 1024, .inl fb)), (m9, .inl (cJ, 200, .inr (.inl (vp_updL fm9_97 ((nI i_97) : Int32).toNatClampNeg 0)))), (m10, .inl (cJ, 200, .inr (.inl fm10_97))), (m11, .inl (cJ, 200, .inr (.inl fh)))] H := hP
                        have hD : va_D A [(mo, .inr (8, [.int (nI n), .ref m1, .ref m2, .ref m3, .long ka, .long kb, .ref m6, .ref m7, .ref m8, .ref m9, .ref m10, .ref m11, .ref m12, .ref m13, .ref m14, .ref m15, .ref m16])), (m2, .inl (cI, 8, .inl fp)), (m3, .inl (cI, 1024, .inl fb)), (m9, .inl (cJ, 200, .inr (.inl (vp_updL fm9_97 ((nI i_97) : Int32).toNatClampNeg 0)))), (m10, .inl (cJ, 200, .inr (.inl fm10_97))), (m11, .inl (cJ, 200, .inr (.inl fh)))] := hD
                        generalize (vp_updL fm9_97 ((nI i_97) : Int32).toNatClampNeg 0) = f_112 at hP hD
                        refine lv_aload_n hx hb dX8_agrees_113 rfl (lv_at hl 3 rfl) ?_
                        refine va_get (D := (dC, dI)) (ci := 8) (v := .ref m10) (C := RX8) (T := TX8) (N := 17) hx hb hts hiX8 hown hK hP 0 rfl rfl 10 (by decide) (hts (.fieldLink RX8 37 "MadeItSoModel" "down" "[J") (by decide +kernel)) (fun _ h9 => h9) rfl dX8_agrees_114 ?_
                        refine lv_iload hx hb dX8_agrees_117 (lv_at hl 0 rfl) ?_
                        refine lv_lconst (v := 0) hx hb dX8_agrees_119 (by decide +kernel) ?_
                        refine va_last hx hb hK hP hD hS 4 1 rfl rfl (vp_in_nI (by omega) (by omega)) dX8_agrees_120 (fun H locs hP hD hS => ?_)
                        have hP : va_P (dC, dI) vwCl [(mo, .inr (8, [.int (nI n), .ref m1, .ref m2, .ref m3, .long ka, .long kb, .ref m6, .ref m7, .ref m8, .ref m9, .ref m10, .ref m11, .ref m12, .ref m13, .ref m14, .ref m15, .ref m16])), (m2, .inl (cI, 8, .inl fp)), (m3, .inl (cI, 1024, .inl fb)), (m9, .inl (cJ, 200, .inr (.inl f_112))), (m10, .inl (cJ, 200, .inr (.inl (vp_updL fm10_97 ((nI i_97) : Int32).toNatClampNeg 0)))), (m11, .inl (cJ, 200, .inr (.inl fh)))] H := hP
                        have hD : va_D A [(mo, .inr (8, [.int (nI n), .ref m1, .ref m2, .ref m3, .long ka, .long kb, .ref m6, .ref m7, .ref m8, .ref m9, .ref m10, .ref m11, .ref m12, .ref m13, .ref m14, .ref m15, .ref m16])), (m2, .inl (cI, 8, .inl fp)), (m3, .inl (cI, 1024, .inl fb)), (m9, .inl (cJ, 200, .inr (.inl f_112))), (m10, .inl (cJ, 200, .inr (.inl (vp_updL fm10_97 ((nI i_97) : Int32).toNatClampNeg 0)))), (m11, .inl (cJ, 200, .inr (.inl fh)))] := hD
                        generalize (vp_updL fm10_97 ((nI i_97) : Int32).toNatClampNeg 0) = f_120 at hP hD
                        refine lv_iinc (v := (nI (i_97 + 1))) (lv' := [(10, .int (nI (i_97 + 1))), (8, .long 0), (6, .long r_86), (0, .ref mo), (1, .int (nI j_2)), (2, .int (nI j_10)), (3, .int p3), (4, .int p4), (5, .int p5)]) hx hb dX8_agrees_121 hl (k := 0) rfl (nI_1 _) (by decide) rfl (fun ls hl => ?_)
                        refine lv_goto (tgt := 97) hx hb dX8_agrees_124 (by decide) ?_
                        exact ih_97 _ (by omega) _ _ _ ⟨(i_97 + 1), f_112, f_120, by omega, hP, hD, hS, lv_sub hl [0, 1, 2, 3, 4, 5, 6, 7, 8] rfl, rfl⟩
                    · skip
                      refine lv_iconst (v := (-1)) hx hb dX8_agrees_69 (by decide +kernel) ?_
                      have hP9 := hP.sub (ws' := [(mo, .inr (8, [.int (nI n), .ref m1, .ref m2, .ref m3, .long ka, .long kb, .ref m6, .ref m7, .ref m8, .ref m9, .ref m10, .ref m11, .ref m12, .ref m13, .ref m14, .ref m15, .ref m16])), (m2, .inl (cI, 8, .inl fp)), (m3, .inl (cI, 1024, .inl fb)), (m9, .inl (cJ, 200, .inr (.inl fu))), (m10, .inl (cJ, 200, .inr (.inl fd))), (m11, .inl (cJ, 200, .inr (.inl fh)))]) [0, 1, 2, 3, 4, 5] rfl
                      have hD9 := hD.sub (ws' := [(mo, .inr (8, [.int (nI n), .ref m1, .ref m2, .ref m3, .long ka, .long kb, .ref m6, .ref m7, .ref m8, .ref m9, .ref m10, .ref m11, .ref m12, .ref m13, .ref m14, .ref m15, .ref m16])), (m2, .inl (cI, 8, .inl fp)), (m3, .inl (cI, 1024, .inl fb)), (m9, .inl (cJ, 200, .inr (.inl fu))), (m10, .inl (cJ, 200, .inr (.inl fd))), (m11, .inl (cJ, 200, .inr (.inl fh)))]) [0, 1, 2, 3, 4, 5] (by decide) rfl
                      refine W.widen (k := 0) (n := 0) (Nat.le_of_ble_eq_true rfl) (Nat.le_of_ble_eq_true rfl) ?_
                      exact W.iret (v := (-1)) hx hb hr (fun t ht hW => ⟨⟨(-1), (), rfl, trivial, fu, fd, fh, by rw [ht]; exact hP9, hD9⟩, hS.F ht⟩) hS.2.2 dX8_agrees_70
    · skip
      refine lv_if_eq (tgt := 69) hx hb dX8_agrees_13 (by decide) (fun _ => ?_) (fun c_13 => absurd (by decide +kernel) c_13)
      refine lv_iconst (v := (-1)) hx hb dX8_agrees_69 (by decide +kernel) ?_
      have hP9 := hP.sub (ws' := [(mo, .inr (8, [.int (nI n), .ref m1, .ref m2, .ref m3, .long ka, .long kb, .ref m6, .ref m7, .ref m8, .ref m9, .ref m10, .ref m11, .ref m12, .ref m13, .ref m14, .ref m15, .ref m16])), (m2, .inl (cI, 8, .inl fp)), (m3, .inl (cI, 1024, .inl fb)), (m9, .inl (cJ, 200, .inr (.inl fu))), (m10, .inl (cJ, 200, .inr (.inl fd))), (m11, .inl (cJ, 200, .inr (.inl fh)))]) [0, 1, 2, 3, 4, 5] rfl
      have hD9 := hD.sub (ws' := [(mo, .inr (8, [.int (nI n), .ref m1, .ref m2, .ref m3, .long ka, .long kb, .ref m6, .ref m7, .ref m8, .ref m9, .ref m10, .ref m11, .ref m12, .ref m13, .ref m14, .ref m15, .ref m16])), (m2, .inl (cI, 8, .inl fp)), (m3, .inl (cI, 1024, .inl fb)), (m9, .inl (cJ, 200, .inr (.inl fu))), (m10, .inl (cJ, 200, .inr (.inl fd))), (m11, .inl (cJ, 200, .inr (.inl fh)))]) [0, 1, 2, 3, 4, 5] (by decide) rfl
      refine W.widen (k := 0) (n := 0) (Nat.le_of_ble_eq_true rfl) (Nat.le_of_ble_eq_true rfl) ?_
      exact W.iret (v := (-1)) hx hb hr (fun t ht hW => ⟨⟨(-1), (), rfl, trivial, fu, fd, fh, by rw [ht]; exact hP9, hD9⟩, hS.F ht⟩) hS.2.2 dX8_agrees_70
  · skip
    refine lv_if_eq (tgt := 69) hx hb dX8_agrees_5 (by decide) (fun _ => ?_) (fun c_5 => absurd (by decide +kernel) c_5)
    refine lv_iconst (v := (-1)) hx hb dX8_agrees_69 (by decide +kernel) ?_
    have hP9 := hP.sub (ws' := [(mo, .inr (8, [.int (nI n), .ref m1, .ref m2, .ref m3, .long ka, .long kb, .ref m6, .ref m7, .ref m8, .ref m9, .ref m10, .ref m11, .ref m12, .ref m13, .ref m14, .ref m15, .ref m16])), (m2, .inl (cI, 8, .inl fp)), (m3, .inl (cI, 1024, .inl fb)), (m9, .inl (cJ, 200, .inr (.inl fu))), (m10, .inl (cJ, 200, .inr (.inl fd))), (m11, .inl (cJ, 200, .inr (.inl fh)))]) [0, 1, 2, 3, 4, 5] rfl
    have hD9 := hD.sub (ws' := [(mo, .inr (8, [.int (nI n), .ref m1, .ref m2, .ref m3, .long ka, .long kb, .ref m6, .ref m7, .ref m8, .ref m9, .ref m10, .ref m11, .ref m12, .ref m13, .ref m14, .ref m15, .ref m16])), (m2, .inl (cI, 8, .inl fp)), (m3, .inl (cI, 1024, .inl fb)), (m9, .inl (cJ, 200, .inr (.inl fu))), (m10, .inl (cJ, 200, .inr (.inl fd))), (m11, .inl (cJ, 200, .inr (.inl fh)))]) [0, 1, 2, 3, 4, 5] (by decide) rfl
    refine W.widen (k := 0) (n := 0) (Nat.le_of_ble_eq_true rfl) (Nat.le_of_ble_eq_true rfl) ?_
    exact W.iret (v := (-1)) hx hb hr (fun t ht hW => ⟨⟨(-1), (), rfl, trivial, fu, fd, fh, by rw [ht]; exact hP9, hD9⟩, hS.F ht⟩) hS.2.2 dX8_agrees_70
set_option maxHeartbeats 1000000 in
set_option maxRecDepth 100000 in
theorem mz_m_weight (l : Launch) (dC : Nat → ClassId) (dI : Nat → Nat → Nat) (cI cJ cZ : ClassId) (mo : Nat) (m1 : Nat) (m2 : Nat) (m3 : Nat) (m6 : Nat) (m7 : Nat) (m8 : Nat) (m9 : Nat) (m10 : Nat) (m11 : Nat) (m12 : Nat) (m13 : Nat) (m14 : Nat) (m15 : Nat) (m16 : Nat) (n : Nat) (ka : Int64) (kb : Int64) (fp : Nat → Int32) (fb : Nat → Int32) (p1 : Int32) (p2 : Int32) (Hq : Heap) (hn : n ≤ 8) (ha : mz_acy n fp) : Met l yX8_weight wsX8_weight ({ frames := 3, cells := 0, slots := 0, locals := 76 }) (va_Pc [.ref mo, .int p1, .int p2] (fun U => U.heap = Hq ∧ va_P (dC, dI) vwCl [(mo, .inr (8, [.int (nI n), .ref m1, .ref m2, .ref m3, .long ka, .long kb, .ref m6, .ref m7, .ref m8, .ref m9, .ref m10, .ref m11, .ref m12, .ref m13, .ref m14, .ref m15, .ref m16])), (m2, .inl (cI, 8, .inl fp)), (m3, .inl (cI, 1024, .inl fb))] Hq ∧ va_K (dC, dI) vwCl [(cI, FieldType.int), (cJ, FieldType.long), (cZ, FieldType.boolean)] U ∧ mz_N U)) (va_Ql (fun (r : Int64) (_ : Unit) => True) (fun _ t => t.heap = Hq) (fun _ : Nat => False)) 0 0 (fun _ : Nat => False) := by
  refine Met.ofW (cc := cX8_weight) (maxL := 3) (ret := (some .long)) (by decide) rfl ?_
  intro p e s m args below meth c s₁ B hml hv
  obtain ⟨rfl, hH, hP, hK, hN⟩ := hv
  subst hH
  have hx := B.exec
  have hb := B.bytes
  have hr := B.returns
  have hts := atoms_spec (ws := wsX8_weight) B.pre
  have hown : s.vm.findClass RX8 = some m.cls := findClass_of_methodNamed B.named
  have hlocks := B.notSynchronized
  have hS : va_S (fun _ : Nat => False) s.heap s.heap [] := va_S.rf
  have hl := lv_entry ([.ref mo, .int p1, .int p2]) (n := 3) (Nat.le_of_ble_eq_true rfl)
  rw [lg_entry_eq]
  generalize (lg_sl ([.ref mo, .int p1, .int p2]) ++ List.replicate (3 - (lg_sl ([.ref mo, .int p1, .int p2])).length) Slot.unset).toArray = ls at hl ⊢
  have hl : lv_has ls 3 [(0, .ref mo), (1, .int p1), (2, .int p2)] := hl
  refine lv_aload_n hx hb dX8_weight_0 rfl (lv_at hl 0 rfl) ?_
  refine lv_iload_n hx hb dX8_weight_1 rfl (lv_at hl 1 rfl) ?_
  have hPc := hP.sub (ws' := [(mo, .inr (8, [.int (nI n), .ref m1, .ref m2, .ref m3, .long ka, .long kb, .ref m6, .ref m7, .ref m8, .ref m9, .ref m10, .ref m11, .ref m12, .ref m13, .ref m14, .ref m15, .ref m16]))]) [0] rfl
  refine va_calli (va_runV (As := [.int p1]) (rest := []) ⟨hx, hb, hml, hown, hts⟩ (mz_m_isSetting l dC dI cI cJ cZ mo m1 m2 m3 m6 m7 m8 m9 m10 m11 m12 m13 m14 m15 m16 n ka kb p1 s.heap (by first | assumption | omega)) (cwV 1 hts gX8_weight_X8_isSetting rfl rfl rfl (by decide +kernel) ⟨Nat.le_of_ble_eq_true rfl, Nat.le_of_ble_eq_true rfl⟩) ⟨fun a U g mk q => mz_blP q, va_recv hK hPc (ci := 8) (q0 := 0) rfl rfl, fun U hU hW => ⟨rfl, hU, hPc, va_K.moved hW.alike hK, mz_nw hW hN⟩⟩ rfl rfl hl.1 rfl (lv_room (Nat.le_of_ble_eq_true rfl)) dX8_weight_2 ⟨Nat.le_of_ble_eq_true rfl, Nat.le_of_ble_eq_true rfl⟩) hS (fun q _ h => h.elim) (fun q h => h.elim) (fun r_2 u t H1 locs ht hvm hw_2 hB hz1 hk1 hS => ?_)
  have hE : s.heap = H1 := hB.symm.trans ht
  subst hE
  refine lv_if_eq (tgt := 25) hx hb dX8_weight_5 (by decide) (fun c_5 => ?_) (fun c_5 => ?_)
  · skip
    refine lv_ldc2 hx hb hown (hts (.constantLong RX8 108 (-1)) (by decide +kernel)) dX8_weight_25 ?_
    refine W.widen (k := 0) (n := 0) (Nat.le_of_ble_eq_true rfl) (Nat.le_of_ble_eq_true rfl) ?_
    exact W.lret (v := (-1)) hx hb hr (fun t ht hW => ⟨⟨(-1), (), rfl, trivial, ht⟩, hS.F ht⟩) hS.2.2 dX8_weight_28
  · skip
    refine lv_aload_n hx hb dX8_weight_8 rfl (lv_at hl 0 rfl) ?_
    refine lv_iload_n hx hb dX8_weight_9 rfl (lv_at hl 2 rfl) ?_
    have hPc := hP.sub (ws' := [(mo, .inr (8, [.int (nI n), .ref m1, .ref m2, .ref m3, .long ka, .long kb, .ref m6, .ref m7, .ref m8, .ref m9, .ref m10, .ref m11, .ref m12, .ref m13, .ref m14, .ref m15, .ref m16]))]) [0] rfl
    refine va_calli (va_runV (As := [.int p2]) (rest := []) ⟨hx, hb, hml, hown, hts⟩ (mz_m_isSetting l dC dI cI cJ cZ mo m1 m2 m3 m6 m7 m8 m9 m10 m11 m12 m13 m14 m15 m16 n ka kb p2 s.heap (by first | assumption | omega)) (cwV 1 hts gX8_weight_X8_isSetting rfl rfl rfl (by decide +kernel) ⟨Nat.le_of_ble_eq_true rfl, Nat.le_of_ble_eq_true rfl⟩) ⟨fun a U g mk q => mz_blP q, va_recv hK hPc (ci := 8) (q0 := 0) rfl rfl, fun U hU hW => ⟨rfl, hU, hPc, va_K.moved hW.alike hK, mz_nw hW hN⟩⟩ rfl rfl hl.1 rfl (lv_room (Nat.le_of_ble_eq_true rfl)) dX8_weight_10 ⟨Nat.le_of_ble_eq_true rfl, Nat.le_of_ble_eq_true rfl⟩) hS (fun q _ h => h.elim) (fun q h => h.elim) (fun r_10 u t H1 locs ht hvm hw_10 hB hz1 hk1 hS => ?_)
    have hE : s.heap = H1 := hB.symm.trans ht
    subst hE
    refine lv_if_eq (tgt := 25) hx hb dX8_weight_13 (by decide) (fun c_13 => ?_) (fun c_13 => ?_)
    · skip
      refine lv_ldc2 hx hb hown (hts (.constantLong RX8 108 (-1)) (by decide +kernel)) dX8_weight_25 ?_
      refine W.widen (k := 0) (n := 0) (Nat.le_of_ble_eq_true rfl) (Nat.le_of_ble_eq_true rfl) ?_
      exact W.lret (v := (-1)) hx hb hr (fun t ht hW => ⟨⟨(-1), (), rfl, trivial, ht⟩, hS.F ht⟩) hS.2.2 dX8_weight_28
    · skip
      refine lv_aload_n hx hb dX8_weight_16 rfl (lv_at hl 0 rfl) ?_
      refine lv_iload_n hx hb dX8_weight_17 rfl (lv_at hl 1 rfl) ?_
      refine lv_iload_n hx hb dX8_weight_18 rfl (lv_at hl 2 rfl) ?_
      have hPc := hP.sub (ws' := [(mo, .inr (8, [.int (nI n), .ref m1, .ref m2, .ref m3, .long ka, .long kb, .ref m6, .ref m7, .ref m8, .ref m9, .ref m10, .ref m11, .ref m12, .ref m13, .ref m14, .ref m15, .ref m16])), (m2, .inl (cI, 8, .inl fp)), (m3, .inl (cI, 1024, .inl fb))]) [0, 1, 2] rfl
      refine va_calll (va_runV (As := [.int p1, .int p2]) (rest := []) ⟨hx, hb, hml, hown, hts⟩ (mz_m_sum l dC dI cI cJ cZ mo m1 m2 m3 m6 m7 m8 m9 m10 m11 m12 m13 m14 m15 m16 n ka kb fp fb p1 p2 s.heap (by first | assumption | omega) (by first | assumption | omega)) (cwV 2 hts gX8_weight_X8_sum rfl rfl rfl (by decide +kernel) ⟨Nat.le_of_ble_eq_true rfl, Nat.le_of_ble_eq_true rfl⟩) ⟨fun a U g mk q => mz_blP q, va_recv hK hPc (ci := 8) (q0 := 0) rfl rfl, fun U hU hW => ⟨rfl, hU, hPc, va_K.moved hW.alike hK, mz_nw hW hN⟩⟩ rfl rfl hl.1 rfl (lv_room (Nat.le_of_ble_eq_true rfl)) dX8_weight_19 ⟨Nat.le_of_ble_eq_true rfl, Nat.le_of_ble_eq_true rfl⟩) hS (fun q _ h => h.elim) (fun q h => h.elim) (fun r_19 u t H1 locs ht hvm hw_19 hB hz1 hk1 hS => ?_)
      have hE : s.heap = H1 := hB.symm.trans ht
      subst hE
      refine lv_goto (tgt := 28) hx hb dX8_weight_22 (by decide) ?_
      refine W.widen (k := 0) (n := 0) (Nat.le_of_ble_eq_true rfl) (Nat.le_of_ble_eq_true rfl) ?_
      exact W.lret (v := r_19) hx hb hr (fun t ht hW => ⟨⟨r_19, (), rfl, trivial, ht⟩, hS.F ht⟩) hS.2.2 dX8_weight_28
set_option maxHeartbeats 1000000 in
set_option maxRecDepth 100000 in
theorem mz_m_chance (l : Launch) (dC : Nat → ClassId) (dI : Nat → Nat → Nat) (cI cJ cZ : ClassId) (mo : Nat) (m1 : Nat) (m2 : Nat) (m3 : Nat) (m6 : Nat) (m7 : Nat) (m8 : Nat) (m9 : Nat) (m10 : Nat) (m11 : Nat) (m12 : Nat) (m13 : Nat) (m14 : Nat) (m15 : Nat) (m16 : Nat) (n : Nat) (ka : Int64) (kb : Int64) (fp : Nat → Int32) (fb : Nat → Int32) (p1 : Int32) (p2 : Int32) (p3 : Int32) (sz : Nat) (hn : n ≤ 8) (ha : mz_acy n fp) : Met l yX8_chance wsX8_chance ({ frames := 3, cells := 0, slots := 0, locals := 76 }) (va_Pc [.ref mo, .int p1, .int p2, .int p3] (fun U => U.heap.size = sz ∧ va_P (dC, dI) vwCl [(mo, .inr (8, [.int (nI n), .ref m1, .ref m2, .ref m3, .long ka, .long kb, .ref m6, .ref m7, .ref m8, .ref m9, .ref m10, .ref m11, .ref m12, .ref m13, .ref m14, .ref m15, .ref m16])), (m2, .inl (cI, 8, .inl fp)), (m3, .inl (cI, 1024, .inl fb))] U.heap ∧ va_K (dC, dI) vwCl [(cI, FieldType.int), (cJ, FieldType.long), (cZ, FieldType.boolean)] U ∧ va_D (fun _ => True) [(mo, .inr (8, [.int (nI n), .ref m1, .ref m2, .ref m3, .long ka, .long kb, .ref m6, .ref m7, .ref m8, .ref m9, .ref m10, .ref m11, .ref m12, .ref m13, .ref m14, .ref m15, .ref m16])), (m2, .inl (cI, 8, .inl fp)), (m3, .inl (cI, 1024, .inl fb))] ∧ mz_N U)) (va_Qi (fun (r : Int32) (_ : Unit) => True) (fun _ t => ∃ (gka : Int64), ∃ (gkb : Int64), va_P (dC, dI) vwCl [(mo, .inr (8, [.int (nI n), .ref m1, .ref m2, .ref m3, .long gka, .long gkb, .ref m6, .ref m7, .ref m8, .ref m9, .ref m10, .ref m11, .ref m12, .ref m13, .ref m14, .ref m15, .ref m16])), (m2, .inl (cI, 8, .inl fp)), (m3, .inl (cI, 1024, .inl fb))] t.heap ∧ va_D (va_A [(mo, .inr (8, [.int (nI n), .ref m1, .ref m2, .ref m3, .long ka, .long kb, .ref m6, .ref m7, .ref m8, .ref m9, .ref m10, .ref m11, .ref m12, .ref m13, .ref m14, .ref m15, .ref m16])), (m2, .inl (cI, 8, .inl fp)), (m3, .inl (cI, 1024, .inl fb))] sz) [(mo, .inr (8, [.int (nI n), .ref m1, .ref m2, .ref m3, .long gka, .long gkb, .ref m6, .ref m7, .ref m8, .ref m9, .ref m10, .ref m11, .ref m12, .ref m13, .ref m14, .ref m15, .ref m16])), (m2, .inl (cI, 8, .inl fp)), (m3, .inl (cI, 1024, .inl fb))]) (va_A [(mo, .inr (8, [.int (nI n), .ref m1, .ref m2, .ref m3, .long ka, .long kb, .ref m6, .ref m7, .ref m8, .ref m9, .ref m10, .ref m11, .ref m12, .ref m13, .ref m14, .ref m15, .ref m16])), (m2, .inl (cI, 8, .inl fp)), (m3, .inl (cI, 1024, .inl fb))] sz)) 0 0 (va_A [(mo, .inr (8, [.int (nI n), .ref m1, .ref m2, .ref m3, .long ka, .long kb, .ref m6, .ref m7, .ref m8, .ref m9, .ref m10, .ref m11, .ref m12, .ref m13, .ref m14, .ref m15, .ref m16])), (m2, .inl (cI, 8, .inl fp)), (m3, .inl (cI, 1024, .inl fb))] sz) := by
  refine Met.ofW (cc := cX8_chance) (maxL := 10) (ret := (some .int)) (by decide) rfl ?_
  intro p e s m args below meth c s₁ B hml hv
  obtain ⟨rfl, hsz, hP, hK, hD0, hN⟩ := hv
  subst hsz
  have hx := B.exec
  have hb := B.bytes
  have hr := B.returns
  have hts := atoms_spec (ws := wsX8_chance) B.pre
  have hown : s.vm.findClass RX8 = some m.cls := findClass_of_methodNamed B.named
  have hlocks := B.notSynchronized
  have hD := hD0.self (sz := s.heap.size)
  generalize hAe : va_A [(mo, .inr (8, [.int (nI n), .ref m1, .ref m2, .ref m3, .long ka, .long kb, .ref m6, .ref m7, .ref m8, .ref m9, .ref m10, .ref m11, .ref m12, .ref m13, .ref m14, .ref m15, .ref m16])), (m2, .inl (cI, 8, .inl fp)), (m3, .inl (cI, 1024, .inl fb))] s.heap.size = A at hD ⊢
  have hA : ∀ q : Nat, s.heap.size ≤ q → A q := fun q h => by rw [← hAe]; exact Or.inr h
  have hS : va_S A s.heap s.heap [] := va_S.rf
  have hiX8 : ∀ w ∈ u_ws RX8 TX8 17, w ∈ wsX8_chance := by decide +kernel
  have hl := lv_entry ([.ref mo, .int p1, .int p2, .int p3]) (n := 10) (Nat.le_of_ble_eq_true rfl)
  rw [lg_entry_eq]
  generalize (lg_sl ([.ref mo, .int p1, .int p2, .int p3]) ++ List.replicate (10 - (lg_sl ([.ref mo, .int p1, .int p2, .int p3])).length) Slot.unset).toArray = ls at hl ⊢
  have hl : lv_has ls 10 [(0, .ref mo), (1, .int p1), (2, .int p2), (3, .int p3)] := hl
  obtain ⟨N2, hN2⟩ : ∃ k : Nat, k = 2 ^ n := ⟨_, rfl⟩
  have h2n : N2 ≤ 256 := by rw [hN2]; exact mz_2n hn
  refine lv_aload_n hx hb dX8_chance_0 rfl (lv_at hl 0 rfl) ?_
  refine lv_lconst (v := 0) hx hb dX8_chance_1 (by decide +kernel) ?_
  refine va_put (D := (dC, dI)) (ci := 8) (v := .long 0) (ty := .long) (C := RX8) (T := TX8) (N := 17) hx hb hts hiX8 tyX8 tyX8_ok nmX8 hown hK hP hD hS 0 rfl rfl 4 (by decide) (hts (.fieldLink RX8 110 "MadeItSoModel" "above" "J") (by decide +kernel)) (fun _ h9 => h9) rfl (by decide +kernel) rfl rfl (Nat.le_of_ble_eq_true rfl) dX8_chance_2 (fun H locs hP hD hS => ?_)
  have hP : va_P (dC, dI) vwCl [(mo, .inr (8, [.int (nI n), .ref m1, .ref m2, .ref m3, .long 0, .long kb, .ref m6, .ref m7, .ref m8, .ref m9, .ref m10, .ref m11, .ref m12, .ref m13, .ref m14, .ref m15, .ref m16])), (m2, .inl (cI, 8, .inl fp)), (m3, .inl (cI, 1024, .inl fb))] H := hP
  have hD : va_D A [(mo, .inr (8, [.int (nI n), .ref m1, .ref m2, .ref m3, .long 0, .long kb, .ref m6, .ref m7, .ref m8, .ref m9, .ref m10, .ref m11, .ref m12, .ref m13, .ref m14, .ref m15, .ref m16])), (m2, .inl (cI, 8, .inl fp)), (m3, .inl (cI, 1024, .inl fb))] := hD
  refine lv_aload_n hx hb dX8_chance_5 rfl (lv_at hl 0 rfl) ?_
  refine lv_lconst (v := 1) hx hb dX8_chance_6 (by decide +kernel) ?_
  refine va_put (D := (dC, dI)) (ci := 8) (v := .long 1) (ty := .long) (C := RX8) (T := TX8) (N := 17) hx hb hts hiX8 tyX8 tyX8_ok nmX8 hown hK hP hD hS 0 rfl rfl 5 (by decide) (hts (.fieldLink RX8 20 "MadeItSoModel" "below" "J") (by decide +kernel)) (fun _ h9 => h9) rfl (by decide +kernel) rfl rfl (Nat.le_of_ble_eq_true rfl) dX8_chance_7 (fun H locs hP hD hS => ?_)
  have hP : va_P (dC, dI) vwCl [(mo, .inr (8, [.int (nI n), .ref m1, .ref m2, .ref m3, .long 0, .long 1, .ref m6, .ref m7, .ref m8, .ref m9, .ref m10, .ref m11, .ref m12, .ref m13, .ref m14, .ref m15, .ref m16])), (m2, .inl (cI, 8, .inl fp)), (m3, .inl (cI, 1024, .inl fb))] H := hP
  have hD : va_D A [(mo, .inr (8, [.int (nI n), .ref m1, .ref m2, .ref m3, .long 0, .long 1, .ref m6, .ref m7, .ref m8, .ref m9, .ref m10, .ref m11, .ref m12, .ref m13, .ref m14, .ref m15, .ref m16])), (m2, .inl (cI, 8, .inl fp)), (m3, .inl (cI, 1024, .inl fb))] := hD
  refine lv_aload_n hx hb dX8_chance_10 rfl (lv_at hl 0 rfl) ?_
  refine lv_iload_n hx hb dX8_chance_11 rfl (lv_at hl 1 rfl) ?_
  have hPc := hP.sub (ws' := [(mo, .inr (8, [.int (nI n), .ref m1, .ref m2, .ref m3, .long 0, .long 1, .ref m6, .ref m7, .ref m8, .ref m9, .ref m10, .ref m11, .ref m12, .ref m13, .ref m14, .ref m15, .ref m16]))]) [0] rfl
  refine va_calli (va_runV (As := [.int p1]) (rest := []) ⟨hx, hb, hml, hown, hts⟩ (mz_m_isSetting l dC dI cI cJ cZ mo m1 m2 m3 m6 m7 m8 m9 m10 m11 m12 m13 m14 m15 m16 n 0 1 p1 H (by first | assumption | omega)) (cwV 1 hts gX8_chance_X8_isSetting rfl rfl rfl (by decide +kernel) ⟨Nat.le_of_ble_eq_true rfl, Nat.le_of_ble_eq_true rfl⟩) ⟨fun a U g mk q => mz_blP q, va_recv hK hPc (ci := 8) (q0 := 0) rfl rfl, fun U hU hW => ⟨rfl, hU, hPc, va_K.moved hW.alike hK, mz_nw hW hN⟩⟩ rfl rfl hl.1 rfl (lv_room (Nat.le_of_ble_eq_true rfl)) dX8_chance_12 ⟨Nat.le_of_ble_eq_true rfl, Nat.le_of_ble_eq_true rfl⟩) hS (fun q _ h => h.elim) (fun q h => h.elim) (fun r_12 u t H1 locs ht hvm hw_12 hB hz1 hk1 hS => ?_)
  have hE : H = H1 := hB.symm.trans ht
  subst hE
  refine lv_if_eq (tgt := 34) hx hb dX8_chance_15 (by decide) (fun c_15 => ?_) (fun c_15 => ?_)
  · skip
    refine lv_iconst (v := (-1)) hx hb dX8_chance_34 (by decide +kernel) ?_
    have hP9 := hP.sub (ws' := [(mo, .inr (8, [.int (nI n), .ref m1, .ref m2, .ref m3, .long 0, .long 1, .ref m6, .ref m7, .ref m8, .ref m9, .ref m10, .ref m11, .ref m12, .ref m13, .ref m14, .ref m15, .ref m16])), (m2, .inl (cI, 8, .inl fp)), (m3, .inl (cI, 1024, .inl fb))]) [0, 1, 2] rfl
    have hD9 := hD.sub (ws' := [(mo, .inr (8, [.int (nI n), .ref m1, .ref m2, .ref m3, .long 0, .long 1, .ref m6, .ref m7, .ref m8, .ref m9, .ref m10, .ref m11, .ref m12, .ref m13, .ref m14, .ref m15, .ref m16])), (m2, .inl (cI, 8, .inl fp)), (m3, .inl (cI, 1024, .inl fb))]) [0, 1, 2] (by decide) rfl
    refine W.widen (k := 0) (n := 0) (Nat.le_of_ble_eq_true rfl) (Nat.le_of_ble_eq_true rfl) ?_
    exact W.iret (v := (-1)) hx hb hr (fun t ht hW => ⟨⟨(-1), (), rfl, trivial, 0, 1, by rw [ht]; exact hP9, hD9⟩, hS.F ht⟩) hS.2.2 dX8_chance_35
  · skip
    refine lv_aload_n hx hb dX8_chance_18 rfl (lv_at hl 0 rfl) ?_
    refine lv_iload_n hx hb dX8_chance_19 rfl (lv_at hl 2 rfl) ?_
    have hPc := hP.sub (ws' := [(mo, .inr (8, [.int (nI n), .ref m1, .ref m2, .ref m3, .long 0, .long 1, .ref m6, .ref m7, .ref m8, .ref m9, .ref m10, .ref m11, .ref m12, .ref m13, .ref m14, .ref m15, .ref m16]))]) [0] rfl
    refine va_calli (va_runV (As := [.int p2]) (rest := []) ⟨hx, hb, hml, hown, hts⟩ (mz_m_isSetting l dC dI cI cJ cZ mo m1 m2 m3 m6 m7 m8 m9 m10 m11 m12 m13 m14 m15 m16 n 0 1 p2 H (by first | assumption | omega)) (cwV 1 hts gX8_chance_X8_isSetting rfl rfl rfl (by decide +kernel) ⟨Nat.le_of_ble_eq_true rfl, Nat.le_of_ble_eq_true rfl⟩) ⟨fun a U g mk q => mz_blP q, va_recv hK hPc (ci := 8) (q0 := 0) rfl rfl, fun U hU hW => ⟨rfl, hU, hPc, va_K.moved hW.alike hK, mz_nw hW hN⟩⟩ rfl rfl hl.1 rfl (lv_room (Nat.le_of_ble_eq_true rfl)) dX8_chance_20 ⟨Nat.le_of_ble_eq_true rfl, Nat.le_of_ble_eq_true rfl⟩) hS (fun q _ h => h.elim) (fun q h => h.elim) (fun r_20 u t H1 locs ht hvm hw_20 hB hz1 hk1 hS => ?_)
    have hE : H = H1 := hB.symm.trans ht
    subst hE
    refine lv_if_eq (tgt := 34) hx hb dX8_chance_23 (by decide) (fun c_23 => ?_) (fun c_23 => ?_)
    · skip
      refine lv_iconst (v := (-1)) hx hb dX8_chance_34 (by decide +kernel) ?_
      have hP9 := hP.sub (ws' := [(mo, .inr (8, [.int (nI n), .ref m1, .ref m2, .ref m3, .long 0, .long 1, .ref m6, .ref m7, .ref m8, .ref m9, .ref m10, .ref m11, .ref m12, .ref m13, .ref m14, .ref m15, .ref m16])), (m2, .inl (cI, 8, .inl fp)), (m3, .inl (cI, 1024, .inl fb))]) [0, 1, 2] rfl
      have hD9 := hD.sub (ws' := [(mo, .inr (8, [.int (nI n), .ref m1, .ref m2, .ref m3, .long 0, .long 1, .ref m6, .ref m7, .ref m8, .ref m9, .ref m10, .ref m11, .ref m12, .ref m13, .ref m14, .ref m15, .ref m16])), (m2, .inl (cI, 8, .inl fp)), (m3, .inl (cI, 1024, .inl fb))]) [0, 1, 2] (by decide) rfl
      refine W.widen (k := 0) (n := 0) (Nat.le_of_ble_eq_true rfl) (Nat.le_of_ble_eq_true rfl) ?_
      exact W.iret (v := (-1)) hx hb hr (fun t ht hW => ⟨⟨(-1), (), rfl, trivial, 0, 1, by rw [ht]; exact hP9, hD9⟩, hS.F ht⟩) hS.2.2 dX8_chance_35
    · skip
      refine lv_aload_n hx hb dX8_chance_26 rfl (lv_at hl 0 rfl) ?_
      refine lv_iload_n hx hb dX8_chance_27 rfl (lv_at hl 3 rfl) ?_
      have hPc := hP.sub (ws' := [(mo, .inr (8, [.int (nI n), .ref m1, .ref m2, .ref m3, .long 0, .long 1, .ref m6, .ref m7, .ref m8, .ref m9, .ref m10, .ref m11, .ref m12, .ref m13, .ref m14, .ref m15, .ref m16]))]) [0] rfl
      refine va_calli (va_runV (As := [.int p3]) (rest := []) ⟨hx, hb, hml, hown, hts⟩ (mz_m_isSetting l dC dI cI cJ cZ mo m1 m2 m3 m6 m7 m8 m9 m10 m11 m12 m13 m14 m15 m16 n 0 1 p3 H (by first | assumption | omega)) (cwV 1 hts gX8_chance_X8_isSetting rfl rfl rfl (by decide +kernel) ⟨Nat.le_of_ble_eq_true rfl, Nat.le_of_ble_eq_true rfl⟩) ⟨fun a U g mk q => mz_blP q, va_recv hK hPc (ci := 8) (q0 := 0) rfl rfl, fun U hU hW => ⟨rfl, hU, hPc, va_K.moved hW.alike hK, mz_nw hW hN⟩⟩ rfl rfl hl.1 rfl (lv_room (Nat.le_of_ble_eq_true rfl)) dX8_chance_28 ⟨Nat.le_of_ble_eq_true rfl, Nat.le_of_ble_eq_true rfl⟩) hS (fun q _ h => h.elim) (fun q h => h.elim) (fun r_28 u t H1 locs ht hvm hw_28 hB hz1 hk1 hS => ?_)
      have hE : H = H1 := hB.symm.trans ht
      subst hE
      refine lv_if_ne (tgt := 36) hx hb dX8_chance_31 (by decide) (fun c_31 => ?_) (fun c_31 => ?_)
      · skip
        refine lv_aload_n hx hb dX8_chance_36 rfl (lv_at hl 0 rfl) ?_
        refine lv_iload_n hx hb dX8_chance_37 rfl (lv_at hl 2 rfl) ?_
        refine lv_iload_n hx hb dX8_chance_38 rfl (lv_at hl 3 rfl) ?_
        have hPc := hP.sub (ws' := [(mo, .inr (8, [.int (nI n), .ref m1, .ref m2, .ref m3, .long 0, .long 1, .ref m6, .ref m7, .ref m8, .ref m9, .ref m10, .ref m11, .ref m12, .ref m13, .ref m14, .ref m15, .ref m16])), (m2, .inl (cI, 8, .inl fp)), (m3, .inl (cI, 1024, .inl fb))]) [0, 1, 2] rfl
        refine va_calll (va_runV (As := [.int p2, .int p3]) (rest := []) ⟨hx, hb, hml, hown, hts⟩ (mz_m_sum l dC dI cI cJ cZ mo m1 m2 m3 m6 m7 m8 m9 m10 m11 m12 m13 m14 m15 m16 n 0 1 fp fb p2 p3 H (by first | assumption | omega) (by first | assumption | omega)) (cwV 2 hts gX8_chance_X8_sum rfl rfl rfl (by decide +kernel) ⟨Nat.le_of_ble_eq_true rfl, Nat.le_of_ble_eq_true rfl⟩) ⟨fun a U g mk q => mz_blP q, va_recv hK hPc (ci := 8) (q0 := 0) rfl rfl, fun U hU hW => ⟨rfl, hU, hPc, va_K.moved hW.alike hK, mz_nw hW hN⟩⟩ rfl rfl hl.1 rfl (lv_room (Nat.le_of_ble_eq_true rfl)) dX8_chance_39 ⟨Nat.le_of_ble_eq_true rfl, Nat.le_of_ble_eq_true rfl⟩) hS (fun q _ h => h.elim) (fun q h => h.elim) (fun r_39 u t H1 locs ht hvm hw_39 hB hz1 hk1 hS => ?_)
        have hE : H = H1 := hB.symm.trans ht
        subst hE
        refine lv_lstore (lv' := [(4, .long r_39), (0, .ref mo), (1, .int p1), (2, .int p2), (3, .int p3)]) hx hb dX8_chance_42 hl (by decide) rfl (fun ls hl => ?_)
        refine lv_lload hx hb dX8_chance_44 (lv_at hl 0 rfl) ?_
        refine lv_lconst (v := 0) hx hb dX8_chance_46 (by decide +kernel) ?_
        refine W.lcmp hx hb dX8_chance_47 ?_
        refine lv_if_ne (tgt := 53) hx hb dX8_chance_48 (by decide) (fun c_48 => ?_) (fun c_48 => ?_)
        · skip
          have d_48 := mz_lc0 c_48
          refine lv_lconst (v := 0) hx hb dX8_chance_53 (by decide +kernel) ?_
          refine lv_lstore (lv' := [(6, .long 0), (4, .long r_39), (0, .ref mo), (1, .int p1), (2, .int p2), (3, .int p3)]) hx hb dX8_chance_54 hl (by decide) rfl (fun ls hl => ?_)
          refine lv_iconst (v := 0) hx hb dX8_chance_56 (by decide +kernel) ?_
          refine lv_istore (lv' := [(8, .int 0), (6, .long 0), (4, .long r_39), (0, .ref mo), (1, .int p1), (2, .int p2), (3, .int p3)]) hx hb dX8_chance_57 hl (by decide) rfl (fun ls hl => ?_)
          refine mz_loopU (fun k H locs ls => ∃ (i_59 : Nat), ∃ (x6_59 : Int64), i_59 ≤ N2 ∧ va_P (dC, dI) vwCl [(mo, .inr (8, [.int (nI n), .ref m1, .ref m2, .ref m3, .long 0, .long 1, .ref m6, .ref m7, .ref m8, .ref m9, .ref m10, .ref m11, .ref m12, .ref m13, .ref m14, .ref m15, .ref m16])), (m2, .inl (cI, 8, .inl fp)), (m3, .inl (cI, 1024, .inl fb))] H ∧ va_D A [(mo, .inr (8, [.int (nI n), .ref m1, .ref m2, .ref m3, .long 0, .long 1, .ref m6, .ref m7, .ref m8, .ref m9, .ref m10, .ref m11, .ref m12, .ref m13, .ref m14, .ref m15, .ref m16])), (m2, .inl (cI, 8, .inl fp)), (m3, .inl (cI, 1024, .inl fb))] ∧ va_S A s.heap H locs ∧ lv_has ls 10 [(8, .int (nI i_59)), (6, .long x6_59), (4, .long r_39), (0, .ref mo), (1, .int p1), (2, .int p2), (3, .int p3)] ∧ k = N2 - i_59) ?_ _ _ _ _ ⟨0, 0, by omega, hP, hD, hS, lv_sub hl [0, 1, 2, 3, 4, 5, 6] rfl, rfl⟩
          intro k_59 H locs ls hI_59 ih_59
          obtain ⟨i_59, x6_59, hi_59, hP, hD, hS, hl, hk_59⟩ := hI_59
          refine lv_iload hx hb dX8_chance_59 (lv_at hl 0 rfl) ?_
          refine lv_iconst (v := 1) hx hb dX8_chance_61 (by decide +kernel) ?_
          refine lv_aload_n hx hb dX8_chance_62 rfl (lv_at hl 3 rfl) ?_
          refine va_get (D := (dC, dI)) (ci := 8) (v := .int (nI n)) (C := RX8) (T := TX8) (N := 17) hx hb hts hiX8 hown hK hP 0 rfl rfl 0 (by decide) (hts (.fieldLink RX8 58 "MadeItSoModel" "many" "I") (by decide +kernel)) (fun _ h9 => h9) rfl dX8_chance_63 ?_
          refine lv_ishl hx hb dX8_chance_66 ?_
          refine mz_ti (y := (nI N2)) (by rw [hN2]; exact mz_sh1 (by omega)) ?_
          refine lv_icmp_ge (tgt := 132) hx hb dX8_chance_67 (by decide) (fun c_67 => ?_) (fun c_67 => ?_)
          · skip
            have d_67 : N2 ≤ i_59 := (nI_leI (a := N2) (b := i_59) (by omega) (by omega)).mp c_67
            refine lv_lload hx hb dX8_chance_132 (lv_at hl 1 rfl) ?_
            refine lv_lload hx hb dX8_chance_134 (lv_at hl 2 rfl) ?_
            have hPc := hP.sub (ws' := []) [] rfl
            refine va_calll (va_runS (As := [.long x6_59, .long r_39]) (rest := []) ⟨hx, hb, hml, hown, hts⟩ (mz_m_shared l dC dI cI cJ cZ x6_59 r_39 H (by first | assumption | omega)) (va_cwS 2 hts gX8_chance_X8_shared rfl rfl rfl (by decide +kernel) ⟨Nat.le_of_ble_eq_true rfl, Nat.le_of_ble_eq_true rfl⟩) ⟨fun a U g mk q => mz_blP q, fun U hU hW => ⟨rfl, hU, hPc, va_K.moved hW.alike hK, mz_nw hW hN⟩⟩ rfl rfl hl.1 rfl (lv_room (Nat.le_of_ble_eq_true rfl)) dX8_chance_136 ⟨Nat.le_of_ble_eq_true rfl, Nat.le_of_ble_eq_true rfl⟩) hS (fun q _ h => h.elim) (fun q h => h.elim) (fun r_136 u t H1 locs ht hvm hw_136 hB hz1 hk1 hS => ?_)
            have hE : H = H1 := hB.symm.trans ht
            subst hE
            refine lv_lstore (lv' := [(8, .long r_136), (6, .long x6_59), (4, .long r_39), (0, .ref mo), (1, .int p1), (2, .int p2), (3, .int p3)]) hx hb dX8_chance_139 hl (by decide) rfl (fun ls hl => ?_)
            refine lv_aload_n hx hb dX8_chance_141 rfl (lv_at hl 3 rfl) ?_
            refine lv_lload hx hb dX8_chance_142 (lv_at hl 1 rfl) ?_
            refine lv_lload hx hb dX8_chance_144 (lv_at hl 0 rfl) ?_
            refine lv_ldiv hx hb dX8_chance_146 (by first | assumption | omega) ?_
            refine lv_topl (fun v_146 ev_146 => ?_)
            refine va_put (D := (dC, dI)) (ci := 8) (v := .long v_146) (ty := .long) (C := RX8) (T := TX8) (N := 17) hx hb hts hiX8 tyX8 tyX8_ok nmX8 hown hK hP hD hS 0 rfl rfl 4 (by decide) (hts (.fieldLink RX8 110 "MadeItSoModel" "above" "J") (by decide +kernel)) (fun _ h9 => h9) rfl (by decide +kernel) rfl rfl (Nat.le_of_ble_eq_true rfl) dX8_chance_147 (fun H locs hP hD hS => ?_)
            have hP : va_P (dC, dI) vwCl [(mo, .inr (8, [.int (nI n), .ref m1, .ref m2, .ref m3, .long v_146, .long 1, .ref m6, .ref m7, .ref m8, .ref m9, .ref m10, .ref m11, .ref m12, .ref m13, .ref m14, .ref m15, .ref m16])), (m2, .inl (cI, 8, .inl fp)), (m3, .inl (cI, 1024, .inl fb))] H := hP
            have hD : va_D A [(mo, .inr (8, [.int (nI n), .ref m1, .ref m2, .ref m3, .long v_146, .long 1, .ref m6, .ref m7, .ref m8, .ref m9, .ref m10, .ref m11, .ref m12, .ref m13, .ref m14, .ref m15, .ref m16])), (m2, .inl (cI, 8, .inl fp)), (m3, .inl (cI, 1024, .inl fb))] := hD
            refine lv_aload_n hx hb dX8_chance_150 rfl (lv_at hl 3 rfl) ?_
            refine lv_lload hx hb dX8_chance_151 (lv_at hl 2 rfl) ?_
            refine lv_lload hx hb dX8_chance_153 (lv_at hl 0 rfl) ?_
            refine lv_ldiv hx hb dX8_chance_155 (by first | assumption | omega) ?_
            refine lv_topl (fun v_155 ev_155 => ?_)
            refine va_put (D := (dC, dI)) (ci := 8) (v := .long v_155) (ty := .long) (C := RX8) (T := TX8) (N := 17) hx hb hts hiX8 tyX8 tyX8_ok nmX8 hown hK hP hD hS 0 rfl rfl 5 (by decide) (hts (.fieldLink RX8 20 "MadeItSoModel" "below" "J") (by decide +kernel)) (fun _ h9 => h9) rfl (by decide +kernel) rfl rfl (Nat.le_of_ble_eq_true rfl) dX8_chance_156 (fun H locs hP hD hS => ?_)
            have hP : va_P (dC, dI) vwCl [(mo, .inr (8, [.int (nI n), .ref m1, .ref m2, .ref m3, .long v_146, .long v_155, .ref m6, .ref m7, .ref m8, .ref m9, .ref m10, .ref m11, .ref m12, .ref m13, .ref m14, .ref m15, .ref m16])), (m2, .inl (cI, 8, .inl fp)), (m3, .inl (cI, 1024, .inl fb))] H := hP
            have hD : va_D A [(mo, .inr (8, [.int (nI n), .ref m1, .ref m2, .ref m3, .long v_146, .long v_155, .ref m6, .ref m7, .ref m8, .ref m9, .ref m10, .ref m11, .ref m12, .ref m13, .ref m14, .ref m15, .ref m16])), (m2, .inl (cI, 8, .inl fp)), (m3, .inl (cI, 1024, .inl fb))] := hD
            refine lv_iconst (v := 1) hx hb dX8_chance_159 (by decide +kernel) ?_
            have hP9 := hP.sub (ws' := [(mo, .inr (8, [.int (nI n), .ref m1, .ref m2, .ref m3, .long v_146, .long v_155, .ref m6, .ref m7, .ref m8, .ref m9, .ref m10, .ref m11, .ref m12, .ref m13, .ref m14, .ref m15, .ref m16])), (m2, .inl (cI, 8, .inl fp)), (m3, .inl (cI, 1024, .inl fb))]) [0, 1, 2] rfl
            have hD9 := hD.sub (ws' := [(mo, .inr (8, [.int (nI n), .ref m1, .ref m2, .ref m3, .long v_146, .long v_155, .ref m6, .ref m7, .ref m8, .ref m9, .ref m10, .ref m11, .ref m12, .ref m13, .ref m14, .ref m15, .ref m16])), (m2, .inl (cI, 8, .inl fp)), (m3, .inl (cI, 1024, .inl fb))]) [0, 1, 2] (by decide) rfl
            refine W.widen (k := 0) (n := 0) (Nat.le_of_ble_eq_true rfl) (Nat.le_of_ble_eq_true rfl) ?_
            exact W.iret (v := 1) hx hb hr (fun t ht hW => ⟨⟨1, (), rfl, trivial, v_146, v_155, by rw [ht]; exact hP9, hD9⟩, hS.F ht⟩) hS.2.2 dX8_chance_160
          · skip
            have d_67 : ¬ N2 ≤ i_59 := fun h => c_67 ((nI_leI (a := N2) (b := i_59) (by omega) (by omega)).mpr h)
            refine lv_iload hx hb dX8_chance_70 (lv_at hl 0 rfl) ?_
            refine lv_iload_n hx hb dX8_chance_72 rfl (lv_at hl 4 rfl) ?_
            refine lv_bipush (v := 8) hx hb dX8_chance_73 (by decide +kernel) ?_
            refine lv_ishr hx hb dX8_chance_75 ?_
            refine lv_topi (fun v_75 ev_75 => ?_)
            refine lv_ixor hx hb dX8_chance_76 ?_
            refine lv_topi (fun v_76 ev_76 => ?_)
            refine lv_iload_n hx hb dX8_chance_77 rfl (lv_at hl 4 rfl) ?_
            refine lv_iand hx hb dX8_chance_78 ?_
            refine lv_topi (fun v_78 ev_78 => ?_)
            refine lv_sipush (v := 255) hx hb dX8_chance_79 (by decide +kernel) ?_
            refine lv_iand hx hb dX8_chance_82 ?_
            obtain ⟨a_82, ha_82, ea_82⟩ := pk_andE (v_78) (m := 255) 8 (by decide)
            have ha_82 : a_82 < 256 := ha_82
            refine mz_ti (y := (nI a_82)) ea_82 ?_
            refine lv_if_ne (tgt := 106) hx hb dX8_chance_83 (by decide) (fun c_83 => ?_) (fun c_83 => ?_)
            · skip
              have d_83 : ¬ a_82 = 0 := fun h => c_83 ((nI_eq (a := a_82) (b := 0) (by omega) (by omega)).mpr h)
              refine lv_iconst (v := 0) hx hb dX8_chance_106 (by decide +kernel) ?_
              refine lv_istore (lv' := [(9, .int 0), (8, .int (nI i_59)), (6, .long x6_59), (4, .long r_39), (0, .ref mo), (1, .int p1), (2, .int p2), (3, .int p3)]) hx hb dX8_chance_107 hl (by decide) rfl (fun ls hl => ?_)
              refine lv_iload hx hb dX8_chance_109 (lv_at hl 0 rfl) ?_
              refine lv_if_eq (tgt := 126) hx hb dX8_chance_111 (by decide) (fun _ => ?_) (fun c_111 => absurd (by decide +kernel) c_111)
              refine lv_iinc (v := (nI (i_59 + 1))) (lv' := [(8, .int (nI (i_59 + 1))), (9, .int 0), (6, .long x6_59), (4, .long r_39), (0, .ref mo), (1, .int p1), (2, .int p2), (3, .int p3)]) hx hb dX8_chance_126 hl (k := 1) rfl (nI_1 _) (by decide) rfl (fun ls hl => ?_)
              refine lv_goto (tgt := 59) hx hb dX8_chance_129 (by decide) ?_
              exact ih_59 _ (by omega) _ _ _ ⟨(i_59 + 1), x6_59, by omega, hP, hD, hS, lv_sub hl [0, 2, 3, 4, 5, 6, 7] rfl, rfl⟩
            · skip
              have d_83 : a_82 = 0 := (nI_eq (a := a_82) (b := 0) (by omega) (by omega)).mp c_83
              refine lv_iload hx hb dX8_chance_86 (lv_at hl 0 rfl) ?_
              refine lv_iload_n hx hb dX8_chance_88 rfl (lv_at hl 5 rfl) ?_
              refine lv_bipush (v := 8) hx hb dX8_chance_89 (by decide +kernel) ?_
              refine lv_ishr hx hb dX8_chance_91 ?_
              refine lv_topi (fun v_91 ev_91 => ?_)
              refine lv_ixor hx hb dX8_chance_92 ?_
              refine lv_topi (fun v_92 ev_92 => ?_)
              refine lv_iload_n hx hb dX8_chance_93 rfl (lv_at hl 5 rfl) ?_
              refine lv_iand hx hb dX8_chance_94 ?_
              refine lv_topi (fun v_94 ev_94 => ?_)
              refine lv_sipush (v := 255) hx hb dX8_chance_95 (by decide +kernel) ?_
              refine lv_iand hx hb dX8_chance_98 ?_
              obtain ⟨a_98, ha_98, ea_98⟩ := pk_andE (v_94) (m := 255) 8 (by decide)
              have ha_98 : a_98 < 256 := ha_98
              refine mz_ti (y := (nI a_98)) ea_98 ?_
              refine lv_if_ne (tgt := 106) hx hb dX8_chance_99 (by decide) (fun c_99 => ?_) (fun c_99 => ?_)
              · skip
                have d_99 : ¬ a_98 = 0 := fun h => c_99 ((nI_eq (a := a_98) (b := 0) (by omega) (by omega)).mpr h)
                refine lv_iconst (v := 0) hx hb dX8_chance_106 (by decide +kernel) ?_
                refine lv_istore (lv' := [(9, .int 0), (8, .int (nI i_59)), (6, .long x6_59), (4, .long r_39), (0, .ref mo), (1, .int p1), (2, .int p2), (3, .int p3)]) hx hb dX8_chance_107 hl (by decide) rfl (fun ls hl => ?_)
                refine lv_iload hx hb dX8_chance_109 (lv_at hl 0 rfl) ?_
                refine lv_if_eq (tgt := 126) hx hb dX8_chance_111 (by decide) (fun _ => ?_) (fun c_111 => absurd (by decide +kernel) c_111)
                refine lv_iinc (v := (nI (i_59 + 1))) (lv' := [(8, .int (nI (i_59 + 1))), (9, .int 0), (6, .long x6_59), (4, .long r_39), (0, .ref mo), (1, .int p1), (2, .int p2), (3, .int p3)]) hx hb dX8_chance_126 hl (k := 1) rfl (nI_1 _) (by decide) rfl (fun ls hl => ?_)
                refine lv_goto (tgt := 59) hx hb dX8_chance_129 (by decide) ?_
                exact ih_59 _ (by omega) _ _ _ ⟨(i_59 + 1), x6_59, by omega, hP, hD, hS, lv_sub hl [0, 2, 3, 4, 5, 6, 7] rfl, rfl⟩
              · skip
                have d_99 : a_98 = 0 := (nI_eq (a := a_98) (b := 0) (by omega) (by omega)).mp c_99
                refine lv_iconst (v := 1) hx hb dX8_chance_102 (by decide +kernel) ?_
                refine lv_goto (tgt := 107) hx hb dX8_chance_103 (by decide) ?_
                refine lv_istore (lv' := [(9, .int 1), (8, .int (nI i_59)), (6, .long x6_59), (4, .long r_39), (0, .ref mo), (1, .int p1), (2, .int p2), (3, .int p3)]) hx hb dX8_chance_107 hl (by decide) rfl (fun ls hl => ?_)
                refine lv_iload hx hb dX8_chance_109 (lv_at hl 0 rfl) ?_
                refine lv_if_eq (tgt := 126) hx hb dX8_chance_111 (by decide) (fun c_111 => absurd c_111 (by decide +kernel)) (fun _ => ?_)
                refine lv_lload hx hb dX8_chance_114 (lv_at hl 2 rfl) ?_
                refine lv_aload_n hx hb dX8_chance_116 rfl (lv_at hl 4 rfl) ?_
                refine lv_iload hx hb dX8_chance_117 (lv_at hl 1 rfl) ?_
                refine lv_iload_n hx hb dX8_chance_119 rfl (lv_at hl 7 rfl) ?_
                have hPc := hP.sub (ws' := [(mo, .inr (8, [.int (nI n), .ref m1, .ref m2, .ref m3, .long 0, .long 1, .ref m6, .ref m7, .ref m8, .ref m9, .ref m10, .ref m11, .ref m12, .ref m13, .ref m14, .ref m15, .ref m16])), (m2, .inl (cI, 8, .inl fp)), (m3, .inl (cI, 1024, .inl fb))]) [0, 1, 2] rfl
                refine va_calll (va_runV (As := [.int (nI i_59), .int p3]) (rest := [.long x6_59]) ⟨hx, hb, hml, hown, hts⟩ (mz_m_weightOf l dC dI cI cJ cZ mo m1 m2 m3 m6 m7 m8 m9 m10 m11 m12 m13 m14 m15 m16 n 0 1 fp fb (nI i_59) p3 H (by first | assumption | omega) (by first | assumption | omega)) (cwV 2 hts gX8_chance_X8_weightOf rfl rfl rfl (by decide +kernel) ⟨Nat.le_of_ble_eq_true rfl, Nat.le_of_ble_eq_true rfl⟩) ⟨fun a U g mk q => mz_blP q, va_recv hK hPc (ci := 8) (q0 := 0) rfl rfl, fun U hU hW => ⟨rfl, hU, hPc, va_K.moved hW.alike hK, mz_nw hW hN⟩⟩ rfl rfl hl.1 rfl (lv_room (Nat.le_of_ble_eq_true rfl)) dX8_chance_120 ⟨Nat.le_of_ble_eq_true rfl, Nat.le_of_ble_eq_true rfl⟩) hS (fun q _ h => h.elim) (fun q h => h.elim) (fun r_120 u t H1 locs ht hvm hw_120 hB hz1 hk1 hS => ?_)
                have hE : H = H1 := hB.symm.trans ht
                subst hE
                refine lv_ladd hx hb dX8_chance_123 ?_
                refine lv_topl (fun v_123 ev_123 => ?_)
                refine lv_lstore (lv' := [(6, .long v_123), (9, .int 1), (8, .int (nI i_59)), (4, .long r_39), (0, .ref mo), (1, .int p1), (2, .int p2), (3, .int p3)]) hx hb dX8_chance_124 hl (by decide) rfl (fun ls hl => ?_)
                refine lv_iinc (v := (nI (i_59 + 1))) (lv' := [(8, .int (nI (i_59 + 1))), (6, .long v_123), (9, .int 1), (4, .long r_39), (0, .ref mo), (1, .int p1), (2, .int p2), (3, .int p3)]) hx hb dX8_chance_126 hl (k := 2) rfl (nI_1 _) (by decide) rfl (fun ls hl => ?_)
                refine lv_goto (tgt := 59) hx hb dX8_chance_129 (by decide) ?_
                exact ih_59 _ (by omega) _ _ _ ⟨(i_59 + 1), v_123, by omega, hP, hD, hS, lv_sub hl [0, 1, 3, 4, 5, 6, 7] rfl, rfl⟩
        · skip
          have d_48 := mz_lc1 c_48
          refine lv_iconst (v := 0) hx hb dX8_chance_51 (by decide +kernel) ?_
          have hP9 := hP.sub (ws' := [(mo, .inr (8, [.int (nI n), .ref m1, .ref m2, .ref m3, .long 0, .long 1, .ref m6, .ref m7, .ref m8, .ref m9, .ref m10, .ref m11, .ref m12, .ref m13, .ref m14, .ref m15, .ref m16])), (m2, .inl (cI, 8, .inl fp)), (m3, .inl (cI, 1024, .inl fb))]) [0, 1, 2] rfl
          have hD9 := hD.sub (ws' := [(mo, .inr (8, [.int (nI n), .ref m1, .ref m2, .ref m3, .long 0, .long 1, .ref m6, .ref m7, .ref m8, .ref m9, .ref m10, .ref m11, .ref m12, .ref m13, .ref m14, .ref m15, .ref m16])), (m2, .inl (cI, 8, .inl fp)), (m3, .inl (cI, 1024, .inl fb))]) [0, 1, 2] (by decide) rfl
          refine W.widen (k := 0) (n := 0) (Nat.le_of_ble_eq_true rfl) (Nat.le_of_ble_eq_true rfl) ?_
          exact W.iret (v := 0) hx hb hr (fun t ht hW => ⟨⟨0, (), rfl, trivial, 0, 1, by rw [ht]; exact hP9, hD9⟩, hS.F ht⟩) hS.2.2 dX8_chance_52
      · skip
        refine lv_iconst (v := (-1)) hx hb dX8_chance_34 (by decide +kernel) ?_
        have hP9 := hP.sub (ws' := [(mo, .inr (8, [.int (nI n), .ref m1, .ref m2, .ref m3, .long 0, .long 1, .ref m6, .ref m7, .ref m8, .ref m9, .ref m10, .ref m11, .ref m12, .ref m13, .ref m14, .ref m15, .ref m16])), (m2, .inl (cI, 8, .inl fp)), (m3, .inl (cI, 1024, .inl fb))]) [0, 1, 2] rfl
        have hD9 := hD.sub (ws' := [(mo, .inr (8, [.int (nI n), .ref m1, .ref m2, .ref m3, .long 0, .long 1, .ref m6, .ref m7, .ref m8, .ref m9, .ref m10, .ref m11, .ref m12, .ref m13, .ref m14, .ref m15, .ref m16])), (m2, .inl (cI, 8, .inl fp)), (m3, .inl (cI, 1024, .inl fb))]) [0, 1, 2] (by decide) rfl
        refine W.widen (k := 0) (n := 0) (Nat.le_of_ble_eq_true rfl) (Nat.le_of_ble_eq_true rfl) ?_
        exact W.iret (v := (-1)) hx hb hr (fun t ht hW => ⟨⟨(-1), (), rfl, trivial, 0, 1, by rw [ht]; exact hP9, hD9⟩, hS.F ht⟩) hS.2.2 dX8_chance_35
set_option maxHeartbeats 1000000 in
set_option maxRecDepth 100000 in
theorem mz_m_above (l : Launch) (dC : Nat → ClassId) (dI : Nat → Nat → Nat) (cI cJ cZ : ClassId) (mo : Nat) (m1 : Nat) (m2 : Nat) (m3 : Nat) (m6 : Nat) (m7 : Nat) (m8 : Nat) (m9 : Nat) (m10 : Nat) (m11 : Nat) (m12 : Nat) (m13 : Nat) (m14 : Nat) (m15 : Nat) (m16 : Nat) (n : Nat) (ka : Int64) (kb : Int64) (Hq : Heap)  : Met l yX8_above wsX8_above ({ frames := 0, cells := 0, slots := 0, locals := 0 }) (va_Pc [.ref mo] (fun U => U.heap = Hq ∧ va_P (dC, dI) vwCl [(mo, .inr (8, [.int (nI n), .ref m1, .ref m2, .ref m3, .long ka, .long kb, .ref m6, .ref m7, .ref m8, .ref m9, .ref m10, .ref m11, .ref m12, .ref m13, .ref m14, .ref m15, .ref m16]))] Hq ∧ va_K (dC, dI) vwCl [(cI, FieldType.int), (cJ, FieldType.long), (cZ, FieldType.boolean)] U ∧ mz_N U)) (va_Ql (fun (r : Int64) (_ : Unit) => True) (fun _ t => t.heap = Hq) (fun _ : Nat => False)) 0 0 (fun _ : Nat => False) := by
  refine Met.ofW (cc := cX8_above) (maxL := 1) (ret := (some .long)) (by decide) rfl ?_
  intro p e s m args below meth c s₁ B hml hv
  obtain ⟨rfl, hH, hP, hK, hN⟩ := hv
  subst hH
  have hx := B.exec
  have hb := B.bytes
  have hr := B.returns
  have hts := atoms_spec (ws := wsX8_above) B.pre
  have hown : s.vm.findClass RX8 = some m.cls := findClass_of_methodNamed B.named
  have hlocks := B.notSynchronized
  have hS : va_S (fun _ : Nat => False) s.heap s.heap [] := va_S.rf
  have hiX8 : ∀ w ∈ u_ws RX8 TX8 17, w ∈ wsX8_above := by decide +kernel
  have hl := lv_entry ([.ref mo]) (n := 1) (Nat.le_of_ble_eq_true rfl)
  rw [lg_entry_eq]
  generalize (lg_sl ([.ref mo]) ++ List.replicate (1 - (lg_sl ([.ref mo])).length) Slot.unset).toArray = ls at hl ⊢
  have hl : lv_has ls 1 [(0, .ref mo)] := hl
  refine lv_aload_n hx hb dX8_above_0 rfl (lv_at hl 0 rfl) ?_
  refine va_get (D := (dC, dI)) (ci := 8) (v := .long ka) (C := RX8) (T := TX8) (N := 17) hx hb hts hiX8 hown hK hP 0 rfl rfl 4 (by decide) (hts (.fieldLink RX8 110 "MadeItSoModel" "above" "J") (by decide +kernel)) (fun _ h9 => h9) rfl dX8_above_1 ?_
  refine W.widen (k := 0) (n := 0) (Nat.le_of_ble_eq_true rfl) (Nat.le_of_ble_eq_true rfl) ?_
  exact W.lret (v := ka) hx hb hr (fun t ht hW => ⟨⟨ka, (), rfl, trivial, ht⟩, hS.F ht⟩) hS.2.2 dX8_above_4
set_option maxHeartbeats 1000000 in
set_option maxRecDepth 100000 in
theorem mz_m_below (l : Launch) (dC : Nat → ClassId) (dI : Nat → Nat → Nat) (cI cJ cZ : ClassId) (mo : Nat) (m1 : Nat) (m2 : Nat) (m3 : Nat) (m6 : Nat) (m7 : Nat) (m8 : Nat) (m9 : Nat) (m10 : Nat) (m11 : Nat) (m12 : Nat) (m13 : Nat) (m14 : Nat) (m15 : Nat) (m16 : Nat) (n : Nat) (ka : Int64) (kb : Int64) (Hq : Heap)  : Met l yX8_below wsX8_below ({ frames := 0, cells := 0, slots := 0, locals := 0 }) (va_Pc [.ref mo] (fun U => U.heap = Hq ∧ va_P (dC, dI) vwCl [(mo, .inr (8, [.int (nI n), .ref m1, .ref m2, .ref m3, .long ka, .long kb, .ref m6, .ref m7, .ref m8, .ref m9, .ref m10, .ref m11, .ref m12, .ref m13, .ref m14, .ref m15, .ref m16]))] Hq ∧ va_K (dC, dI) vwCl [(cI, FieldType.int), (cJ, FieldType.long), (cZ, FieldType.boolean)] U ∧ mz_N U)) (va_Ql (fun (r : Int64) (_ : Unit) => True) (fun _ t => t.heap = Hq) (fun _ : Nat => False)) 0 0 (fun _ : Nat => False) := by
  refine Met.ofW (cc := cX8_below) (maxL := 1) (ret := (some .long)) (by decide) rfl ?_
  intro p e s m args below meth c s₁ B hml hv
  obtain ⟨rfl, hH, hP, hK, hN⟩ := hv
  subst hH
  have hx := B.exec
  have hb := B.bytes
  have hr := B.returns
  have hts := atoms_spec (ws := wsX8_below) B.pre
  have hown : s.vm.findClass RX8 = some m.cls := findClass_of_methodNamed B.named
  have hlocks := B.notSynchronized
  have hS : va_S (fun _ : Nat => False) s.heap s.heap [] := va_S.rf
  have hiX8 : ∀ w ∈ u_ws RX8 TX8 17, w ∈ wsX8_below := by decide +kernel
  have hl := lv_entry ([.ref mo]) (n := 1) (Nat.le_of_ble_eq_true rfl)
  rw [lg_entry_eq]
  generalize (lg_sl ([.ref mo]) ++ List.replicate (1 - (lg_sl ([.ref mo])).length) Slot.unset).toArray = ls at hl ⊢
  have hl : lv_has ls 1 [(0, .ref mo)] := hl
  refine lv_aload_n hx hb dX8_below_0 rfl (lv_at hl 0 rfl) ?_
  refine va_get (D := (dC, dI)) (ci := 8) (v := .long kb) (C := RX8) (T := TX8) (N := 17) hx hb hts hiX8 hown hK hP 0 rfl rfl 5 (by decide) (hts (.fieldLink RX8 20 "MadeItSoModel" "below" "J") (by decide +kernel)) (fun _ h9 => h9) rfl dX8_below_1 ?_
  refine W.widen (k := 0) (n := 0) (Nat.le_of_ble_eq_true rfl) (Nat.le_of_ble_eq_true rfl) ?_
  exact W.lret (v := kb) hx hb hr (fun t ht hW => ⟨⟨kb, (), rfl, trivial, ht⟩, hS.F ht⟩) hS.2.2 dX8_below_4
set_option maxHeartbeats 1000000 in
set_option maxRecDepth 100000 in
theorem mz_m_book (l : Launch) (dC : Nat → ClassId) (dI : Nat → Nat → Nat) (cI cJ cZ : ClassId) (mo : Nat) (m1 : Nat) (m2 : Nat) (m3 : Nat) (m6 : Nat) (m7 : Nat) (m8 : Nat) (m9 : Nat) (m10 : Nat) (m11 : Nat) (m12 : Nat) (m13 : Nat) (m14 : Nat) (m15 : Nat) (m16 : Nat) (n : Nat) (ka : Int64) (kb : Int64) (fp : Nat → Int32) (fb : Nat → Int32) (p1 : Int32) (p2 : Int32) (p3 : Int32) (sz : Nat) (hn : n ≤ 8) (ha : mz_acy n fp) : Met l yX8_book wsX8_book ({ frames := 2, cells := 0, slots := 0, locals := 44 }) (va_Pc [.ref mo, .int p1, .int p2, .int p3] (fun U => U.heap.size = sz ∧ va_P (dC, dI) vwCl [(mo, .inr (8, [.int (nI n), .ref m1, .ref m2, .ref m3, .long ka, .long kb, .ref m6, .ref m7, .ref m8, .ref m9, .ref m10, .ref m11, .ref m12, .ref m13, .ref m14, .ref m15, .ref m16])), (m2, .inl (cI, 8, .inl fp)), (m3, .inl (cI, 1024, .inl fb))] U.heap ∧ va_K (dC, dI) vwCl [(cI, FieldType.int), (cJ, FieldType.long), (cZ, FieldType.boolean)] U ∧ va_D (fun _ => True) [(mo, .inr (8, [.int (nI n), .ref m1, .ref m2, .ref m3, .long ka, .long kb, .ref m6, .ref m7, .ref m8, .ref m9, .ref m10, .ref m11, .ref m12, .ref m13, .ref m14, .ref m15, .ref m16])), (m2, .inl (cI, 8, .inl fp)), (m3, .inl (cI, 1024, .inl fb))] ∧ mz_N U)) (va_Qi (fun (r : Int32) (_ : Unit) => r = 0 ∨ r = 1) (fun _ t => ∃ (gb : Nat → Int32), va_P (dC, dI) vwCl [(mo, .inr (8, [.int (nI n), .ref m1, .ref m2, .ref m3, .long ka, .long kb, .ref m6, .ref m7, .ref m8, .ref m9, .ref m10, .ref m11, .ref m12, .ref m13, .ref m14, .ref m15, .ref m16])), (m2, .inl (cI, 8, .inl fp)), (m3, .inl (cI, 1024, .inl gb))] t.heap ∧ va_D (va_A [(mo, .inr (8, [.int (nI n), .ref m1, .ref m2, .ref m3, .long ka, .long kb, .ref m6, .ref m7, .ref m8, .ref m9, .ref m10, .ref m11, .ref m12, .ref m13, .ref m14, .ref m15, .ref m16])), (m2, .inl (cI, 8, .inl fp)), (m3, .inl (cI, 1024, .inl fb))] sz) [(mo, .inr (8, [.int (nI n), .ref m1, .ref m2, .ref m3, .long ka, .long kb, .ref m6, .ref m7, .ref m8, .ref m9, .ref m10, .ref m11, .ref m12, .ref m13, .ref m14, .ref m15, .ref m16])), (m2, .inl (cI, 8, .inl fp)), (m3, .inl (cI, 1024, .inl gb))]) (va_A [(mo, .inr (8, [.int (nI n), .ref m1, .ref m2, .ref m3, .long ka, .long kb, .ref m6, .ref m7, .ref m8, .ref m9, .ref m10, .ref m11, .ref m12, .ref m13, .ref m14, .ref m15, .ref m16])), (m2, .inl (cI, 8, .inl fp)), (m3, .inl (cI, 1024, .inl fb))] sz)) 0 0 (va_A [(mo, .inr (8, [.int (nI n), .ref m1, .ref m2, .ref m3, .long ka, .long kb, .ref m6, .ref m7, .ref m8, .ref m9, .ref m10, .ref m11, .ref m12, .ref m13, .ref m14, .ref m15, .ref m16])), (m2, .inl (cI, 8, .inl fp)), (m3, .inl (cI, 1024, .inl fb))] sz) := by
  refine Met.ofW (cc := cX8_book) (maxL := 4) (ret := (some .boolean)) (by decide) rfl ?_
  intro p e s m args below meth c s₁ B hml hv
  obtain ⟨rfl, hsz, hP, hK, hD0, hN⟩ := hv
  subst hsz
  have hx := B.exec
  have hb := B.bytes
  have hr := B.returns
  have hts := atoms_spec (ws := wsX8_book) B.pre
  have hown : s.vm.findClass RX8 = some m.cls := findClass_of_methodNamed B.named
  have hlocks := B.notSynchronized
  have hD := hD0.self (sz := s.heap.size)
  generalize hAe : va_A [(mo, .inr (8, [.int (nI n), .ref m1, .ref m2, .ref m3, .long ka, .long kb, .ref m6, .ref m7, .ref m8, .ref m9, .ref m10, .ref m11, .ref m12, .ref m13, .ref m14, .ref m15, .ref m16])), (m2, .inl (cI, 8, .inl fp)), (m3, .inl (cI, 1024, .inl fb))] s.heap.size = A at hD ⊢
  have hA : ∀ q : Nat, s.heap.size ≤ q → A q := fun q h => by rw [← hAe]; exact Or.inr h
  have hS : va_S A s.heap s.heap [] := va_S.rf
  have hiX8 : ∀ w ∈ u_ws RX8 TX8 17, w ∈ wsX8_book := by decide +kernel
  have hl := lv_entry ([.ref mo, .int p1, .int p2, .int p3]) (n := 4) (Nat.le_of_ble_eq_true rfl)
  rw [lg_entry_eq]
  generalize (lg_sl ([.ref mo, .int p1, .int p2, .int p3]) ++ List.replicate (4 - (lg_sl ([.ref mo, .int p1, .int p2, .int p3])).length) Slot.unset).toArray = ls at hl ⊢
  have hl : lv_has ls 4 [(0, .ref mo), (1, .int p1), (2, .int p2), (3, .int p3)] := hl
  refine lv_aload_n hx hb dX8_book_0 rfl (lv_at hl 0 rfl) ?_
  refine lv_iload_n hx hb dX8_book_1 rfl (lv_at hl 1 rfl) ?_
  refine lv_iload_n hx hb dX8_book_2 rfl (lv_at hl 2 rfl) ?_
  have hPc := hP.sub (ws' := [(mo, .inr (8, [.int (nI n), .ref m1, .ref m2, .ref m3, .long ka, .long kb, .ref m6, .ref m7, .ref m8, .ref m9, .ref m10, .ref m11, .ref m12, .ref m13, .ref m14, .ref m15, .ref m16])), (m2, .inl (cI, 8, .inl fp))]) [0, 1] rfl
  refine va_calli (va_runV (As := [.int p1, .int p2]) (rest := []) ⟨hx, hb, hml, hown, hts⟩ (mz_m_isRow l dC dI cI cJ cZ mo m1 m2 m3 m6 m7 m8 m9 m10 m11 m12 m13 m14 m15 m16 n ka kb fp p1 p2 s.heap (by first | assumption | omega) (by first | assumption | omega)) (cwV 2 hts gX8_book_X8_isRow rfl rfl rfl (by decide +kernel) ⟨Nat.le_of_ble_eq_true rfl, Nat.le_of_ble_eq_true rfl⟩) ⟨fun a U g mk q => mz_blP q, va_recv hK hPc (ci := 8) (q0 := 0) rfl rfl, fun U hU hW => ⟨rfl, hU, hPc, va_K.moved hW.alike hK, mz_nw hW hN⟩⟩ rfl rfl hl.1 rfl (lv_room (Nat.le_of_ble_eq_true rfl)) dX8_book_3 ⟨Nat.le_of_ble_eq_true rfl, Nat.le_of_ble_eq_true rfl⟩) hS (fun q _ h => h.elim) (fun q h => h.elim) (fun r_3 u t H1 locs ht hvm hw_3 hB hz1 hk1 hS => ?_)
  have hE : s.heap = H1 := hB.symm.trans ht
  subst hE
  rcases (show (r_3 = 1 ∧ ∃ i j : Nat, i < n ∧ j < 128 ∧ p1 = nI i ∧ p2 = nI j) ∨ r_3 = 0 from hw_3) with ⟨rfl, i_3, j_3, hi_3, hj_3, he_3, hf_3⟩ | rfl
  · skip
    subst he_3
    subst hf_3
    refine lv_if_eq (tgt := 19) hx hb dX8_book_6 (by decide) (fun c_6 => absurd c_6 (by decide +kernel)) (fun _ => ?_)
    refine lv_iload_n hx hb dX8_book_9 rfl (lv_at hl 3 rfl) ?_
    refine lv_if_lt (tgt := 19) hx hb dX8_book_10 (by decide) (fun c_10 => ?_) (fun c_10 => ?_)
    · skip
      refine lv_iconst (v := 0) hx hb dX8_book_19 (by decide +kernel) ?_
      have hP9 := hP.sub (ws' := [(mo, .inr (8, [.int (nI n), .ref m1, .ref m2, .ref m3, .long ka, .long kb, .ref m6, .ref m7, .ref m8, .ref m9, .ref m10, .ref m11, .ref m12, .ref m13, .ref m14, .ref m15, .ref m16])), (m2, .inl (cI, 8, .inl fp)), (m3, .inl (cI, 1024, .inl fb))]) [0, 1, 2] rfl
      have hD9 := hD.sub (ws' := [(mo, .inr (8, [.int (nI n), .ref m1, .ref m2, .ref m3, .long ka, .long kb, .ref m6, .ref m7, .ref m8, .ref m9, .ref m10, .ref m11, .ref m12, .ref m13, .ref m14, .ref m15, .ref m16])), (m2, .inl (cI, 8, .inl fp)), (m3, .inl (cI, 1024, .inl fb))]) [0, 1, 2] (by decide) rfl
      refine W.widen (k := 0) (n := 0) (Nat.le_of_ble_eq_true rfl) (Nat.le_of_ble_eq_true rfl) ?_
      exact W.zret (v := 0) hx hb hr (mz_nz (by decide +kernel)) (fun t ht hW => ⟨⟨0, (), rfl, Or.inl rfl, fb, by rw [ht]; exact hP9, hD9⟩, hS.F ht⟩) hS.2.2 dX8_book_20
    · skip
      refine lv_iload_n hx hb dX8_book_13 rfl (lv_at hl 3 rfl) ?_
      refine lv_bipush (v := 100) hx hb dX8_book_14 (by decide +kernel) ?_
      refine lv_icmp_le (tgt := 21) hx hb dX8_book_16 (by decide) (fun c_16 => ?_) (fun c_16 => ?_)
      · skip
        refine lv_aload_n hx hb dX8_book_21 rfl (lv_at hl 0 rfl) ?_
        refine va_get (D := (dC, dI)) (ci := 8) (v := .ref m3) (C := RX8) (T := TX8) (N := 17) hx hb hts hiX8 hown hK hP 0 rfl rfl 3 (by decide) (hts (.fieldLink RX8 17 "MadeItSoModel" "books" "[I") (by decide +kernel)) (fun _ h9 => h9) rfl dX8_book_22 ?_
        refine lv_sipush (v := 128) hx hb dX8_book_25 (by decide +kernel) ?_
        refine lv_iload_n hx hb dX8_book_28 rfl (lv_at hl 1 rfl) ?_
        refine lv_imul hx hb dX8_book_29 ?_
        refine mz_ti (y := (nI (128 * i_3))) (pk_mul _ _) ?_
        refine lv_iload_n hx hb dX8_book_30 rfl (lv_at hl 2 rfl) ?_
        refine lv_iadd hx hb dX8_book_31 ?_
        refine mz_ti (y := (nI (128 * i_3 + j_3))) (nI_add _ _) ?_
        refine lv_iload_n hx hb dX8_book_32 rfl (lv_at hl 3 rfl) ?_
        refine va_iast hx hb hK hP hD hS 2 0 rfl rfl (vp_in_nI (by omega) (by omega)) dX8_book_33 (fun H locs hP hD hS => ?_)
        have hP : va_P (dC, dI) vwCl [(mo, .inr (8, [.int (nI n), .ref m1, .ref m2, .ref m3, .long ka, .long kb, .ref m6, .ref m7, .ref m8, .ref m9, .ref m10, .ref m11, .ref m12, .ref m13, .ref m14, .ref m15, .ref m16])), (m2, .inl (cI, 8, .inl fp)), (m3, .inl (cI, 1024, .inl (upd fb ((nI (128 * i_3 + j_3)) : Int32).toNatClampNeg p3)))] H := hP
        have hD : va_D A [(mo, .inr (8, [.int (nI n), .ref m1, .ref m2, .ref m3, .long ka, .long kb, .ref m6, .ref m7, .ref m8, .ref m9, .ref m10, .ref m11, .ref m12, .ref m13, .ref m14, .ref m15, .ref m16])), (m2, .inl (cI, 8, .inl fp)), (m3, .inl (cI, 1024, .inl (upd fb ((nI (128 * i_3 + j_3)) : Int32).toNatClampNeg p3)))] := hD
        generalize (upd fb ((nI (128 * i_3 + j_3)) : Int32).toNatClampNeg p3) = f_33 at hP hD
        refine lv_iconst (v := 1) hx hb dX8_book_34 (by decide +kernel) ?_
        have hP9 := hP.sub (ws' := [(mo, .inr (8, [.int (nI n), .ref m1, .ref m2, .ref m3, .long ka, .long kb, .ref m6, .ref m7, .ref m8, .ref m9, .ref m10, .ref m11, .ref m12, .ref m13, .ref m14, .ref m15, .ref m16])), (m2, .inl (cI, 8, .inl fp)), (m3, .inl (cI, 1024, .inl f_33))]) [0, 1, 2] rfl
        have hD9 := hD.sub (ws' := [(mo, .inr (8, [.int (nI n), .ref m1, .ref m2, .ref m3, .long ka, .long kb, .ref m6, .ref m7, .ref m8, .ref m9, .ref m10, .ref m11, .ref m12, .ref m13, .ref m14, .ref m15, .ref m16])), (m2, .inl (cI, 8, .inl fp)), (m3, .inl (cI, 1024, .inl f_33))]) [0, 1, 2] (by decide) rfl
        refine W.widen (k := 0) (n := 0) (Nat.le_of_ble_eq_true rfl) (Nat.le_of_ble_eq_true rfl) ?_
        exact W.zret (v := 1) hx hb hr (mz_nz (by decide +kernel)) (fun t ht hW => ⟨⟨1, (), rfl, Or.inr rfl, f_33, by rw [ht]; exact hP9, hD9⟩, hS.F ht⟩) hS.2.2 dX8_book_35
      · skip
        refine lv_iconst (v := 0) hx hb dX8_book_19 (by decide +kernel) ?_
        have hP9 := hP.sub (ws' := [(mo, .inr (8, [.int (nI n), .ref m1, .ref m2, .ref m3, .long ka, .long kb, .ref m6, .ref m7, .ref m8, .ref m9, .ref m10, .ref m11, .ref m12, .ref m13, .ref m14, .ref m15, .ref m16])), (m2, .inl (cI, 8, .inl fp)), (m3, .inl (cI, 1024, .inl fb))]) [0, 1, 2] rfl
        have hD9 := hD.sub (ws' := [(mo, .inr (8, [.int (nI n), .ref m1, .ref m2, .ref m3, .long ka, .long kb, .ref m6, .ref m7, .ref m8, .ref m9, .ref m10, .ref m11, .ref m12, .ref m13, .ref m14, .ref m15, .ref m16])), (m2, .inl (cI, 8, .inl fp)), (m3, .inl (cI, 1024, .inl fb))]) [0, 1, 2] (by decide) rfl
        refine W.widen (k := 0) (n := 0) (Nat.le_of_ble_eq_true rfl) (Nat.le_of_ble_eq_true rfl) ?_
        exact W.zret (v := 0) hx hb hr (mz_nz (by decide +kernel)) (fun t ht hW => ⟨⟨0, (), rfl, Or.inl rfl, fb, by rw [ht]; exact hP9, hD9⟩, hS.F ht⟩) hS.2.2 dX8_book_20
  · skip
    refine lv_if_eq (tgt := 19) hx hb dX8_book_6 (by decide) (fun _ => ?_) (fun c_6 => absurd (by decide +kernel) c_6)
    refine lv_iconst (v := 0) hx hb dX8_book_19 (by decide +kernel) ?_
    have hP9 := hP.sub (ws' := [(mo, .inr (8, [.int (nI n), .ref m1, .ref m2, .ref m3, .long ka, .long kb, .ref m6, .ref m7, .ref m8, .ref m9, .ref m10, .ref m11, .ref m12, .ref m13, .ref m14, .ref m15, .ref m16])), (m2, .inl (cI, 8, .inl fp)), (m3, .inl (cI, 1024, .inl fb))]) [0, 1, 2] rfl
    have hD9 := hD.sub (ws' := [(mo, .inr (8, [.int (nI n), .ref m1, .ref m2, .ref m3, .long ka, .long kb, .ref m6, .ref m7, .ref m8, .ref m9, .ref m10, .ref m11, .ref m12, .ref m13, .ref m14, .ref m15, .ref m16])), (m2, .inl (cI, 8, .inl fp)), (m3, .inl (cI, 1024, .inl fb))]) [0, 1, 2] (by decide) rfl
    refine W.widen (k := 0) (n := 0) (Nat.le_of_ble_eq_true rfl) (Nat.le_of_ble_eq_true rfl) ?_
    exact W.zret (v := 0) hx hb hr (mz_nz (by decide +kernel)) (fun t ht hW => ⟨⟨0, (), rfl, Or.inl rfl, fb, by rw [ht]; exact hP9, hD9⟩, hS.F ht⟩) hS.2.2 dX8_book_20
set_option maxHeartbeats 1000000 in
set_option maxRecDepth 100000 in
theorem mz_m_booked (l : Launch) (dC : Nat → ClassId) (dI : Nat → Nat → Nat) (cI cJ cZ : ClassId) (mo : Nat) (m1 : Nat) (m2 : Nat) (m3 : Nat) (m6 : Nat) (m7 : Nat) (m8 : Nat) (m9 : Nat) (m10 : Nat) (m11 : Nat) (m12 : Nat) (m13 : Nat) (m14 : Nat) (m15 : Nat) (m16 : Nat) (n : Nat) (ka : Int64) (kb : Int64) (fp : Nat → Int32) (fb : Nat → Int32) (p1 : Int32) (p2 : Int32) (Hq : Heap) (hn : n ≤ 8) (ha : mz_acy n fp) : Met l yX8_booked wsX8_booked ({ frames := 2, cells := 0, slots := 0, locals := 44 }) (va_Pc [.ref mo, .int p1, .int p2] (fun U => U.heap = Hq ∧ va_P (dC, dI) vwCl [(mo, .inr (8, [.int (nI n), .ref m1, .ref m2, .ref m3, .long ka, .long kb, .ref m6, .ref m7, .ref m8, .ref m9, .ref m10, .ref m11, .ref m12, .ref m13, .ref m14, .ref m15, .ref m16])), (m2, .inl (cI, 8, .inl fp)), (m3, .inl (cI, 1024, .inl fb))] Hq ∧ va_K (dC, dI) vwCl [(cI, FieldType.int), (cJ, FieldType.long), (cZ, FieldType.boolean)] U ∧ mz_N U)) (va_Qi (fun (r : Int32) (_ : Unit) => True) (fun _ t => t.heap = Hq) (fun _ : Nat => False)) 0 0 (fun _ : Nat => False) := by
  refine Met.ofW (cc := cX8_booked) (maxL := 3) (ret := (some .int)) (by decide) rfl ?_
  intro p e s m args below meth c s₁ B hml hv
  obtain ⟨rfl, hH, hP, hK, hN⟩ := hv
  subst hH
  have hx := B.exec
  have hb := B.bytes
  have hr := B.returns
  have hts := atoms_spec (ws := wsX8_booked) B.pre
  have hown : s.vm.findClass RX8 = some m.cls := findClass_of_methodNamed B.named
  have hlocks := B.notSynchronized
  have hS : va_S (fun _ : Nat => False) s.heap s.heap [] := va_S.rf
  have hiX8 : ∀ w ∈ u_ws RX8 TX8 17, w ∈ wsX8_booked := by decide +kernel
  have hl := lv_entry ([.ref mo, .int p1, .int p2]) (n := 3) (Nat.le_of_ble_eq_true rfl)
  rw [lg_entry_eq]
  generalize (lg_sl ([.ref mo, .int p1, .int p2]) ++ List.replicate (3 - (lg_sl ([.ref mo, .int p1, .int p2])).length) Slot.unset).toArray = ls at hl ⊢
  have hl : lv_has ls 3 [(0, .ref mo), (1, .int p1), (2, .int p2)] := hl
  refine lv_aload_n hx hb dX8_booked_0 rfl (lv_at hl 0 rfl) ?_
  refine lv_iload_n hx hb dX8_booked_1 rfl (lv_at hl 1 rfl) ?_
  refine lv_iload_n hx hb dX8_booked_2 rfl (lv_at hl 2 rfl) ?_
  have hPc := hP.sub (ws' := [(mo, .inr (8, [.int (nI n), .ref m1, .ref m2, .ref m3, .long ka, .long kb, .ref m6, .ref m7, .ref m8, .ref m9, .ref m10, .ref m11, .ref m12, .ref m13, .ref m14, .ref m15, .ref m16])), (m2, .inl (cI, 8, .inl fp))]) [0, 1] rfl
  refine va_calli (va_runV (As := [.int p1, .int p2]) (rest := []) ⟨hx, hb, hml, hown, hts⟩ (mz_m_isRow l dC dI cI cJ cZ mo m1 m2 m3 m6 m7 m8 m9 m10 m11 m12 m13 m14 m15 m16 n ka kb fp p1 p2 s.heap (by first | assumption | omega) (by first | assumption | omega)) (cwV 2 hts gX8_booked_X8_isRow rfl rfl rfl (by decide +kernel) ⟨Nat.le_of_ble_eq_true rfl, Nat.le_of_ble_eq_true rfl⟩) ⟨fun a U g mk q => mz_blP q, va_recv hK hPc (ci := 8) (q0 := 0) rfl rfl, fun U hU hW => ⟨rfl, hU, hPc, va_K.moved hW.alike hK, mz_nw hW hN⟩⟩ rfl rfl hl.1 rfl (lv_room (Nat.le_of_ble_eq_true rfl)) dX8_booked_3 ⟨Nat.le_of_ble_eq_true rfl, Nat.le_of_ble_eq_true rfl⟩) hS (fun q _ h => h.elim) (fun q h => h.elim) (fun r_3 u t H1 locs ht hvm hw_3 hB hz1 hk1 hS => ?_)
  have hE : s.heap = H1 := hB.symm.trans ht
  subst hE
  rcases (show (r_3 = 1 ∧ ∃ i j : Nat, i < n ∧ j < 128 ∧ p1 = nI i ∧ p2 = nI j) ∨ r_3 = 0 from hw_3) with ⟨rfl, i_3, j_3, hi_3, hj_3, he_3, hf_3⟩ | rfl
  · skip
    subst he_3
    subst hf_3
    refine lv_if_eq (tgt := 24) hx hb dX8_booked_6 (by decide) (fun c_6 => absurd c_6 (by decide +kernel)) (fun _ => ?_)
    refine lv_aload_n hx hb dX8_booked_9 rfl (lv_at hl 0 rfl) ?_
    refine va_get (D := (dC, dI)) (ci := 8) (v := .ref m3) (C := RX8) (T := TX8) (N := 17) hx hb hts hiX8 hown hK hP 0 rfl rfl 3 (by decide) (hts (.fieldLink RX8 17 "MadeItSoModel" "books" "[I") (by decide +kernel)) (fun _ h9 => h9) rfl dX8_booked_10 ?_
    refine lv_sipush (v := 128) hx hb dX8_booked_13 (by decide +kernel) ?_
    refine lv_iload_n hx hb dX8_booked_16 rfl (lv_at hl 1 rfl) ?_
    refine lv_imul hx hb dX8_booked_17 ?_
    refine mz_ti (y := (nI (128 * i_3))) (pk_mul _ _) ?_
    refine lv_iload_n hx hb dX8_booked_18 rfl (lv_at hl 2 rfl) ?_
    refine lv_iadd hx hb dX8_booked_19 ?_
    refine mz_ti (y := (nI (128 * i_3 + j_3))) (nI_add _ _) ?_
    refine va_iald hx hb hK hP 2 0 rfl rfl (vp_in_nI (by omega) (by omega)) dX8_booked_20 ?_
    refine lv_topi (fun v_20 ev_20 => ?_)
    refine lv_goto (tgt := 25) hx hb dX8_booked_21 (by decide) ?_
    refine W.widen (k := 0) (n := 0) (Nat.le_of_ble_eq_true rfl) (Nat.le_of_ble_eq_true rfl) ?_
    exact W.iret (v := v_20) hx hb hr (fun t ht hW => ⟨⟨v_20, (), rfl, trivial, ht⟩, hS.F ht⟩) hS.2.2 dX8_booked_25
  · skip
    refine lv_if_eq (tgt := 24) hx hb dX8_booked_6 (by decide) (fun _ => ?_) (fun c_6 => absurd (by decide +kernel) c_6)
    refine lv_iconst (v := (-1)) hx hb dX8_booked_24 (by decide +kernel) ?_
    refine W.widen (k := 0) (n := 0) (Nat.le_of_ble_eq_true rfl) (Nat.le_of_ble_eq_true rfl) ?_
    exact W.iret (v := (-1)) hx hb hr (fun t ht hW => ⟨⟨(-1), (), rfl, trivial, ht⟩, hS.F ht⟩) hS.2.2 dX8_booked_25
set_option maxHeartbeats 1000000 in
set_option maxRecDepth 100000 in
theorem mz_m_told (l : Launch) (dC : Nat → ClassId) (dI : Nat → Nat → Nat) (cI cJ cZ : ClassId) (mo : Nat) (m1 : Nat) (m2 : Nat) (m3 : Nat) (m6 : Nat) (m7 : Nat) (m8 : Nat) (m9 : Nat) (m10 : Nat) (m11 : Nat) (m12 : Nat) (m13 : Nat) (m14 : Nat) (m15 : Nat) (m16 : Nat) (n : Nat) (ka : Int64) (kb : Int64) (fs : Nat → Int32) (fp : Nat → Int32) (p1 : Int32) (p2 : Int32) (Hq : Heap) (hn : n ≤ 8) : Met l yX8_told wsX8_told ({ frames := 2, cells := 0, slots := 0, locals := 50 }) (va_Pc [.ref mo, .int p1, .int p2] (fun U => U.heap = Hq ∧ va_P (dC, dI) vwCl [(mo, .inr (8, [.int (nI n), .ref m1, .ref m2, .ref m3, .long ka, .long kb, .ref m6, .ref m7, .ref m8, .ref m9, .ref m10, .ref m11, .ref m12, .ref m13, .ref m14, .ref m15, .ref m16])), (m1, .inl (cZ, 8, .inl fs)), (m2, .inl (cI, 8, .inl fp))] Hq ∧ va_K (dC, dI) vwCl [(cI, FieldType.int), (cJ, FieldType.long), (cZ, FieldType.boolean)] U ∧ mz_N U)) (va_Qi (fun (r : Int32) (_ : Unit) => True) (fun _ t => t.heap = Hq) (fun _ : Nat => False)) 0 0 (fun _ : Nat => False) := by
  refine Met.ofW (cc := cX8_told) (maxL := 5) (ret := (some .int)) (by decide) rfl ?_
  intro p e s m args below meth c s₁ B hml hv
  obtain ⟨rfl, hH, hP, hK, hN⟩ := hv
  subst hH
  have hx := B.exec
  have hb := B.bytes
  have hr := B.returns
  have hts := atoms_spec (ws := wsX8_told) B.pre
  have hown : s.vm.findClass RX8 = some m.cls := findClass_of_methodNamed B.named
  have hlocks := B.notSynchronized
  have hS : va_S (fun _ : Nat => False) s.heap s.heap [] := va_S.rf
  have hiX8 : ∀ w ∈ u_ws RX8 TX8 17, w ∈ wsX8_told := by decide +kernel
  have hl := lv_entry ([.ref mo, .int p1, .int p2]) (n := 5) (Nat.le_of_ble_eq_true rfl)
  rw [lg_entry_eq]
  generalize (lg_sl ([.ref mo, .int p1, .int p2]) ++ List.replicate (5 - (lg_sl ([.ref mo, .int p1, .int p2])).length) Slot.unset).toArray = ls at hl ⊢
  have hl : lv_has ls 5 [(0, .ref mo), (1, .int p1), (2, .int p2)] := hl
  refine lv_aload_n hx hb dX8_told_0 rfl (lv_at hl 0 rfl) ?_
  refine lv_iload_n hx hb dX8_told_1 rfl (lv_at hl 1 rfl) ?_
  have hPc := hP.sub (ws' := [(mo, .inr (8, [.int (nI n), .ref m1, .ref m2, .ref m3, .long ka, .long kb, .ref m6, .ref m7, .ref m8, .ref m9, .ref m10, .ref m11, .ref m12, .ref m13, .ref m14, .ref m15, .ref m16]))]) [0] rfl
  refine va_calli (va_runV (As := [.int p1]) (rest := []) ⟨hx, hb, hml, hown, hts⟩ (mz_m_isThing l dC dI cI cJ cZ mo m1 m2 m3 m6 m7 m8 m9 m10 m11 m12 m13 m14 m15 m16 n ka kb p1 s.heap (by first | assumption | omega)) (cwV 1 hts gX8_told_X8_isThing rfl rfl rfl (by decide +kernel) ⟨Nat.le_of_ble_eq_true rfl, Nat.le_of_ble_eq_true rfl⟩) ⟨fun a U g mk q => mz_blP q, va_recv hK hPc (ci := 8) (q0 := 0) rfl rfl, fun U hU hW => ⟨rfl, hU, hPc, va_K.moved hW.alike hK, mz_nw hW hN⟩⟩ rfl rfl hl.1 rfl (lv_room (Nat.le_of_ble_eq_true rfl)) dX8_told_2 ⟨Nat.le_of_ble_eq_true rfl, Nat.le_of_ble_eq_true rfl⟩) hS (fun q _ h => h.elim) (fun q h => h.elim) (fun r_2 u t H1 locs ht hvm hw_2 hB hz1 hk1 hS => ?_)
  have hE : s.heap = H1 := hB.symm.trans ht
  subst hE
  rcases (show (r_2 = 1 ∧ ∃ j : Nat, j < n ∧ p1 = nI j) ∨ r_2 = 0 from hw_2) with ⟨rfl, j_2, hj_2, he_2⟩ | rfl
  · skip
    subst he_2
    refine lv_if_ne (tgt := 10) hx hb dX8_told_5 (by decide) (fun _ => ?_) (fun c_5 => absurd c_5 (by decide +kernel))
    refine lv_iconst (v := 0) hx hb dX8_told_10 (by decide +kernel) ?_
    refine lv_istore_n (lv' := [(3, .int 0), (0, .ref mo), (1, .int (nI j_2)), (2, .int p2)]) hx hb dX8_told_11 rfl hl (by decide) rfl (fun ls hl => ?_)
    refine lv_iload_n hx hb dX8_told_12 rfl (lv_at hl 3 rfl) ?_
    by_cases hs_0 : p2 = 0
    · refine mz_ti (y := 0) hs_0 ?_
      refine lv_tableIn (tgt := 44) (off := 31) hx hb dX8_told_13 (by decide +kernel) (by decide +kernel) (by decide +kernel) (by decide) ?_
      refine lv_aload_n hx hb dX8_told_44 rfl (lv_at hl 1 rfl) ?_
      refine va_get (D := (dC, dI)) (ci := 8) (v := .ref m1) (C := RX8) (T := TX8) (N := 17) hx hb hts hiX8 hown hK hP 0 rfl rfl 1 (by decide) (hts (.fieldLink RX8 9 "MadeItSoModel" "isSeen" "[Z") (by decide +kernel)) (fun _ h9 => h9) rfl dX8_told_45 ?_
      refine lv_iload_n hx hb dX8_told_48 rfl (lv_at hl 2 rfl) ?_
      refine va_zald hx hb hK hP 1 2 rfl rfl (vp_in_nI (by omega) (by omega)) dX8_told_49 ?_
      refine lv_topi (fun v_49 ev_49 => ?_)
      refine lv_if_eq (tgt := 57) hx hb dX8_told_50 (by decide) (fun c_50 => ?_) (fun c_50 => ?_)
      · skip
        refine lv_iconst (v := 0) hx hb dX8_told_57 (by decide +kernel) ?_
        refine W.widen (k := 0) (n := 0) (Nat.le_of_ble_eq_true rfl) (Nat.le_of_ble_eq_true rfl) ?_
        exact W.iret (v := 0) hx hb hr (fun t ht hW => ⟨⟨0, (), rfl, trivial, ht⟩, hS.F ht⟩) hS.2.2 dX8_told_58
      · skip
        refine lv_iconst (v := 1) hx hb dX8_told_53 (by decide +kernel) ?_
        refine lv_goto (tgt := 58) hx hb dX8_told_54 (by decide) ?_
        refine W.widen (k := 0) (n := 0) (Nat.le_of_ble_eq_true rfl) (Nat.le_of_ble_eq_true rfl) ?_
        exact W.iret (v := 1) hx hb hr (fun t ht hW => ⟨⟨1, (), rfl, trivial, ht⟩, hS.F ht⟩) hS.2.2 dX8_told_58
    by_cases hs_1 : p2 = 1
    · refine mz_ti (y := 1) hs_1 ?_
      refine lv_tableIn (tgt := 59) (off := 46) hx hb dX8_told_13 (by decide +kernel) (by decide +kernel) (by decide +kernel) (by decide) ?_
      refine lv_aload_n hx hb dX8_told_59 rfl (lv_at hl 1 rfl) ?_
      refine va_get (D := (dC, dI)) (ci := 8) (v := .ref m2) (C := RX8) (T := TX8) (N := 17) hx hb hts hiX8 hown hK hP 0 rfl rfl 2 (by decide) (hts (.fieldLink RX8 13 "MadeItSoModel" "parents" "[I") (by decide +kernel)) (fun _ h9 => h9) rfl dX8_told_60 ?_
      refine lv_iload_n hx hb dX8_told_63 rfl (lv_at hl 2 rfl) ?_
      refine va_iald hx hb hK hP 2 0 rfl rfl (vp_in_nI (by omega) (by omega)) dX8_told_64 ?_
      refine lv_topi (fun v_64 ev_64 => ?_)
      refine W.widen (k := 0) (n := 0) (Nat.le_of_ble_eq_true rfl) (Nat.le_of_ble_eq_true rfl) ?_
      exact W.iret (v := v_64) hx hb hr (fun t ht hW => ⟨⟨v_64, (), rfl, trivial, ht⟩, hS.F ht⟩) hS.2.2 dX8_told_65
    by_cases hs_2 : p2 = 2
    · refine mz_ti (y := 2) hs_2 ?_
      refine lv_tableIn (tgt := 66) (off := 53) hx hb dX8_told_13 (by decide +kernel) (by decide +kernel) (by decide +kernel) (by decide) ?_
      refine lv_iconst (v := 0) hx hb dX8_told_66 (by decide +kernel) ?_
      refine lv_istore (lv' := [(4, .int 0), (3, .int 0), (0, .ref mo), (1, .int (nI j_2)), (2, .int p2)]) hx hb dX8_told_67 hl (by decide) rfl (fun ls hl => ?_)
      refine mz_loopU (fun k H locs ls => ∃ (i_69 : Nat), ∃ (x3_69 : Int32), i_69 ≤ n ∧ H = s.heap ∧ va_S (fun _ : Nat => False) s.heap H locs ∧ lv_has ls 5 [(4, .int (nI i_69)), (3, .int x3_69), (0, .ref mo), (1, .int (nI j_2)), (2, .int p2)] ∧ k = n - i_69) ?_ _ _ _ _ ⟨0, 0, by omega, rfl, hS, lv_sub hl [0, 1, 2, 3, 4] rfl, rfl⟩
      intro k_69 H locs ls hI_69 ih_69
      obtain ⟨i_69, x3_69, hi_69, hH_69, hS, hl, hk_69⟩ := hI_69
      subst hH_69
      refine lv_iload hx hb dX8_told_69 (lv_at hl 0 rfl) ?_
      refine lv_aload_n hx hb dX8_told_71 rfl (lv_at hl 2 rfl) ?_
      refine va_get (D := (dC, dI)) (ci := 8) (v := .int (nI n)) (C := RX8) (T := TX8) (N := 17) hx hb hts hiX8 hown hK hP 0 rfl rfl 0 (by decide) (hts (.fieldLink RX8 58 "MadeItSoModel" "many" "I") (by decide +kernel)) (fun _ h9 => h9) rfl dX8_told_72 ?_
      refine lv_icmp_ge (tgt := 105) hx hb dX8_told_75 (by decide) (fun c_75 => ?_) (fun c_75 => ?_)
      · skip
        have d_75 : n ≤ i_69 := (nI_leI (a := n) (b := i_69) (by omega) (by omega)).mp c_75
        refine lv_iload_n hx hb dX8_told_105 rfl (lv_at hl 1 rfl) ?_
        refine W.widen (k := 0) (n := 0) (Nat.le_of_ble_eq_true rfl) (Nat.le_of_ble_eq_true rfl) ?_
        exact W.iret (v := x3_69) hx hb hr (fun t ht hW => ⟨⟨x3_69, (), rfl, trivial, ht⟩, hS.F ht⟩) hS.2.2 dX8_told_106
      · skip
        have d_75 : ¬ n ≤ i_69 := fun h => c_75 ((nI_leI (a := n) (b := i_69) (by omega) (by omega)).mpr h)
        refine lv_iload_n hx hb dX8_told_78 rfl (lv_at hl 1 rfl) ?_
        refine lv_aload_n hx hb dX8_told_79 rfl (lv_at hl 2 rfl) ?_
        refine lv_iload_n hx hb dX8_told_80 rfl (lv_at hl 3 rfl) ?_
        refine lv_iload hx hb dX8_told_81 (lv_at hl 0 rfl) ?_
        have hPc := hP.sub (ws' := [(mo, .inr (8, [.int (nI n), .ref m1, .ref m2, .ref m3, .long ka, .long kb, .ref m6, .ref m7, .ref m8, .ref m9, .ref m10, .ref m11, .ref m12, .ref m13, .ref m14, .ref m15, .ref m16])), (m2, .inl (cI, 8, .inl fp))]) [0, 2] rfl
        refine va_calli (va_runV (As := [.int (nI j_2), .int (nI i_69)]) (rest := [.int x3_69]) ⟨hx, hb, hml, hown, hts⟩ (mz_m_has_in l dC dI cI cJ cZ mo m1 m2 m3 m6 m7 m8 m9 m10 m11 m12 m13 m14 m15 m16 n ka kb fp j_2 i_69 s.heap (by first | assumption | omega) (by first | assumption | omega) (by first | assumption | omega)) (cwV 2 hts gX8_told_X8_has rfl rfl rfl (by decide +kernel) ⟨Nat.le_of_ble_eq_true rfl, Nat.le_of_ble_eq_true rfl⟩) ⟨fun a U g mk q => mz_blP q, va_recv hK hPc (ci := 8) (q0 := 0) rfl rfl, fun U hU hW => ⟨rfl, hU, hPc, va_K.moved hW.alike hK, mz_nw hW hN⟩⟩ rfl rfl hl.1 rfl (lv_room (Nat.le_of_ble_eq_true rfl)) dX8_told_83 ⟨Nat.le_of_ble_eq_true rfl, Nat.le_of_ble_eq_true rfl⟩) hS (fun q _ h => h.elim) (fun q h => h.elim) (fun r_83 u t H1 locs ht hvm hw_83 hB hz1 hk1 hS => ?_)
        have hE : s.heap = H1 := hB.symm.trans ht
        subst hE
        refine lv_if_eq (tgt := 96) hx hb dX8_told_86 (by decide) (fun c_86 => ?_) (fun c_86 => ?_)
        · skip
          refine lv_iconst (v := 0) hx hb dX8_told_96 (by decide +kernel) ?_
          refine lv_ior hx hb dX8_told_97 ?_
          refine lv_topi (fun v_97 ev_97 => ?_)
          refine lv_istore_n (lv' := [(3, .int v_97), (4, .int (nI i_69)), (0, .ref mo), (1, .int (nI j_2)), (2, .int p2)]) hx hb dX8_told_98 rfl hl (by decide) rfl (fun ls hl => ?_)
          refine lv_iinc (v := (nI (i_69 + 1))) (lv' := [(4, .int (nI (i_69 + 1))), (3, .int v_97), (0, .ref mo), (1, .int (nI j_2)), (2, .int p2)]) hx hb dX8_told_99 hl (k := 1) rfl (nI_1 _) (by decide) rfl (fun ls hl => ?_)
          refine lv_goto (tgt := 69) hx hb dX8_told_102 (by decide) ?_
          exact ih_69 _ (by omega) _ _ _ ⟨(i_69 + 1), v_97, by omega, rfl, hS, lv_sub hl [0, 1, 2, 3, 4] rfl, rfl⟩
        · skip
          refine lv_iconst (v := 1) hx hb dX8_told_89 (by decide +kernel) ?_
          refine lv_iload hx hb dX8_told_90 (lv_at hl 0 rfl) ?_
          refine lv_ishl hx hb dX8_told_92 ?_
          refine mz_ti (y := (nI (2 ^ i_69))) (mz_sh1 (by omega)) ?_
          refine lv_goto (tgt := 97) hx hb dX8_told_93 (by decide) ?_
          refine lv_ior hx hb dX8_told_97 ?_
          refine lv_topi (fun v_97 ev_97 => ?_)
          refine lv_istore_n (lv' := [(3, .int v_97), (4, .int (nI i_69)), (0, .ref mo), (1, .int (nI j_2)), (2, .int p2)]) hx hb dX8_told_98 rfl hl (by decide) rfl (fun ls hl => ?_)
          refine lv_iinc (v := (nI (i_69 + 1))) (lv' := [(4, .int (nI (i_69 + 1))), (3, .int v_97), (0, .ref mo), (1, .int (nI j_2)), (2, .int p2)]) hx hb dX8_told_99 hl (k := 1) rfl (nI_1 _) (by decide) rfl (fun ls hl => ?_)
          refine lv_goto (tgt := 69) hx hb dX8_told_102 (by decide) ?_
          exact ih_69 _ (by omega) _ _ _ ⟨(i_69 + 1), v_97, by omega, rfl, hS, lv_sub hl [0, 1, 2, 3, 4] rfl, rfl⟩
    by_cases hs_3 : p2 = 3
    · refine mz_ti (y := 3) hs_3 ?_
      refine lv_tableIn (tgt := 107) (off := 94) hx hb dX8_told_13 (by decide +kernel) (by decide +kernel) (by decide +kernel) (by decide) ?_
      refine lv_aload_n hx hb dX8_told_107 rfl (lv_at hl 1 rfl) ?_
      refine lv_iload_n hx hb dX8_told_108 rfl (lv_at hl 2 rfl) ?_
      refine lv_iconst (v := 0) hx hb dX8_told_109 (by decide +kernel) ?_
      have hPc := hP.sub (ws' := [(mo, .inr (8, [.int (nI n), .ref m1, .ref m2, .ref m3, .long ka, .long kb, .ref m6, .ref m7, .ref m8, .ref m9, .ref m10, .ref m11, .ref m12, .ref m13, .ref m14, .ref m15, .ref m16])), (m2, .inl (cI, 8, .inl fp))]) [0, 2] rfl
      refine va_calli (va_runV (As := [.int (nI j_2), .int 0]) (rest := []) ⟨hx, hb, hml, hown, hts⟩ (mz_m_belowOf l dC dI cI cJ cZ mo m1 m2 m3 m6 m7 m8 m9 m10 m11 m12 m13 m14 m15 m16 n ka kb fp (nI j_2) s.heap (by first | assumption | omega)) (cwV 2 hts gX8_told_X8_belowOf rfl rfl rfl (by decide +kernel) ⟨Nat.le_of_ble_eq_true rfl, Nat.le_of_ble_eq_true rfl⟩) ⟨fun a U g mk q => mz_blP q, va_recv hK hPc (ci := 8) (q0 := 0) rfl rfl, fun U hU hW => ⟨rfl, hU, hPc, va_K.moved hW.alike hK, mz_nw hW hN⟩⟩ rfl rfl hl.1 rfl (lv_room (Nat.le_of_ble_eq_true rfl)) dX8_told_110 ⟨Nat.le_of_ble_eq_true rfl, Nat.le_of_ble_eq_true rfl⟩) hS (fun q _ h => h.elim) (fun q h => h.elim) (fun r_110 u t H1 locs ht hvm hw_110 hB hz1 hk1 hS => ?_)
      have hE : s.heap = H1 := hB.symm.trans ht
      subst hE
      refine W.widen (k := 0) (n := 0) (Nat.le_of_ble_eq_true rfl) (Nat.le_of_ble_eq_true rfl) ?_
      exact W.iret (v := r_110) hx hb hr (fun t ht hW => ⟨⟨r_110, (), rfl, trivial, ht⟩, hS.F ht⟩) hS.2.2 dX8_told_113
    refine lv_tableOut (tgt := 114) hx hb dX8_told_13 (mz_sw3 hs_0 hs_1 hs_2 hs_3) (by decide) ?_
    refine lv_iconst (v := (-1)) hx hb dX8_told_114 (by decide +kernel) ?_
    refine W.widen (k := 0) (n := 0) (Nat.le_of_ble_eq_true rfl) (Nat.le_of_ble_eq_true rfl) ?_
    exact W.iret (v := (-1)) hx hb hr (fun t ht hW => ⟨⟨(-1), (), rfl, trivial, ht⟩, hS.F ht⟩) hS.2.2 dX8_told_115
  · skip
    refine lv_if_ne (tgt := 10) hx hb dX8_told_5 (by decide) (fun c_5 => absurd (by decide +kernel) c_5) (fun _ => ?_)
    refine lv_iconst (v := (-1)) hx hb dX8_told_8 (by decide +kernel) ?_
    refine W.widen (k := 0) (n := 0) (Nat.le_of_ble_eq_true rfl) (Nat.le_of_ble_eq_true rfl) ?_
    exact W.iret (v := (-1)) hx hb hr (fun t ht hW => ⟨⟨(-1), (), rfl, trivial, ht⟩, hS.F ht⟩) hS.2.2 dX8_told_9
set_option maxHeartbeats 1000000 in
set_option maxRecDepth 100000 in
theorem mz_m_otherwise (l : Launch) (dC : Nat → ClassId) (dI : Nat → Nat → Nat) (cI cJ cZ : ClassId) (mo : Nat) (m1 : Nat) (m2 : Nat) (m3 : Nat) (m6 : Nat) (m7 : Nat) (m8 : Nat) (m9 : Nat) (m10 : Nat) (m11 : Nat) (m12 : Nat) (m13 : Nat) (m14 : Nat) (m15 : Nat) (m16 : Nat) (n : Nat) (ka : Int64) (kb : Int64) (fp : Nat → Int32) (fb : Nat → Int32) (p1 : Int32) (p2 : Int32) (p3 : Int32) (Hq : Heap) (hn : n ≤ 8) (ha : mz_acy n fp) : Met l yX8_otherwise wsX8_otherwise ({ frames := 3, cells := 0, slots := 0, locals := 76 }) (va_Pc [.ref mo, .int p1, .int p2, .int p3] (fun U => U.heap = Hq ∧ va_P (dC, dI) vwCl [(mo, .inr (8, [.int (nI n), .ref m1, .ref m2, .ref m3, .long ka, .long kb, .ref m6, .ref m7, .ref m8, .ref m9, .ref m10, .ref m11, .ref m12, .ref m13, .ref m14, .ref m15, .ref m16])), (m2, .inl (cI, 8, .inl fp)), (m3, .inl (cI, 1024, .inl fb))] Hq ∧ va_K (dC, dI) vwCl [(cI, FieldType.int), (cJ, FieldType.long), (cZ, FieldType.boolean)] U ∧ mz_N U)) (va_Ql (fun (r : Int64) (_ : Unit) => True) (fun _ t => t.heap = Hq) (fun _ : Nat => False)) 0 0 (fun _ : Nat => False) := by
  refine Met.ofW (cc := cX8_otherwise) (maxL := 20) (ret := (some .long)) (by decide) rfl ?_
  intro p e s m args below meth c s₁ B hml hv
  obtain ⟨rfl, hH, hP, hK, hN⟩ := hv
  subst hH
  have hx := B.exec
  have hb := B.bytes
  have hr := B.returns
  have hts := atoms_spec (ws := wsX8_otherwise) B.pre
  have hown : s.vm.findClass RX8 = some m.cls := findClass_of_methodNamed B.named
  have hlocks := B.notSynchronized
  have hS : va_S (fun _ : Nat => False) s.heap s.heap [] := va_S.rf
  have hiX8 : ∀ w ∈ u_ws RX8 TX8 17, w ∈ wsX8_otherwise := by decide +kernel
  have hl := lv_entry ([.ref mo, .int p1, .int p2, .int p3]) (n := 20) (Nat.le_of_ble_eq_true rfl)
  rw [lg_entry_eq]
  generalize (lg_sl ([.ref mo, .int p1, .int p2, .int p3]) ++ List.replicate (20 - (lg_sl ([.ref mo, .int p1, .int p2, .int p3])).length) Slot.unset).toArray = ls at hl ⊢
  have hl : lv_has ls 20 [(0, .ref mo), (1, .int p1), (2, .int p2), (3, .int p3)] := hl
  refine lv_aload_n hx hb dX8_otherwise_0 rfl (lv_at hl 0 rfl) ?_
  refine lv_iload_n hx hb dX8_otherwise_1 rfl (lv_at hl 1 rfl) ?_
  have hPc := hP.sub (ws' := [(mo, .inr (8, [.int (nI n), .ref m1, .ref m2, .ref m3, .long ka, .long kb, .ref m6, .ref m7, .ref m8, .ref m9, .ref m10, .ref m11, .ref m12, .ref m13, .ref m14, .ref m15, .ref m16]))]) [0] rfl
  refine va_calli (va_runV (As := [.int p1]) (rest := []) ⟨hx, hb, hml, hown, hts⟩ (mz_m_isThing l dC dI cI cJ cZ mo m1 m2 m3 m6 m7 m8 m9 m10 m11 m12 m13 m14 m15 m16 n ka kb p1 s.heap (by first | assumption | omega)) (cwV 1 hts gX8_otherwise_X8_isThing rfl rfl rfl (by decide +kernel) ⟨Nat.le_of_ble_eq_true rfl, Nat.le_of_ble_eq_true rfl⟩) ⟨fun a U g mk q => mz_blP q, va_recv hK hPc (ci := 8) (q0 := 0) rfl rfl, fun U hU hW => ⟨rfl, hU, hPc, va_K.moved hW.alike hK, mz_nw hW hN⟩⟩ rfl rfl hl.1 rfl (lv_room (Nat.le_of_ble_eq_true rfl)) dX8_otherwise_2 ⟨Nat.le_of_ble_eq_true rfl, Nat.le_of_ble_eq_true rfl⟩) hS (fun q _ h => h.elim) (fun q h => h.elim) (fun r_2 u t H1 locs ht hvm hw_2 hB hz1 hk1 hS => ?_)
  have hE : s.heap = H1 := hB.symm.trans ht
  subst hE
  rcases (show (r_2 = 1 ∧ ∃ j : Nat, j < n ∧ p1 = nI j) ∨ r_2 = 0 from hw_2) with ⟨rfl, j_2, hj_2, he_2⟩ | rfl
  · skip
    subst he_2
    refine lv_if_eq (tgt := 30) hx hb dX8_otherwise_5 (by decide) (fun c_5 => absurd c_5 (by decide +kernel)) (fun _ => ?_)
    refine lv_aload_n hx hb dX8_otherwise_8 rfl (lv_at hl 0 rfl) ?_
    refine lv_iload_n hx hb dX8_otherwise_9 rfl (lv_at hl 2 rfl) ?_
    have hPc := hP.sub (ws' := [(mo, .inr (8, [.int (nI n), .ref m1, .ref m2, .ref m3, .long ka, .long kb, .ref m6, .ref m7, .ref m8, .ref m9, .ref m10, .ref m11, .ref m12, .ref m13, .ref m14, .ref m15, .ref m16]))]) [0] rfl
    refine va_calli (va_runV (As := [.int p2]) (rest := []) ⟨hx, hb, hml, hown, hts⟩ (mz_m_isThing l dC dI cI cJ cZ mo m1 m2 m3 m6 m7 m8 m9 m10 m11 m12 m13 m14 m15 m16 n ka kb p2 s.heap (by first | assumption | omega)) (cwV 1 hts gX8_otherwise_X8_isThing rfl rfl rfl (by decide +kernel) ⟨Nat.le_of_ble_eq_true rfl, Nat.le_of_ble_eq_true rfl⟩) ⟨fun a U g mk q => mz_blP q, va_recv hK hPc (ci := 8) (q0 := 0) rfl rfl, fun U hU hW => ⟨rfl, hU, hPc, va_K.moved hW.alike hK, mz_nw hW hN⟩⟩ rfl rfl hl.1 rfl (lv_room (Nat.le_of_ble_eq_true rfl)) dX8_otherwise_10 ⟨Nat.le_of_ble_eq_true rfl, Nat.le_of_ble_eq_true rfl⟩) hS (fun q _ h => h.elim) (fun q h => h.elim) (fun r_10 u t H1 locs ht hvm hw_10 hB hz1 hk1 hS => ?_)
    have hE : s.heap = H1 := hB.symm.trans ht
    subst hE
    rcases (show (r_10 = 1 ∧ ∃ j : Nat, j < n ∧ p2 = nI j) ∨ r_10 = 0 from hw_10) with ⟨rfl, j_10, hj_10, he_10⟩ | rfl
    · skip
      subst he_10
      refine lv_if_eq (tgt := 30) hx hb dX8_otherwise_13 (by decide) (fun c_13 => absurd c_13 (by decide +kernel)) (fun _ => ?_)
      refine lv_iload_n hx hb dX8_otherwise_16 rfl (lv_at hl 1 rfl) ?_
      refine lv_iload_n hx hb dX8_otherwise_17 rfl (lv_at hl 2 rfl) ?_
      refine lv_icmp_eq (tgt := 30) hx hb dX8_otherwise_18 (by decide) (fun c_18 => ?_) (fun c_18 => ?_)
      · skip
        have d_18 : j_2 = j_10 := (nI_eq (a := j_2) (b := j_10) (by omega) (by omega)).mp c_18
        refine lv_ldc2 hx hb hown (hts (.constantLong RX8 108 (-1)) (by decide +kernel)) dX8_otherwise_30 ?_
        refine W.widen (k := 0) (n := 0) (Nat.le_of_ble_eq_true rfl) (Nat.le_of_ble_eq_true rfl) ?_
        exact W.lret (v := (-1)) hx hb hr (fun t ht hW => ⟨⟨(-1), (), rfl, trivial, ht⟩, hS.F ht⟩) hS.2.2 dX8_otherwise_33
      · skip
        have d_18 : ¬ j_2 = j_10 := fun h => c_18 ((nI_eq (a := j_2) (b := j_10) (by omega) (by omega)).mpr h)
        refine lv_iload_n hx hb dX8_otherwise_21 rfl (lv_at hl 3 rfl) ?_
        refine lv_if_lt (tgt := 30) hx hb dX8_otherwise_22 (by decide) (fun c_22 => ?_) (fun c_22 => ?_)
        · skip
          refine lv_ldc2 hx hb hown (hts (.constantLong RX8 108 (-1)) (by decide +kernel)) dX8_otherwise_30 ?_
          refine W.widen (k := 0) (n := 0) (Nat.le_of_ble_eq_true rfl) (Nat.le_of_ble_eq_true rfl) ?_
          exact W.lret (v := (-1)) hx hb hr (fun t ht hW => ⟨⟨(-1), (), rfl, trivial, ht⟩, hS.F ht⟩) hS.2.2 dX8_otherwise_33
        · skip
          refine lv_iload_n hx hb dX8_otherwise_25 rfl (lv_at hl 3 rfl) ?_
          refine lv_iconst (v := 4) hx hb dX8_otherwise_26 (by decide +kernel) ?_
          refine lv_icmp_le (tgt := 34) hx hb dX8_otherwise_27 (by decide) (fun c_27 => ?_) (fun c_27 => ?_)
          · skip
            refine lv_lconst (v := 1) hx hb dX8_otherwise_34 (by decide +kernel) ?_
            refine lv_lstore (lv' := [(4, .long 1), (0, .ref mo), (1, .int (nI j_2)), (2, .int (nI j_10)), (3, .int p3)]) hx hb dX8_otherwise_35 hl (by decide) rfl (fun ls hl => ?_)
            refine lv_iconst (v := 0) hx hb dX8_otherwise_37 (by decide +kernel) ?_
            refine lv_istore (lv' := [(6, .int 0), (4, .long 1), (0, .ref mo), (1, .int (nI j_2)), (2, .int (nI j_10)), (3, .int p3)]) hx hb dX8_otherwise_38 hl (by decide) rfl (fun ls hl => ?_)
            refine mz_loopU (fun k H locs ls => ∃ (i_40 : Nat), ∃ (x4_40 : Int64), i_40 ≤ n ∧ H = s.heap ∧ va_S (fun _ : Nat => False) s.heap H locs ∧ lv_has ls 20 [(6, .int (nI i_40)), (4, .long x4_40), (0, .ref mo), (1, .int (nI j_2)), (2, .int (nI j_10)), (3, .int p3)] ∧ k = n - i_40) ?_ _ _ _ _ ⟨0, 1, by omega, rfl, hS, lv_sub hl [0, 1, 2, 3, 4, 5] rfl, rfl⟩
            intro k_40 H locs ls hI_40 ih_40
            obtain ⟨i_40, x4_40, hi_40, hH_40, hS, hl, hk_40⟩ := hI_40
            subst hH_40
            refine lv_iload hx hb dX8_otherwise_40 (lv_at hl 0 rfl) ?_
            refine lv_aload_n hx hb dX8_otherwise_42 rfl (lv_at hl 2 rfl) ?_
            refine va_get (D := (dC, dI)) (ci := 8) (v := .int (nI n)) (C := RX8) (T := TX8) (N := 17) hx hb hts hiX8 hown hK hP 0 rfl rfl 0 (by decide) (hts (.fieldLink RX8 58 "MadeItSoModel" "many" "I") (by decide +kernel)) (fun _ h9 => h9) rfl dX8_otherwise_43 ?_
            refine lv_icmp_ge (tgt := 63) hx hb dX8_otherwise_46 (by decide) (fun c_46 => ?_) (fun c_46 => ?_)
            · skip
              have d_46 : n ≤ i_40 := (nI_leI (a := n) (b := i_40) (by omega) (by omega)).mp c_46
              refine lv_aload_n hx hb dX8_otherwise_63 rfl (lv_at hl 2 rfl) ?_
              refine lv_iconst (v := 0) hx hb dX8_otherwise_64 (by decide +kernel) ?_
              refine lv_iload_n hx hb dX8_otherwise_65 rfl (lv_at hl 4 rfl) ?_
              refine lv_iconst (v := 1) hx hb dX8_otherwise_66 (by decide +kernel) ?_
              have hPc := hP.sub (ws' := []) [] rfl
              refine va_calli (va_runS (As := [.int 0, .int (nI j_10), .int 1]) (rest := [.ref mo]) ⟨hx, hb, hml, hown, hts⟩ (mz_m_withOne l dC dI cI cJ cZ 0 (nI j_10) 1 s.heap ) (va_cwS 3 hts gX8_otherwise_X8_withOne rfl rfl rfl (by decide +kernel) ⟨Nat.le_of_ble_eq_true rfl, Nat.le_of_ble_eq_true rfl⟩) ⟨fun a U g mk q => mz_blP q, fun U hU hW => ⟨rfl, hU, hPc, va_K.moved hW.alike hK, mz_nw hW hN⟩⟩ rfl rfl hl.1 rfl (lv_room (Nat.le_of_ble_eq_true rfl)) dX8_otherwise_67 ⟨Nat.le_of_ble_eq_true rfl, Nat.le_of_ble_eq_true rfl⟩) hS (fun q _ h => h.elim) (fun q h => h.elim) (fun r_67 u t H1 locs ht hvm hw_67 hB hz1 hk1 hS => ?_)
              have hE : s.heap = H1 := hB.symm.trans ht
              subst hE
              refine lv_iconst (v := 0) hx hb dX8_otherwise_70 (by decide +kernel) ?_
              refine lv_iload_n hx hb dX8_otherwise_71 rfl (lv_at hl 3 rfl) ?_
              refine lv_iconst (v := 1) hx hb dX8_otherwise_72 (by decide +kernel) ?_
              have hPc := hP.sub (ws' := []) [] rfl
              refine va_calli (va_runS (As := [.int 0, .int (nI j_2), .int 1]) (rest := [.int r_67, .ref mo]) ⟨hx, hb, hml, hown, hts⟩ (mz_m_withOne l dC dI cI cJ cZ 0 (nI j_2) 1 s.heap ) (va_cwS 3 hts gX8_otherwise_X8_withOne rfl rfl rfl (by decide +kernel) ⟨Nat.le_of_ble_eq_true rfl, Nat.le_of_ble_eq_true rfl⟩) ⟨fun a U g mk q => mz_blP q, fun U hU hW => ⟨rfl, hU, hPc, va_K.moved hW.alike hK, mz_nw hW hN⟩⟩ rfl rfl hl.1 rfl (lv_room (Nat.le_of_ble_eq_true rfl)) dX8_otherwise_73 ⟨Nat.le_of_ble_eq_true rfl, Nat.le_of_ble_eq_true rfl⟩) hS (fun q _ h => h.elim) (fun q h => h.elim) (fun r_73 u t H1 locs ht hvm hw_73 hB hz1 hk1 hS => ?_)
              have hE : s.heap = H1 := hB.symm.trans ht
              subst hE
              have hPc := hP.sub (ws' := [(mo, .inr (8, [.int (nI n), .ref m1, .ref m2, .ref m3, .long ka, .long kb, .ref m6, .ref m7, .ref m8, .ref m9, .ref m10, .ref m11, .ref m12, .ref m13, .ref m14, .ref m15, .ref m16])), (m2, .inl (cI, 8, .inl fp)), (m3, .inl (cI, 1024, .inl fb))]) [0, 1, 2] rfl
              refine va_calll (va_runV (As := [.int r_67, .int r_73]) (rest := []) ⟨hx, hb, hml, hown, hts⟩ (mz_m_sum l dC dI cI cJ cZ mo m1 m2 m3 m6 m7 m8 m9 m10 m11 m12 m13 m14 m15 m16 n ka kb fp fb r_67 r_73 s.heap (by first | assumption | omega) (by first | assumption | omega)) (cwV 2 hts gX8_otherwise_X8_sum rfl rfl rfl (by decide +kernel) ⟨Nat.le_of_ble_eq_true rfl, Nat.le_of_ble_eq_true rfl⟩) ⟨fun a U g mk q => mz_blP q, va_recv hK hPc (ci := 8) (q0 := 0) rfl rfl, fun U hU hW => ⟨rfl, hU, hPc, va_K.moved hW.alike hK, mz_nw hW hN⟩⟩ rfl rfl hl.1 rfl (lv_room (Nat.le_of_ble_eq_true rfl)) dX8_otherwise_76 ⟨Nat.le_of_ble_eq_true rfl, Nat.le_of_ble_eq_true rfl⟩) hS (fun q _ h => h.elim) (fun q h => h.elim) (fun r_76 u t H1 locs ht hvm hw_76 hB hz1 hk1 hS => ?_)
              have hE : s.heap = H1 := hB.symm.trans ht
              subst hE
              refine lv_lstore (lv' := [(6, .long r_76), (4, .long x4_40), (0, .ref mo), (1, .int (nI j_2)), (2, .int (nI j_10)), (3, .int p3)]) hx hb dX8_otherwise_79 hl (by decide) rfl (fun ls hl => ?_)
              refine lv_aload_n hx hb dX8_otherwise_81 rfl (lv_at hl 2 rfl) ?_
              refine lv_iconst (v := 0) hx hb dX8_otherwise_82 (by decide +kernel) ?_
              refine lv_iload_n hx hb dX8_otherwise_83 rfl (lv_at hl 4 rfl) ?_
              refine lv_iconst (v := 1) hx hb dX8_otherwise_84 (by decide +kernel) ?_
              have hPc := hP.sub (ws' := []) [] rfl
              refine va_calli (va_runS (As := [.int 0, .int (nI j_10), .int 1]) (rest := [.ref mo]) ⟨hx, hb, hml, hown, hts⟩ (mz_m_withOne l dC dI cI cJ cZ 0 (nI j_10) 1 s.heap ) (va_cwS 3 hts gX8_otherwise_X8_withOne rfl rfl rfl (by decide +kernel) ⟨Nat.le_of_ble_eq_true rfl, Nat.le_of_ble_eq_true rfl⟩) ⟨fun a U g mk q => mz_blP q, fun U hU hW => ⟨rfl, hU, hPc, va_K.moved hW.alike hK, mz_nw hW hN⟩⟩ rfl rfl hl.1 rfl (lv_room (Nat.le_of_ble_eq_true rfl)) dX8_otherwise_85 ⟨Nat.le_of_ble_eq_true rfl, Nat.le_of_ble_eq_true rfl⟩) hS (fun q _ h => h.elim) (fun q h => h.elim) (fun r_85 u t H1 locs ht hvm hw_85 hB hz1 hk1 hS => ?_)
              have hE : s.heap = H1 := hB.symm.trans ht
              subst hE
              refine lv_iconst (v := 0) hx hb dX8_otherwise_88 (by decide +kernel) ?_
              refine lv_iload_n hx hb dX8_otherwise_89 rfl (lv_at hl 3 rfl) ?_
              refine lv_iconst (v := 0) hx hb dX8_otherwise_90 (by decide +kernel) ?_
              have hPc := hP.sub (ws' := []) [] rfl
              refine va_calli (va_runS (As := [.int 0, .int (nI j_2), .int 0]) (rest := [.int r_85, .ref mo]) ⟨hx, hb, hml, hown, hts⟩ (mz_m_withOne l dC dI cI cJ cZ 0 (nI j_2) 0 s.heap ) (va_cwS 3 hts gX8_otherwise_X8_withOne rfl rfl rfl (by decide +kernel) ⟨Nat.le_of_ble_eq_true rfl, Nat.le_of_ble_eq_true rfl⟩) ⟨fun a U g mk q => mz_blP q, fun U hU hW => ⟨rfl, hU, hPc, va_K.moved hW.alike hK, mz_nw hW hN⟩⟩ rfl rfl hl.1 rfl (lv_room (Nat.le_of_ble_eq_true rfl)) dX8_otherwise_91 ⟨Nat.le_of_ble_eq_true rfl, Nat.le_of_ble_eq_true rfl⟩) hS (fun q _ h => h.elim) (fun q h => h.elim) (fun r_91 u t H1 locs ht hvm hw_91 hB hz1 hk1 hS => ?_)
              have hE : s.heap = H1 := hB.symm.trans ht
              subst hE
              have hPc := hP.sub (ws' := [(mo, .inr (8, [.int (nI n), .ref m1, .ref m2, .ref m3, .long ka, .long kb, .ref m6, .ref m7, .ref m8, .ref m9, .ref m10, .ref m11, .ref m12, .ref m13, .ref m14, .ref m15, .ref m16])), (m2, .inl (cI, 8, .inl fp)), (m3, .inl (cI, 1024, .inl fb))]) [0, 1, 2] rfl
              refine va_calll (va_runV (As := [.int r_85, .int r_91]) (rest := []) ⟨hx, hb, hml, hown, hts⟩ (mz_m_sum l dC dI cI cJ cZ mo m1 m2 m3 m6 m7 m8 m9 m10 m11 m12 m13 m14 m15 m16 n ka kb fp fb r_85 r_91 s.heap (by first | assumption | omega) (by first | assumption | omega)) (cwV 2 hts gX8_otherwise_X8_sum rfl rfl rfl (by decide +kernel) ⟨Nat.le_of_ble_eq_true rfl, Nat.le_of_ble_eq_true rfl⟩) ⟨fun a U g mk q => mz_blP q, va_recv hK hPc (ci := 8) (q0 := 0) rfl rfl, fun U hU hW => ⟨rfl, hU, hPc, va_K.moved hW.alike hK, mz_nw hW hN⟩⟩ rfl rfl hl.1 rfl (lv_room (Nat.le_of_ble_eq_true rfl)) dX8_otherwise_94 ⟨Nat.le_of_ble_eq_true rfl, Nat.le_of_ble_eq_true rfl⟩) hS (fun q _ h => h.elim) (fun q h => h.elim) (fun r_94 u t H1 locs ht hvm hw_94 hB hz1 hk1 hS => ?_)
              have hE : s.heap = H1 := hB.symm.trans ht
              subst hE
              refine lv_lstore (lv' := [(8, .long r_94), (6, .long r_76), (4, .long x4_40), (0, .ref mo), (1, .int (nI j_2)), (2, .int (nI j_10)), (3, .int p3)]) hx hb dX8_otherwise_97 hl (by decide) rfl (fun ls hl => ?_)
              refine lv_aload_n hx hb dX8_otherwise_99 rfl (lv_at hl 3 rfl) ?_
              refine lv_iconst (v := 0) hx hb dX8_otherwise_100 (by decide +kernel) ?_
              refine lv_iload_n hx hb dX8_otherwise_101 rfl (lv_at hl 5 rfl) ?_
              refine lv_iconst (v := 1) hx hb dX8_otherwise_102 (by decide +kernel) ?_
              have hPc := hP.sub (ws' := []) [] rfl
              refine va_calli (va_runS (As := [.int 0, .int (nI j_10), .int 1]) (rest := [.ref mo]) ⟨hx, hb, hml, hown, hts⟩ (mz_m_withOne l dC dI cI cJ cZ 0 (nI j_10) 1 s.heap ) (va_cwS 3 hts gX8_otherwise_X8_withOne rfl rfl rfl (by decide +kernel) ⟨Nat.le_of_ble_eq_true rfl, Nat.le_of_ble_eq_true rfl⟩) ⟨fun a U g mk q => mz_blP q, fun U hU hW => ⟨rfl, hU, hPc, va_K.moved hW.alike hK, mz_nw hW hN⟩⟩ rfl rfl hl.1 rfl (lv_room (Nat.le_of_ble_eq_true rfl)) dX8_otherwise_103 ⟨Nat.le_of_ble_eq_true rfl, Nat.le_of_ble_eq_true rfl⟩) hS (fun q _ h => h.elim) (fun q h => h.elim) (fun r_103 u t H1 locs ht hvm hw_103 hB hz1 hk1 hS => ?_)
              have hE : s.heap = H1 := hB.symm.trans ht
              subst hE
              refine lv_iconst (v := 0) hx hb dX8_otherwise_106 (by decide +kernel) ?_
              have hPc := hP.sub (ws' := [(mo, .inr (8, [.int (nI n), .ref m1, .ref m2, .ref m3, .long ka, .long kb, .ref m6, .ref m7, .ref m8, .ref m9, .ref m10, .ref m11, .ref m12, .ref m13, .ref m14, .ref m15, .ref m16])), (m2, .inl (cI, 8, .inl fp)), (m3, .inl (cI, 1024, .inl fb))]) [0, 1, 2] rfl
              refine va_calll (va_runV (As := [.int r_103, .int 0]) (rest := []) ⟨hx, hb, hml, hown, hts⟩ (mz_m_sum l dC dI cI cJ cZ mo m1 m2 m3 m6 m7 m8 m9 m10 m11 m12 m13 m14 m15 m16 n ka kb fp fb r_103 0 s.heap (by first | assumption | omega) (by first | assumption | omega)) (cwV 2 hts gX8_otherwise_X8_sum rfl rfl rfl (by decide +kernel) ⟨Nat.le_of_ble_eq_true rfl, Nat.le_of_ble_eq_true rfl⟩) ⟨fun a U g mk q => mz_blP q, va_recv hK hPc (ci := 8) (q0 := 0) rfl rfl, fun U hU hW => ⟨rfl, hU, hPc, va_K.moved hW.alike hK, mz_nw hW hN⟩⟩ rfl rfl hl.1 rfl (lv_room (Nat.le_of_ble_eq_true rfl)) dX8_otherwise_107 ⟨Nat.le_of_ble_eq_true rfl, Nat.le_of_ble_eq_true rfl⟩) hS (fun q _ h => h.elim) (fun q h => h.elim) (fun r_107 u t H1 locs ht hvm hw_107 hB hz1 hk1 hS => ?_)
              have hE : s.heap = H1 := hB.symm.trans ht
              subst hE
              refine lv_lstore (lv' := [(10, .long r_107), (8, .long r_94), (6, .long r_76), (4, .long x4_40), (0, .ref mo), (1, .int (nI j_2)), (2, .int (nI j_10)), (3, .int p3)]) hx hb dX8_otherwise_110 hl (by decide) rfl (fun ls hl => ?_)
              refine lv_aload_n hx hb dX8_otherwise_112 rfl (lv_at hl 4 rfl) ?_
              refine lv_iconst (v := 0) hx hb dX8_otherwise_113 (by decide +kernel) ?_
              refine lv_iload_n hx hb dX8_otherwise_114 rfl (lv_at hl 5 rfl) ?_
              refine lv_iconst (v := 1) hx hb dX8_otherwise_115 (by decide +kernel) ?_
              have hPc := hP.sub (ws' := []) [] rfl
              refine va_calli (va_runS (As := [.int 0, .int (nI j_2), .int 1]) (rest := [.ref mo]) ⟨hx, hb, hml, hown, hts⟩ (mz_m_withOne l dC dI cI cJ cZ 0 (nI j_2) 1 s.heap ) (va_cwS 3 hts gX8_otherwise_X8_withOne rfl rfl rfl (by decide +kernel) ⟨Nat.le_of_ble_eq_true rfl, Nat.le_of_ble_eq_true rfl⟩) ⟨fun a U g mk q => mz_blP q, fun U hU hW => ⟨rfl, hU, hPc, va_K.moved hW.alike hK, mz_nw hW hN⟩⟩ rfl rfl hl.1 rfl (lv_room (Nat.le_of_ble_eq_true rfl)) dX8_otherwise_116 ⟨Nat.le_of_ble_eq_true rfl, Nat.le_of_ble_eq_true rfl⟩) hS (fun q _ h => h.elim) (fun q h => h.elim) (fun r_116 u t H1 locs ht hvm hw_116 hB hz1 hk1 hS => ?_)
              have hE : s.heap = H1 := hB.symm.trans ht
              subst hE
              refine lv_iload_n hx hb dX8_otherwise_119 rfl (lv_at hl 6 rfl) ?_
              refine lv_iconst (v := 1) hx hb dX8_otherwise_120 (by decide +kernel) ?_
              have hPc := hP.sub (ws' := []) [] rfl
              refine va_calli (va_runS (As := [.int r_116, .int (nI j_10), .int 1]) (rest := [.ref mo]) ⟨hx, hb, hml, hown, hts⟩ (mz_m_withOne l dC dI cI cJ cZ r_116 (nI j_10) 1 s.heap ) (va_cwS 3 hts gX8_otherwise_X8_withOne rfl rfl rfl (by decide +kernel) ⟨Nat.le_of_ble_eq_true rfl, Nat.le_of_ble_eq_true rfl⟩) ⟨fun a U g mk q => mz_blP q, fun U hU hW => ⟨rfl, hU, hPc, va_K.moved hW.alike hK, mz_nw hW hN⟩⟩ rfl rfl hl.1 rfl (lv_room (Nat.le_of_ble_eq_true rfl)) dX8_otherwise_121 ⟨Nat.le_of_ble_eq_true rfl, Nat.le_of_ble_eq_true rfl⟩) hS (fun q _ h => h.elim) (fun q h => h.elim) (fun r_121 u t H1 locs ht hvm hw_121 hB hz1 hk1 hS => ?_)
              have hE : s.heap = H1 := hB.symm.trans ht
              subst hE
              refine lv_iconst (v := 0) hx hb dX8_otherwise_124 (by decide +kernel) ?_
              have hPc := hP.sub (ws' := [(mo, .inr (8, [.int (nI n), .ref m1, .ref m2, .ref m3, .long ka, .long kb, .ref m6, .ref m7, .ref m8, .ref m9, .ref m10, .ref m11, .ref m12, .ref m13, .ref m14, .ref m15, .ref m16])), (m2, .inl (cI, 8, .inl fp)), (m3, .inl (cI, 1024, .inl fb))]) [0, 1, 2] rfl
              refine va_calll (va_runV (As := [.int r_121, .int 0]) (rest := []) ⟨hx, hb, hml, hown, hts⟩ (mz_m_sum l dC dI cI cJ cZ mo m1 m2 m3 m6 m7 m8 m9 m10 m11 m12 m13 m14 m15 m16 n ka kb fp fb r_121 0 s.heap (by first | assumption | omega) (by first | assumption | omega)) (cwV 2 hts gX8_otherwise_X8_sum rfl rfl rfl (by decide +kernel) ⟨Nat.le_of_ble_eq_true rfl, Nat.le_of_ble_eq_true rfl⟩) ⟨fun a U g mk q => mz_blP q, va_recv hK hPc (ci := 8) (q0 := 0) rfl rfl, fun U hU hW => ⟨rfl, hU, hPc, va_K.moved hW.alike hK, mz_nw hW hN⟩⟩ rfl rfl hl.1 rfl (lv_room (Nat.le_of_ble_eq_true rfl)) dX8_otherwise_125 ⟨Nat.le_of_ble_eq_true rfl, Nat.le_of_ble_eq_true rfl⟩) hS (fun q _ h => h.elim) (fun q h => h.elim) (fun r_125 u t H1 locs ht hvm hw_125 hB hz1 hk1 hS => ?_)
              have hE : s.heap = H1 := hB.symm.trans ht
              subst hE
              refine lv_lstore (lv' := [(12, .long r_125), (10, .long r_107), (8, .long r_94), (6, .long r_76), (4, .long x4_40), (0, .ref mo), (1, .int (nI j_2)), (2, .int (nI j_10)), (3, .int p3)]) hx hb dX8_otherwise_128 hl (by decide) rfl (fun ls hl => ?_)
              refine lv_aload_n hx hb dX8_otherwise_130 rfl (lv_at hl 5 rfl) ?_
              refine lv_iconst (v := 0) hx hb dX8_otherwise_131 (by decide +kernel) ?_
              refine lv_iload_n hx hb dX8_otherwise_132 rfl (lv_at hl 6 rfl) ?_
              refine lv_iconst (v := 1) hx hb dX8_otherwise_133 (by decide +kernel) ?_
              have hPc := hP.sub (ws' := []) [] rfl
              refine va_calli (va_runS (As := [.int 0, .int (nI j_2), .int 1]) (rest := [.ref mo]) ⟨hx, hb, hml, hown, hts⟩ (mz_m_withOne l dC dI cI cJ cZ 0 (nI j_2) 1 s.heap ) (va_cwS 3 hts gX8_otherwise_X8_withOne rfl rfl rfl (by decide +kernel) ⟨Nat.le_of_ble_eq_true rfl, Nat.le_of_ble_eq_true rfl⟩) ⟨fun a U g mk q => mz_blP q, fun U hU hW => ⟨rfl, hU, hPc, va_K.moved hW.alike hK, mz_nw hW hN⟩⟩ rfl rfl hl.1 rfl (lv_room (Nat.le_of_ble_eq_true rfl)) dX8_otherwise_134 ⟨Nat.le_of_ble_eq_true rfl, Nat.le_of_ble_eq_true rfl⟩) hS (fun q _ h => h.elim) (fun q h => h.elim) (fun r_134 u t H1 locs ht hvm hw_134 hB hz1 hk1 hS => ?_)
              have hE : s.heap = H1 := hB.symm.trans ht
              subst hE
              refine lv_iload_n hx hb dX8_otherwise_137 rfl (lv_at hl 7 rfl) ?_
              refine lv_iconst (v := 0) hx hb dX8_otherwise_138 (by decide +kernel) ?_
              have hPc := hP.sub (ws' := []) [] rfl
              refine va_calli (va_runS (As := [.int r_134, .int (nI j_10), .int 0]) (rest := [.ref mo]) ⟨hx, hb, hml, hown, hts⟩ (mz_m_withOne l dC dI cI cJ cZ r_134 (nI j_10) 0 s.heap ) (va_cwS 3 hts gX8_otherwise_X8_withOne rfl rfl rfl (by decide +kernel) ⟨Nat.le_of_ble_eq_true rfl, Nat.le_of_ble_eq_true rfl⟩) ⟨fun a U g mk q => mz_blP q, fun U hU hW => ⟨rfl, hU, hPc, va_K.moved hW.alike hK, mz_nw hW hN⟩⟩ rfl rfl hl.1 rfl (lv_room (Nat.le_of_ble_eq_true rfl)) dX8_otherwise_139 ⟨Nat.le_of_ble_eq_true rfl, Nat.le_of_ble_eq_true rfl⟩) hS (fun q _ h => h.elim) (fun q h => h.elim) (fun r_139 u t H1 locs ht hvm hw_139 hB hz1 hk1 hS => ?_)
              have hE : s.heap = H1 := hB.symm.trans ht
              subst hE
              refine lv_iconst (v := 0) hx hb dX8_otherwise_142 (by decide +kernel) ?_
              have hPc := hP.sub (ws' := [(mo, .inr (8, [.int (nI n), .ref m1, .ref m2, .ref m3, .long ka, .long kb, .ref m6, .ref m7, .ref m8, .ref m9, .ref m10, .ref m11, .ref m12, .ref m13, .ref m14, .ref m15, .ref m16])), (m2, .inl (cI, 8, .inl fp)), (m3, .inl (cI, 1024, .inl fb))]) [0, 1, 2] rfl
              refine va_calll (va_runV (As := [.int r_139, .int 0]) (rest := []) ⟨hx, hb, hml, hown, hts⟩ (mz_m_sum l dC dI cI cJ cZ mo m1 m2 m3 m6 m7 m8 m9 m10 m11 m12 m13 m14 m15 m16 n ka kb fp fb r_139 0 s.heap (by first | assumption | omega) (by first | assumption | omega)) (cwV 2 hts gX8_otherwise_X8_sum rfl rfl rfl (by decide +kernel) ⟨Nat.le_of_ble_eq_true rfl, Nat.le_of_ble_eq_true rfl⟩) ⟨fun a U g mk q => mz_blP q, va_recv hK hPc (ci := 8) (q0 := 0) rfl rfl, fun U hU hW => ⟨rfl, hU, hPc, va_K.moved hW.alike hK, mz_nw hW hN⟩⟩ rfl rfl hl.1 rfl (lv_room (Nat.le_of_ble_eq_true rfl)) dX8_otherwise_143 ⟨Nat.le_of_ble_eq_true rfl, Nat.le_of_ble_eq_true rfl⟩) hS (fun q _ h => h.elim) (fun q h => h.elim) (fun r_143 u t H1 locs ht hvm hw_143 hB hz1 hk1 hS => ?_)
              have hE : s.heap = H1 := hB.symm.trans ht
              subst hE
              refine lv_lstore (lv' := [(14, .long r_143), (12, .long r_125), (10, .long r_107), (8, .long r_94), (6, .long r_76), (4, .long x4_40), (0, .ref mo), (1, .int (nI j_2)), (2, .int (nI j_10)), (3, .int p3)]) hx hb dX8_otherwise_146 hl (by decide) rfl (fun ls hl => ?_)
              refine lv_aload_n hx hb dX8_otherwise_148 rfl (lv_at hl 6 rfl) ?_
              refine lv_iconst (v := 0) hx hb dX8_otherwise_149 (by decide +kernel) ?_
              refine lv_iload_n hx hb dX8_otherwise_150 rfl (lv_at hl 7 rfl) ?_
              refine lv_iconst (v := 0) hx hb dX8_otherwise_151 (by decide +kernel) ?_
              have hPc := hP.sub (ws' := []) [] rfl
              refine va_calli (va_runS (As := [.int 0, .int (nI j_2), .int 0]) (rest := [.ref mo]) ⟨hx, hb, hml, hown, hts⟩ (mz_m_withOne l dC dI cI cJ cZ 0 (nI j_2) 0 s.heap ) (va_cwS 3 hts gX8_otherwise_X8_withOne rfl rfl rfl (by decide +kernel) ⟨Nat.le_of_ble_eq_true rfl, Nat.le_of_ble_eq_true rfl⟩) ⟨fun a U g mk q => mz_blP q, fun U hU hW => ⟨rfl, hU, hPc, va_K.moved hW.alike hK, mz_nw hW hN⟩⟩ rfl rfl hl.1 rfl (lv_room (Nat.le_of_ble_eq_true rfl)) dX8_otherwise_152 ⟨Nat.le_of_ble_eq_true rfl, Nat.le_of_ble_eq_true rfl⟩) hS (fun q _ h => h.elim) (fun q h => h.elim) (fun r_152 u t H1 locs ht hvm hw_152 hB hz1 hk1 hS => ?_)
              have hE : s.heap = H1 := hB.symm.trans ht
              subst hE
              refine lv_iload_n hx hb dX8_otherwise_155 rfl (lv_at hl 8 rfl) ?_
              refine lv_iconst (v := 1) hx hb dX8_otherwise_156 (by decide +kernel) ?_
              have hPc := hP.sub (ws' := []) [] rfl
              refine va_calli (va_runS (As := [.int r_152, .int (nI j_10), .int 1]) (rest := [.ref mo]) ⟨hx, hb, hml, hown, hts⟩ (mz_m_withOne l dC dI cI cJ cZ r_152 (nI j_10) 1 s.heap ) (va_cwS 3 hts gX8_otherwise_X8_withOne rfl rfl rfl (by decide +kernel) ⟨Nat.le_of_ble_eq_true rfl, Nat.le_of_ble_eq_true rfl⟩) ⟨fun a U g mk q => mz_blP q, fun U hU hW => ⟨rfl, hU, hPc, va_K.moved hW.alike hK, mz_nw hW hN⟩⟩ rfl rfl hl.1 rfl (lv_room (Nat.le_of_ble_eq_true rfl)) dX8_otherwise_157 ⟨Nat.le_of_ble_eq_true rfl, Nat.le_of_ble_eq_true rfl⟩) hS (fun q _ h => h.elim) (fun q h => h.elim) (fun r_157 u t H1 locs ht hvm hw_157 hB hz1 hk1 hS => ?_)
              have hE : s.heap = H1 := hB.symm.trans ht
              subst hE
              refine lv_iconst (v := 0) hx hb dX8_otherwise_160 (by decide +kernel) ?_
              have hPc := hP.sub (ws' := [(mo, .inr (8, [.int (nI n), .ref m1, .ref m2, .ref m3, .long ka, .long kb, .ref m6, .ref m7, .ref m8, .ref m9, .ref m10, .ref m11, .ref m12, .ref m13, .ref m14, .ref m15, .ref m16])), (m2, .inl (cI, 8, .inl fp)), (m3, .inl (cI, 1024, .inl fb))]) [0, 1, 2] rfl
              refine va_calll (va_runV (As := [.int r_157, .int 0]) (rest := []) ⟨hx, hb, hml, hown, hts⟩ (mz_m_sum l dC dI cI cJ cZ mo m1 m2 m3 m6 m7 m8 m9 m10 m11 m12 m13 m14 m15 m16 n ka kb fp fb r_157 0 s.heap (by first | assumption | omega) (by first | assumption | omega)) (cwV 2 hts gX8_otherwise_X8_sum rfl rfl rfl (by decide +kernel) ⟨Nat.le_of_ble_eq_true rfl, Nat.le_of_ble_eq_true rfl⟩) ⟨fun a U g mk q => mz_blP q, va_recv hK hPc (ci := 8) (q0 := 0) rfl rfl, fun U hU hW => ⟨rfl, hU, hPc, va_K.moved hW.alike hK, mz_nw hW hN⟩⟩ rfl rfl hl.1 rfl (lv_room (Nat.le_of_ble_eq_true rfl)) dX8_otherwise_161 ⟨Nat.le_of_ble_eq_true rfl, Nat.le_of_ble_eq_true rfl⟩) hS (fun q _ h => h.elim) (fun q h => h.elim) (fun r_161 u t H1 locs ht hvm hw_161 hB hz1 hk1 hS => ?_)
              have hE : s.heap = H1 := hB.symm.trans ht
              subst hE
              refine lv_lstore (lv' := [(16, .long r_161), (14, .long r_143), (12, .long r_125), (10, .long r_107), (8, .long r_94), (6, .long r_76), (4, .long x4_40), (0, .ref mo), (1, .int (nI j_2)), (2, .int (nI j_10)), (3, .int p3)]) hx hb dX8_otherwise_164 hl (by decide) rfl (fun ls hl => ?_)
              refine lv_aload_n hx hb dX8_otherwise_166 rfl (lv_at hl 7 rfl) ?_
              refine lv_iconst (v := 0) hx hb dX8_otherwise_167 (by decide +kernel) ?_
              refine lv_iload_n hx hb dX8_otherwise_168 rfl (lv_at hl 8 rfl) ?_
              refine lv_iconst (v := 0) hx hb dX8_otherwise_169 (by decide +kernel) ?_
              have hPc := hP.sub (ws' := []) [] rfl
              refine va_calli (va_runS (As := [.int 0, .int (nI j_2), .int 0]) (rest := [.ref mo]) ⟨hx, hb, hml, hown, hts⟩ (mz_m_withOne l dC dI cI cJ cZ 0 (nI j_2) 0 s.heap ) (va_cwS 3 hts gX8_otherwise_X8_withOne rfl rfl rfl (by decide +kernel) ⟨Nat.le_of_ble_eq_true rfl, Nat.le_of_ble_eq_true rfl⟩) ⟨fun a U g mk q => mz_blP q, fun U hU hW => ⟨rfl, hU, hPc, va_K.moved hW.alike hK, mz_nw hW hN⟩⟩ rfl rfl hl.1 rfl (lv_room (Nat.le_of_ble_eq_true rfl)) dX8_otherwise_170 ⟨Nat.le_of_ble_eq_true rfl, Nat.le_of_ble_eq_true rfl⟩) hS (fun q _ h => h.elim) (fun q h => h.elim) (fun r_170 u t H1 locs ht hvm hw_170 hB hz1 hk1 hS => ?_)
              have hE : s.heap = H1 := hB.symm.trans ht
              subst hE
              refine lv_iload_n hx hb dX8_otherwise_173 rfl (lv_at hl 9 rfl) ?_
              refine lv_iconst (v := 0) hx hb dX8_otherwise_174 (by decide +kernel) ?_
              have hPc := hP.sub (ws' := []) [] rfl
              refine va_calli (va_runS (As := [.int r_170, .int (nI j_10), .int 0]) (rest := [.ref mo]) ⟨hx, hb, hml, hown, hts⟩ (mz_m_withOne l dC dI cI cJ cZ r_170 (nI j_10) 0 s.heap ) (va_cwS 3 hts gX8_otherwise_X8_withOne rfl rfl rfl (by decide +kernel) ⟨Nat.le_of_ble_eq_true rfl, Nat.le_of_ble_eq_true rfl⟩) ⟨fun a U g mk q => mz_blP q, fun U hU hW => ⟨rfl, hU, hPc, va_K.moved hW.alike hK, mz_nw hW hN⟩⟩ rfl rfl hl.1 rfl (lv_room (Nat.le_of_ble_eq_true rfl)) dX8_otherwise_175 ⟨Nat.le_of_ble_eq_true rfl, Nat.le_of_ble_eq_true rfl⟩) hS (fun q _ h => h.elim) (fun q h => h.elim) (fun r_175 u t H1 locs ht hvm hw_175 hB hz1 hk1 hS => ?_)
              have hE : s.heap = H1 := hB.symm.trans ht
              subst hE
              refine lv_iconst (v := 0) hx hb dX8_otherwise_178 (by decide +kernel) ?_
              have hPc := hP.sub (ws' := [(mo, .inr (8, [.int (nI n), .ref m1, .ref m2, .ref m3, .long ka, .long kb, .ref m6, .ref m7, .ref m8, .ref m9, .ref m10, .ref m11, .ref m12, .ref m13, .ref m14, .ref m15, .ref m16])), (m2, .inl (cI, 8, .inl fp)), (m3, .inl (cI, 1024, .inl fb))]) [0, 1, 2] rfl
              refine va_calll (va_runV (As := [.int r_175, .int 0]) (rest := []) ⟨hx, hb, hml, hown, hts⟩ (mz_m_sum l dC dI cI cJ cZ mo m1 m2 m3 m6 m7 m8 m9 m10 m11 m12 m13 m14 m15 m16 n ka kb fp fb r_175 0 s.heap (by first | assumption | omega) (by first | assumption | omega)) (cwV 2 hts gX8_otherwise_X8_sum rfl rfl rfl (by decide +kernel) ⟨Nat.le_of_ble_eq_true rfl, Nat.le_of_ble_eq_true rfl⟩) ⟨fun a U g mk q => mz_blP q, va_recv hK hPc (ci := 8) (q0 := 0) rfl rfl, fun U hU hW => ⟨rfl, hU, hPc, va_K.moved hW.alike hK, mz_nw hW hN⟩⟩ rfl rfl hl.1 rfl (lv_room (Nat.le_of_ble_eq_true rfl)) dX8_otherwise_179 ⟨Nat.le_of_ble_eq_true rfl, Nat.le_of_ble_eq_true rfl⟩) hS (fun q _ h => h.elim) (fun q h => h.elim) (fun r_179 u t H1 locs ht hvm hw_179 hB hz1 hk1 hS => ?_)
              have hE : s.heap = H1 := hB.symm.trans ht
              subst hE
              refine lv_lstore (lv' := [(18, .long r_179), (16, .long r_161), (14, .long r_143), (12, .long r_125), (10, .long r_107), (8, .long r_94), (6, .long r_76), (4, .long x4_40), (0, .ref mo), (1, .int (nI j_2)), (2, .int (nI j_10)), (3, .int p3)]) hx hb dX8_otherwise_182 hl (by decide) rfl (fun ls hl => ?_)
              refine lv_iload_n hx hb dX8_otherwise_184 rfl (lv_at hl 11 rfl) ?_
              by_cases hs_0 : p3 = 0
              · refine mz_ti (y := 0) hs_0 ?_
                refine lv_tableIn (tgt := 216) (off := 31) hx hb dX8_otherwise_185 (by decide +kernel) (by decide +kernel) (by decide +kernel) (by decide) ?_
                refine lv_lconst (v := 0) hx hb dX8_otherwise_216 (by decide +kernel) ?_
                refine lv_lload hx hb dX8_otherwise_217 (lv_at hl 6 rfl) ?_
                refine lv_lload hx hb dX8_otherwise_219 (lv_at hl 5 rfl) ?_
                refine lv_lsub hx hb dX8_otherwise_221 ?_
                refine lv_topl (fun v_221 ev_221 => ?_)
                have hPc := hP.sub (ws' := []) [] rfl
                refine va_calll (va_runS (As := [.long 0, .long v_221]) (rest := []) ⟨hx, hb, hml, hown, hts⟩ (mz_m_most l dC dI cI cJ cZ 0 v_221 s.heap ) (va_cwS 2 hts gX8_otherwise_X8_most rfl rfl rfl (by decide +kernel) ⟨Nat.le_of_ble_eq_true rfl, Nat.le_of_ble_eq_true rfl⟩) ⟨fun a U g mk q => mz_blP q, fun U hU hW => ⟨rfl, hU, hPc, va_K.moved hW.alike hK, mz_nw hW hN⟩⟩ rfl rfl hl.1 rfl (lv_room (Nat.le_of_ble_eq_true rfl)) dX8_otherwise_222 ⟨Nat.le_of_ble_eq_true rfl, Nat.le_of_ble_eq_true rfl⟩) hS (fun q _ h => h.elim) (fun q h => h.elim) (fun r_222 u t H1 locs ht hvm hw_222 hB hz1 hk1 hS => ?_)
                have hE : s.heap = H1 := hB.symm.trans ht
                subst hE
                refine lv_lload hx hb dX8_otherwise_225 (lv_at hl 4 rfl) ?_
                refine lv_lload hx hb dX8_otherwise_227 (lv_at hl 5 rfl) ?_
                refine lv_lsub hx hb dX8_otherwise_229 ?_
                refine lv_topl (fun v_229 ev_229 => ?_)
                refine lv_lload hx hb dX8_otherwise_230 (lv_at hl 6 rfl) ?_
                refine lv_lload hx hb dX8_otherwise_232 (lv_at hl 4 rfl) ?_
                refine lv_lsub hx hb dX8_otherwise_234 ?_
                refine lv_topl (fun v_234 ev_234 => ?_)
                have hPc := hP.sub (ws' := []) [] rfl
                refine va_calll (va_runS (As := [.long v_229, .long v_234]) (rest := [.long r_222]) ⟨hx, hb, hml, hown, hts⟩ (mz_m_most l dC dI cI cJ cZ v_229 v_234 s.heap ) (va_cwS 2 hts gX8_otherwise_X8_most rfl rfl rfl (by decide +kernel) ⟨Nat.le_of_ble_eq_true rfl, Nat.le_of_ble_eq_true rfl⟩) ⟨fun a U g mk q => mz_blP q, fun U hU hW => ⟨rfl, hU, hPc, va_K.moved hW.alike hK, mz_nw hW hN⟩⟩ rfl rfl hl.1 rfl (lv_room (Nat.le_of_ble_eq_true rfl)) dX8_otherwise_235 ⟨Nat.le_of_ble_eq_true rfl, Nat.le_of_ble_eq_true rfl⟩) hS (fun q _ h => h.elim) (fun q h => h.elim) (fun r_235 u t H1 locs ht hvm hw_235 hB hz1 hk1 hS => ?_)
                have hE : s.heap = H1 := hB.symm.trans ht
                subst hE
                have hPc := hP.sub (ws' := []) [] rfl
                refine va_calll (va_runS (As := [.long r_222, .long r_235]) (rest := []) ⟨hx, hb, hml, hown, hts⟩ (mz_m_most l dC dI cI cJ cZ r_222 r_235 s.heap ) (va_cwS 2 hts gX8_otherwise_X8_most rfl rfl rfl (by decide +kernel) ⟨Nat.le_of_ble_eq_true rfl, Nat.le_of_ble_eq_true rfl⟩) ⟨fun a U g mk q => mz_blP q, fun U hU hW => ⟨rfl, hU, hPc, va_K.moved hW.alike hK, mz_nw hW hN⟩⟩ rfl rfl hl.1 rfl (lv_room (Nat.le_of_ble_eq_true rfl)) dX8_otherwise_238 ⟨Nat.le_of_ble_eq_true rfl, Nat.le_of_ble_eq_true rfl⟩) hS (fun q _ h => h.elim) (fun q h => h.elim) (fun r_238 u t H1 locs ht hvm hw_238 hB hz1 hk1 hS => ?_)
                have hE : s.heap = H1 := hB.symm.trans ht
                subst hE
                refine W.widen (k := 0) (n := 0) (Nat.le_of_ble_eq_true rfl) (Nat.le_of_ble_eq_true rfl) ?_
                exact W.lret (v := r_238) hx hb hr (fun t ht hW => ⟨⟨r_238, (), rfl, trivial, ht⟩, hS.F ht⟩) hS.2.2 dX8_otherwise_241
              by_cases hs_1 : p3 = 1
              · refine mz_ti (y := 1) hs_1 ?_
                refine lv_tableIn (tgt := 242) (off := 57) hx hb dX8_otherwise_185 (by decide +kernel) (by decide +kernel) (by decide +kernel) (by decide) ?_
                refine lv_lload hx hb dX8_otherwise_242 (lv_at hl 6 rfl) ?_
                refine lv_lload hx hb dX8_otherwise_244 (lv_at hl 7 rfl) ?_
                refine lv_lload hx hb dX8_otherwise_246 (lv_at hl 5 rfl) ?_
                refine lv_lsub hx hb dX8_otherwise_248 ?_
                refine lv_topl (fun v_248 ev_248 => ?_)
                have hPc := hP.sub (ws' := []) [] rfl
                refine va_calll (va_runS (As := [.long r_76, .long v_248]) (rest := []) ⟨hx, hb, hml, hown, hts⟩ (mz_m_lesser l dC dI cI cJ cZ r_76 v_248 s.heap ) (va_cwS 2 hts gX8_otherwise_X8_lesser rfl rfl rfl (by decide +kernel) ⟨Nat.le_of_ble_eq_true rfl, Nat.le_of_ble_eq_true rfl⟩) ⟨fun a U g mk q => mz_blP q, fun U hU hW => ⟨rfl, hU, hPc, va_K.moved hW.alike hK, mz_nw hW hN⟩⟩ rfl rfl hl.1 rfl (lv_room (Nat.le_of_ble_eq_true rfl)) dX8_otherwise_249 ⟨Nat.le_of_ble_eq_true rfl, Nat.le_of_ble_eq_true rfl⟩) hS (fun q _ h => h.elim) (fun q h => h.elim) (fun r_249 u t H1 locs ht hvm hw_249 hB hz1 hk1 hS => ?_)
                have hE : s.heap = H1 := hB.symm.trans ht
                subst hE
                refine lv_lload hx hb dX8_otherwise_252 (lv_at hl 3 rfl) ?_
                refine lv_lload hx hb dX8_otherwise_254 (lv_at hl 0 rfl) ?_
                refine lv_ladd hx hb dX8_otherwise_256 ?_
                refine lv_topl (fun v_256 ev_256 => ?_)
                refine lv_lload hx hb dX8_otherwise_257 (lv_at hl 6 rfl) ?_
                refine lv_lload hx hb dX8_otherwise_259 (lv_at hl 5 rfl) ?_
                refine lv_lsub hx hb dX8_otherwise_261 ?_
                refine lv_topl (fun v_261 ev_261 => ?_)
                refine lv_lload hx hb dX8_otherwise_262 (lv_at hl 2 rfl) ?_
                refine lv_ladd hx hb dX8_otherwise_264 ?_
                refine lv_topl (fun v_264 ev_264 => ?_)
                refine lv_lload hx hb dX8_otherwise_265 (lv_at hl 1 rfl) ?_
                refine lv_ladd hx hb dX8_otherwise_267 ?_
                refine lv_topl (fun v_267 ev_267 => ?_)
                have hPc := hP.sub (ws' := []) [] rfl
                refine va_calll (va_runS (As := [.long v_256, .long v_267]) (rest := [.long r_249]) ⟨hx, hb, hml, hown, hts⟩ (mz_m_lesser l dC dI cI cJ cZ v_256 v_267 s.heap ) (va_cwS 2 hts gX8_otherwise_X8_lesser rfl rfl rfl (by decide +kernel) ⟨Nat.le_of_ble_eq_true rfl, Nat.le_of_ble_eq_true rfl⟩) ⟨fun a U g mk q => mz_blP q, fun U hU hW => ⟨rfl, hU, hPc, va_K.moved hW.alike hK, mz_nw hW hN⟩⟩ rfl rfl hl.1 rfl (lv_room (Nat.le_of_ble_eq_true rfl)) dX8_otherwise_268 ⟨Nat.le_of_ble_eq_true rfl, Nat.le_of_ble_eq_true rfl⟩) hS (fun q _ h => h.elim) (fun q h => h.elim) (fun r_268 u t H1 locs ht hvm hw_268 hB hz1 hk1 hS => ?_)
                have hE : s.heap = H1 := hB.symm.trans ht
                subst hE
                have hPc := hP.sub (ws' := []) [] rfl
                refine va_calll (va_runS (As := [.long r_249, .long r_268]) (rest := []) ⟨hx, hb, hml, hown, hts⟩ (mz_m_lesser l dC dI cI cJ cZ r_249 r_268 s.heap ) (va_cwS 2 hts gX8_otherwise_X8_lesser rfl rfl rfl (by decide +kernel) ⟨Nat.le_of_ble_eq_true rfl, Nat.le_of_ble_eq_true rfl⟩) ⟨fun a U g mk q => mz_blP q, fun U hU hW => ⟨rfl, hU, hPc, va_K.moved hW.alike hK, mz_nw hW hN⟩⟩ rfl rfl hl.1 rfl (lv_room (Nat.le_of_ble_eq_true rfl)) dX8_otherwise_271 ⟨Nat.le_of_ble_eq_true rfl, Nat.le_of_ble_eq_true rfl⟩) hS (fun q _ h => h.elim) (fun q h => h.elim) (fun r_271 u t H1 locs ht hvm hw_271 hB hz1 hk1 hS => ?_)
                have hE : s.heap = H1 := hB.symm.trans ht
                subst hE
                refine W.widen (k := 0) (n := 0) (Nat.le_of_ble_eq_true rfl) (Nat.le_of_ble_eq_true rfl) ?_
                exact W.lret (v := r_271) hx hb hr (fun t ht hW => ⟨⟨r_271, (), rfl, trivial, ht⟩, hS.F ht⟩) hS.2.2 dX8_otherwise_274
              by_cases hs_2 : p3 = 2
              · refine mz_ti (y := 2) hs_2 ?_
                refine lv_tableIn (tgt := 275) (off := 90) hx hb dX8_otherwise_185 (by decide +kernel) (by decide +kernel) (by decide +kernel) (by decide) ?_
                refine lv_lconst (v := 0) hx hb dX8_otherwise_275 (by decide +kernel) ?_
                refine lv_lload hx hb dX8_otherwise_276 (lv_at hl 4 rfl) ?_
                refine lv_lload hx hb dX8_otherwise_278 (lv_at hl 5 rfl) ?_
                refine lv_lsub hx hb dX8_otherwise_280 ?_
                refine lv_topl (fun v_280 ev_280 => ?_)
                have hPc := hP.sub (ws' := []) [] rfl
                refine va_calll (va_runS (As := [.long 0, .long v_280]) (rest := []) ⟨hx, hb, hml, hown, hts⟩ (mz_m_most l dC dI cI cJ cZ 0 v_280 s.heap ) (va_cwS 2 hts gX8_otherwise_X8_most rfl rfl rfl (by decide +kernel) ⟨Nat.le_of_ble_eq_true rfl, Nat.le_of_ble_eq_true rfl⟩) ⟨fun a U g mk q => mz_blP q, fun U hU hW => ⟨rfl, hU, hPc, va_K.moved hW.alike hK, mz_nw hW hN⟩⟩ rfl rfl hl.1 rfl (lv_room (Nat.le_of_ble_eq_true rfl)) dX8_otherwise_281 ⟨Nat.le_of_ble_eq_true rfl, Nat.le_of_ble_eq_true rfl⟩) hS (fun q _ h => h.elim) (fun q h => h.elim) (fun r_281 u t H1 locs ht hvm hw_281 hB hz1 hk1 hS => ?_)
                have hE : s.heap = H1 := hB.symm.trans ht
                subst hE
                refine W.widen (k := 0) (n := 0) (Nat.le_of_ble_eq_true rfl) (Nat.le_of_ble_eq_true rfl) ?_
                exact W.lret (v := r_281) hx hb hr (fun t ht hW => ⟨⟨r_281, (), rfl, trivial, ht⟩, hS.F ht⟩) hS.2.2 dX8_otherwise_284
              by_cases hs_3 : p3 = 3
              · refine mz_ti (y := 3) hs_3 ?_
                refine lv_tableIn (tgt := 285) (off := 100) hx hb dX8_otherwise_185 (by decide +kernel) (by decide +kernel) (by decide +kernel) (by decide) ?_
                refine lv_lload hx hb dX8_otherwise_285 (lv_at hl 3 rfl) ?_
                refine lv_lload hx hb dX8_otherwise_287 (lv_at hl 7 rfl) ?_
                refine lv_lload hx hb dX8_otherwise_289 (lv_at hl 5 rfl) ?_
                refine lv_lsub hx hb dX8_otherwise_291 ?_
                refine lv_topl (fun v_291 ev_291 => ?_)
                refine lv_lload hx hb dX8_otherwise_292 (lv_at hl 0 rfl) ?_
                refine lv_lsub hx hb dX8_otherwise_294 ?_
                refine lv_topl (fun v_294 ev_294 => ?_)
                have hPc := hP.sub (ws' := []) [] rfl
                refine va_calll (va_runS (As := [.long r_125, .long v_294]) (rest := []) ⟨hx, hb, hml, hown, hts⟩ (mz_m_lesser l dC dI cI cJ cZ r_125 v_294 s.heap ) (va_cwS 2 hts gX8_otherwise_X8_lesser rfl rfl rfl (by decide +kernel) ⟨Nat.le_of_ble_eq_true rfl, Nat.le_of_ble_eq_true rfl⟩) ⟨fun a U g mk q => mz_blP q, fun U hU hW => ⟨rfl, hU, hPc, va_K.moved hW.alike hK, mz_nw hW hN⟩⟩ rfl rfl hl.1 rfl (lv_room (Nat.le_of_ble_eq_true rfl)) dX8_otherwise_295 ⟨Nat.le_of_ble_eq_true rfl, Nat.le_of_ble_eq_true rfl⟩) hS (fun q _ h => h.elim) (fun q h => h.elim) (fun r_295 u t H1 locs ht hvm hw_295 hB hz1 hk1 hS => ?_)
                have hE : s.heap = H1 := hB.symm.trans ht
                subst hE
                refine W.widen (k := 0) (n := 0) (Nat.le_of_ble_eq_true rfl) (Nat.le_of_ble_eq_true rfl) ?_
                exact W.lret (v := r_295) hx hb hr (fun t ht hW => ⟨⟨r_295, (), rfl, trivial, ht⟩, hS.F ht⟩) hS.2.2 dX8_otherwise_298
              refine lv_tableOut (tgt := 299) hx hb dX8_otherwise_185 (mz_sw3 hs_0 hs_1 hs_2 hs_3) (by decide) ?_
              refine lv_lload hx hb dX8_otherwise_299 (lv_at hl 3 rfl) ?_
              refine W.widen (k := 0) (n := 0) (Nat.le_of_ble_eq_true rfl) (Nat.le_of_ble_eq_true rfl) ?_
              exact W.lret (v := r_125) hx hb hr (fun t ht hW => ⟨⟨r_125, (), rfl, trivial, ht⟩, hS.F ht⟩) hS.2.2 dX8_otherwise_301
            · skip
              have d_46 : ¬ n ≤ i_40 := fun h => c_46 ((nI_leI (a := n) (b := i_40) (by omega) (by omega)).mpr h)
              refine lv_lload hx hb dX8_otherwise_49 (lv_at hl 1 rfl) ?_
              refine lv_ldc2 hx hb hown (hts (.constantLong RX8 96 (100)) (by decide +kernel)) dX8_otherwise_51 ?_
              refine lv_lmul hx hb dX8_otherwise_54 ?_
              refine lv_topl (fun v_54 ev_54 => ?_)
              refine lv_lstore (lv' := [(4, .long v_54), (6, .int (nI i_40)), (0, .ref mo), (1, .int (nI j_2)), (2, .int (nI j_10)), (3, .int p3)]) hx hb dX8_otherwise_55 hl (by decide) rfl (fun ls hl => ?_)
              refine lv_iinc (v := (nI (i_40 + 1))) (lv' := [(6, .int (nI (i_40 + 1))), (4, .long v_54), (0, .ref mo), (1, .int (nI j_2)), (2, .int (nI j_10)), (3, .int p3)]) hx hb dX8_otherwise_57 hl (k := 1) rfl (nI_1 _) (by decide) rfl (fun ls hl => ?_)
              refine lv_goto (tgt := 40) hx hb dX8_otherwise_60 (by decide) ?_
              exact ih_40 _ (by omega) _ _ _ ⟨(i_40 + 1), v_54, by omega, rfl, hS, lv_sub hl [0, 1, 2, 3, 4, 5] rfl, rfl⟩
          · skip
            refine lv_ldc2 hx hb hown (hts (.constantLong RX8 108 (-1)) (by decide +kernel)) dX8_otherwise_30 ?_
            refine W.widen (k := 0) (n := 0) (Nat.le_of_ble_eq_true rfl) (Nat.le_of_ble_eq_true rfl) ?_
            exact W.lret (v := (-1)) hx hb hr (fun t ht hW => ⟨⟨(-1), (), rfl, trivial, ht⟩, hS.F ht⟩) hS.2.2 dX8_otherwise_33
    · skip
      refine lv_if_eq (tgt := 30) hx hb dX8_otherwise_13 (by decide) (fun _ => ?_) (fun c_13 => absurd (by decide +kernel) c_13)
      refine lv_ldc2 hx hb hown (hts (.constantLong RX8 108 (-1)) (by decide +kernel)) dX8_otherwise_30 ?_
      refine W.widen (k := 0) (n := 0) (Nat.le_of_ble_eq_true rfl) (Nat.le_of_ble_eq_true rfl) ?_
      exact W.lret (v := (-1)) hx hb hr (fun t ht hW => ⟨⟨(-1), (), rfl, trivial, ht⟩, hS.F ht⟩) hS.2.2 dX8_otherwise_33
  · skip
    refine lv_if_eq (tgt := 30) hx hb dX8_otherwise_5 (by decide) (fun _ => ?_) (fun c_5 => absurd (by decide +kernel) c_5)
    refine lv_ldc2 hx hb hown (hts (.constantLong RX8 108 (-1)) (by decide +kernel)) dX8_otherwise_30 ?_
    refine W.widen (k := 0) (n := 0) (Nat.le_of_ble_eq_true rfl) (Nat.le_of_ble_eq_true rfl) ?_
    exact W.lret (v := (-1)) hx hb hr (fun t ht hW => ⟨⟨(-1), (), rfl, trivial, ht⟩, hS.F ht⟩) hS.2.2 dX8_otherwise_33
set_option maxHeartbeats 1000000 in
set_option maxRecDepth 100000 in
theorem mz_m_count (l : Launch) (dC : Nat → ClassId) (dI : Nat → Nat → Nat) (cI cJ cZ : ClassId) (mo : Nat) (m1 : Nat) (m2 : Nat) (m3 : Nat) (m6 : Nat) (m7 : Nat) (m8 : Nat) (m9 : Nat) (m10 : Nat) (m11 : Nat) (m12 : Nat) (m13 : Nat) (m14 : Nat) (m15 : Nat) (m16 : Nat) (n : Nat) (ka : Int64) (kb : Int64) (fs : Nat → Int32) (fp : Nat → Int32) (p1 : Int32) (Hq : Heap) (hn : n ≤ 8) : Met l yX8_count wsX8_count ({ frames := 1, cells := 0, slots := 0, locals := 22 }) (va_Pc [.ref mo, .int p1] (fun U => U.heap = Hq ∧ va_P (dC, dI) vwCl [(mo, .inr (8, [.int (nI n), .ref m1, .ref m2, .ref m3, .long ka, .long kb, .ref m6, .ref m7, .ref m8, .ref m9, .ref m10, .ref m11, .ref m12, .ref m13, .ref m14, .ref m15, .ref m16])), (m1, .inl (cZ, 8, .inl fs)), (m2, .inl (cI, 8, .inl fp))] Hq ∧ va_K (dC, dI) vwCl [(cI, FieldType.int), (cJ, FieldType.long), (cZ, FieldType.boolean)] U ∧ mz_N U)) (va_Qi (fun (r : Int32) (_ : Unit) => True) (fun _ t => t.heap = Hq) (fun _ : Nat => False)) 0 0 (fun _ : Nat => False) := by
  refine Met.ofW (cc := cX8_count) (maxL := 4) (ret := (some .int)) (by decide) rfl ?_
  intro p e s m args below meth c s₁ B hml hv
  obtain ⟨rfl, hH, hP, hK, hN⟩ := hv
  subst hH
  have hx := B.exec
  have hb := B.bytes
  have hr := B.returns
  have hts := atoms_spec (ws := wsX8_count) B.pre
  have hown : s.vm.findClass RX8 = some m.cls := findClass_of_methodNamed B.named
  have hlocks := B.notSynchronized
  have hS : va_S (fun _ : Nat => False) s.heap s.heap [] := va_S.rf
  have hiX8 : ∀ w ∈ u_ws RX8 TX8 17, w ∈ wsX8_count := by decide +kernel
  have hl := lv_entry ([.ref mo, .int p1]) (n := 4) (Nat.le_of_ble_eq_true rfl)
  rw [lg_entry_eq]
  generalize (lg_sl ([.ref mo, .int p1]) ++ List.replicate (4 - (lg_sl ([.ref mo, .int p1])).length) Slot.unset).toArray = ls at hl ⊢
  have hl : lv_has ls 4 [(0, .ref mo), (1, .int p1)] := hl
  refine lv_iconst (v := 0) hx hb dX8_count_0 (by decide +kernel) ?_
  refine lv_istore_n (lv' := [(2, .int 0), (0, .ref mo), (1, .int p1)]) hx hb dX8_count_1 rfl hl (by decide) rfl (fun ls hl => ?_)
  refine lv_iload_n hx hb dX8_count_2 rfl (lv_at hl 2 rfl) ?_
  by_cases hs_0 : p1 = 0
  · refine mz_ti (y := 0) hs_0 ?_
    refine lv_tableIn (tgt := 28) (off := 25) hx hb dX8_count_3 (by decide +kernel) (by decide +kernel) (by decide +kernel) (by decide) ?_
    refine lv_aload_n hx hb dX8_count_28 rfl (lv_at hl 1 rfl) ?_
    refine va_get (D := (dC, dI)) (ci := 8) (v := .int (nI n)) (C := RX8) (T := TX8) (N := 17) hx hb hts hiX8 hown hK hP 0 rfl rfl 0 (by decide) (hts (.fieldLink RX8 58 "MadeItSoModel" "many" "I") (by decide +kernel)) (fun _ h9 => h9) rfl dX8_count_29 ?_
    refine W.widen (k := 0) (n := 0) (Nat.le_of_ble_eq_true rfl) (Nat.le_of_ble_eq_true rfl) ?_
    exact W.iret (v := (nI n)) hx hb hr (fun t ht hW => ⟨⟨(nI n), (), rfl, trivial, ht⟩, hS.F ht⟩) hS.2.2 dX8_count_32
  by_cases hs_1 : p1 = 1
  · refine mz_ti (y := 1) hs_1 ?_
    refine lv_tableIn (tgt := 33) (off := 30) hx hb dX8_count_3 (by decide +kernel) (by decide +kernel) (by decide +kernel) (by decide) ?_
    refine lv_iconst (v := 0) hx hb dX8_count_33 (by decide +kernel) ?_
    refine lv_istore_n (lv' := [(3, .int 0), (2, .int 0), (0, .ref mo), (1, .int p1)]) hx hb dX8_count_34 rfl hl (by decide) rfl (fun ls hl => ?_)
    refine mz_loopU (fun k H locs ls => ∃ (i_35 : Nat), ∃ (x2_35 : Int32), i_35 ≤ n ∧ H = s.heap ∧ va_S (fun _ : Nat => False) s.heap H locs ∧ lv_has ls 4 [(3, .int (nI i_35)), (2, .int x2_35), (0, .ref mo), (1, .int p1)] ∧ k = n - i_35) ?_ _ _ _ _ ⟨0, 0, by omega, rfl, hS, lv_sub hl [0, 1, 2, 3] rfl, rfl⟩
    intro k_35 H locs ls hI_35 ih_35
    obtain ⟨i_35, x2_35, hi_35, hH_35, hS, hl, hk_35⟩ := hI_35
    subst hH_35
    refine lv_iload_n hx hb dX8_count_35 rfl (lv_at hl 0 rfl) ?_
    refine lv_aload_n hx hb dX8_count_36 rfl (lv_at hl 2 rfl) ?_
    refine va_get (D := (dC, dI)) (ci := 8) (v := .int (nI n)) (C := RX8) (T := TX8) (N := 17) hx hb hts hiX8 hown hK hP 0 rfl rfl 0 (by decide) (hts (.fieldLink RX8 58 "MadeItSoModel" "many" "I") (by decide +kernel)) (fun _ h9 => h9) rfl dX8_count_37 ?_
    refine lv_icmp_ge (tgt := 61) hx hb dX8_count_40 (by decide) (fun c_40 => ?_) (fun c_40 => ?_)
    · skip
      have d_40 : n ≤ i_35 := (nI_leI (a := n) (b := i_35) (by omega) (by omega)).mp c_40
      refine lv_iload_n hx hb dX8_count_61 rfl (lv_at hl 1 rfl) ?_
      refine W.widen (k := 0) (n := 0) (Nat.le_of_ble_eq_true rfl) (Nat.le_of_ble_eq_true rfl) ?_
      exact W.iret (v := x2_35) hx hb hr (fun t ht hW => ⟨⟨x2_35, (), rfl, trivial, ht⟩, hS.F ht⟩) hS.2.2 dX8_count_62
    · skip
      have d_40 : ¬ n ≤ i_35 := fun h => c_40 ((nI_leI (a := n) (b := i_35) (by omega) (by omega)).mpr h)
      refine lv_iload_n hx hb dX8_count_43 rfl (lv_at hl 1 rfl) ?_
      refine lv_aload_n hx hb dX8_count_44 rfl (lv_at hl 2 rfl) ?_
      refine va_get (D := (dC, dI)) (ci := 8) (v := .ref m2) (C := RX8) (T := TX8) (N := 17) hx hb hts hiX8 hown hK hP 0 rfl rfl 2 (by decide) (hts (.fieldLink RX8 13 "MadeItSoModel" "parents" "[I") (by decide +kernel)) (fun _ h9 => h9) rfl dX8_count_45 ?_
      refine lv_iload_n hx hb dX8_count_48 rfl (lv_at hl 0 rfl) ?_
      refine va_iald hx hb hK hP 2 0 rfl rfl (vp_in_nI (by omega) (by omega)) dX8_count_49 ?_
      refine lv_topi (fun v_49 ev_49 => ?_)
      have hPc := hP.sub (ws' := []) [] rfl
      refine va_calli (va_runS (As := [.int v_49]) (rest := [.int x2_35]) ⟨hx, hb, hml, hown, hts⟩ (mz_m_bits l dC dI cI cJ cZ v_49 s.heap ) (va_cwS 1 hts gX8_count_X8_bits rfl rfl rfl (by decide +kernel) ⟨Nat.le_of_ble_eq_true rfl, Nat.le_of_ble_eq_true rfl⟩) ⟨fun a U g mk q => mz_blP q, fun U hU hW => ⟨rfl, hU, hPc, va_K.moved hW.alike hK, mz_nw hW hN⟩⟩ rfl rfl hl.1 rfl (lv_room (Nat.le_of_ble_eq_true rfl)) dX8_count_50 ⟨Nat.le_of_ble_eq_true rfl, Nat.le_of_ble_eq_true rfl⟩) hS (fun q _ h => h.elim) (fun q h => h.elim) (fun r_50 u t H1 locs ht hvm hw_50 hB hz1 hk1 hS => ?_)
      have hE : s.heap = H1 := hB.symm.trans ht
      subst hE
      refine lv_iadd hx hb dX8_count_53 ?_
      refine lv_topi (fun v_53 ev_53 => ?_)
      refine lv_istore_n (lv' := [(2, .int v_53), (3, .int (nI i_35)), (0, .ref mo), (1, .int p1)]) hx hb dX8_count_54 rfl hl (by decide) rfl (fun ls hl => ?_)
      refine lv_iinc (v := (nI (i_35 + 1))) (lv' := [(3, .int (nI (i_35 + 1))), (2, .int v_53), (0, .ref mo), (1, .int p1)]) hx hb dX8_count_55 hl (k := 1) rfl (nI_1 _) (by decide) rfl (fun ls hl => ?_)
      refine lv_goto (tgt := 35) hx hb dX8_count_58 (by decide) ?_
      exact ih_35 _ (by omega) _ _ _ ⟨(i_35 + 1), v_53, by omega, rfl, hS, lv_sub hl [0, 1, 2, 3] rfl, rfl⟩
  by_cases hs_2 : p1 = 2
  · refine mz_ti (y := 2) hs_2 ?_
    refine lv_tableIn (tgt := 63) (off := 60) hx hb dX8_count_3 (by decide +kernel) (by decide +kernel) (by decide +kernel) (by decide) ?_
    refine lv_aload_n hx hb dX8_count_63 rfl (lv_at hl 1 rfl) ?_
    have hPc := hP.sub (ws' := [(mo, .inr (8, [.int (nI n), .ref m1, .ref m2, .ref m3, .long ka, .long kb, .ref m6, .ref m7, .ref m8, .ref m9, .ref m10, .ref m11, .ref m12, .ref m13, .ref m14, .ref m15, .ref m16])), (m1, .inl (cZ, 8, .inl fs))]) [0, 1] rfl
    refine va_calli (va_runV (As := []) (rest := []) ⟨hx, hb, hml, hown, hts⟩ (mz_m_seen l dC dI cI cJ cZ mo m1 m2 m3 m6 m7 m8 m9 m10 m11 m12 m13 m14 m15 m16 n ka kb fs s.heap (by first | assumption | omega)) (cwV 0 hts gX8_count_X8_seen rfl rfl rfl (by decide +kernel) ⟨Nat.le_of_ble_eq_true rfl, Nat.le_of_ble_eq_true rfl⟩) ⟨fun a U g mk q => mz_blP q, va_recv hK hPc (ci := 8) (q0 := 0) rfl rfl, fun U hU hW => ⟨rfl, hU, hPc, va_K.moved hW.alike hK, mz_nw hW hN⟩⟩ rfl rfl hl.1 rfl (lv_room (Nat.le_of_ble_eq_true rfl)) dX8_count_64 ⟨Nat.le_of_ble_eq_true rfl, Nat.le_of_ble_eq_true rfl⟩) hS (fun q _ h => h.elim) (fun q h => h.elim) (fun r_64 u t H1 locs ht hvm hw_64 hB hz1 hk1 hS => ?_)
    have hE : s.heap = H1 := hB.symm.trans ht
    subst hE
    refine W.widen (k := 0) (n := 0) (Nat.le_of_ble_eq_true rfl) (Nat.le_of_ble_eq_true rfl) ?_
    exact W.iret (v := r_64) hx hb hr (fun t ht hW => ⟨⟨r_64, (), rfl, trivial, ht⟩, hS.F ht⟩) hS.2.2 dX8_count_67
  refine lv_tableOut (tgt := 68) hx hb dX8_count_3 (mz_sw2 hs_0 hs_1 hs_2) (by decide) ?_
  refine lv_iconst (v := (-1)) hx hb dX8_count_68 (by decide +kernel) ?_
  refine W.widen (k := 0) (n := 0) (Nat.le_of_ble_eq_true rfl) (Nat.le_of_ble_eq_true rfl) ?_
  exact W.iret (v := (-1)) hx hb hr (fun t ht hW => ⟨⟨(-1), (), rfl, trivial, ht⟩, hS.F ht⟩) hS.2.2 dX8_count_69
