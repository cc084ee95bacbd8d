/-! exact answers: least heaps, fit -/
set_option maxHeartbeats 1000000 in
set_option maxRecDepth 100000 in
theorem mz_u_holdsOne (l : Launch) (dC : Nat → ClassId) (dI : Nat → Nat → Nat) (cI cJ cZ : ClassId) (lh : Nat) (hf : Nat) (lk : Nat) (ff : Nat → Int32) (p0 : Int32) (Hq : Heap) (hk : lk ≤ 64) : Met l yX3_holdsOne wsX3_holdsOne ({ frames := 0, cells := 0, slots := 0, locals := 0 }) (va_Pc [.ref lh, .int p0] (fun U => U.heap = Hq ∧ va_P (dC, dI) vwCl [(lh, .inr (3, [.ref hf, .int (nI lk)])), (hf, .inl (cI, 64, .inl ff))] Hq ∧ va_K (dC, dI) vwCl [(cI, FieldType.int), (cJ, FieldType.long), (cZ, FieldType.boolean)] U ∧ mz_N U)) (va_Qi (fun (r : Int32) (_ : Unit) => (r = 1 ∧ ∃ q, q < lk ∧ (ff q) &&& (p0 ^^^ (-1)) = 0) ∨ (r = 0 ∧ ∀ q, q < lk → ¬ (ff q) &&& (p0 ^^^ (-1)) = 0)) (fun _ t => t.heap = Hq) (fun _ : Nat => False)) 0 0 (fun _ : Nat => False) := by
  refine Met.ofW (cc := cX3_holdsOne) (maxL := 3) (ret := (some .boolean)) (by decide) rfl ?_
  intro p e s m args below meth c s₁ B hml hv
  obtain ⟨rfl, hH, hP, hK, hN⟩ := hv
  subst hH
  have hx := B.exec
  have hb := B.bytes
  have hr := B.returns
  have hts := atoms_spec (ws := wsX3_holdsOne) B.pre
  have hown : s.vm.findClass RX3 = some m.cls := findClass_of_methodNamed B.named
  have hlocks := B.notSynchronized
  have hS : va_S (fun _ : Nat => False) s.heap s.heap [] := va_S.rf
  have hiX3 : ∀ w ∈ u_ws RX3 TX3 2, w ∈ wsX3_holdsOne := by decide +kernel
  have hl := lv_entry ([.ref lh, .int p0]) (n := 3) (Nat.le_of_ble_eq_true rfl)
  rw [lg_entry_eq]
  generalize (lg_sl ([.ref lh, .int p0]) ++ List.replicate (3 - (lg_sl ([.ref lh, .int p0])).length) Slot.unset).toArray = ls at hl ⊢
  have hl : lv_has ls 3 [(0, .ref lh), (1, .int p0)] := hl
  refine lv_iconst (v := 0) hx hb dX3_holdsOne_0 (by decide +kernel) ?_
  refine lv_istore_n (lv' := [(2, .int 0), (0, .ref lh), (1, .int p0)]) hx hb dX3_holdsOne_1 rfl hl (by decide) rfl (fun ls hl => ?_)
  refine mz_loopU (fun k H locs ls => ∃ (i_2 : Nat), i_2 ≤ lk ∧ (∀ q, q < i_2 → ¬ (ff q) &&& (p0 ^^^ (-1)) = 0) ∧ H = s.heap ∧ va_S (fun _ : Nat => False) s.heap H locs ∧ lv_has ls 3 [(2, .int (nI i_2)), (0, .ref lh), (1, .int p0)] ∧ k = lk - i_2) ?_ _ _ _ _ ⟨0, by omega, (fun q hq => absurd hq (Nat.not_lt_zero q)), rfl, hS, lv_sub hl [0, 1, 2] rfl, rfl⟩
  intro k_2 H locs ls hI_2 ih_2
  obtain ⟨i_2, hi_2, hq_2, hH_2, hS, hl, hk_2⟩ := hI_2
  subst hH_2
  refine lv_iload_n hx hb dX3_holdsOne_2 rfl (lv_at hl 0 rfl) ?_
  refine lv_aload_n hx hb dX3_holdsOne_3 rfl (lv_at hl 1 rfl) ?_
  refine va_get (D := (dC, dI)) (ci := 3) (v := .int (nI lk)) (C := RX3) (T := TX3) (N := 2) hx hb hts hiX3 hown hK hP 0 rfl rfl 1 (by decide) (hts (.fieldLink RX3 15 "MadeItSo$LeastHeaps" "many" "I") (by decide +kernel)) (fun _ h9 => h9) rfl dX3_holdsOne_4 ?_
  refine lv_icmp_ge (tgt := 40) hx hb dX3_holdsOne_7 (by decide) (fun c_7 => ?_) (fun c_7 => ?_)
  · skip
    have d_7 : lk ≤ i_2 := (nI_leI (a := lk) (b := i_2) (by omega) (by omega)).mp c_7
    refine lv_iconst (v := 0) hx hb dX3_holdsOne_40 (by decide +kernel) ?_
    refine W.widen (k := 0) (n := 0) (Nat.le_of_ble_eq_true rfl) (Nat.le_of_ble_eq_true rfl) ?_
    exact W.zret (v := 0) hx hb hr (mz_nz (by decide +kernel)) (fun t ht hW => ⟨⟨0, (), rfl, Or.inr ⟨rfl, fun q hq => hq_2 q (by omega)⟩, ht⟩, hS.F ht⟩) hS.2.2 dX3_holdsOne_41
  · skip
    have d_7 : ¬ lk ≤ i_2 := fun h => c_7 ((nI_leI (a := lk) (b := i_2) (by omega) (by omega)).mpr h)
    refine lv_iload_n hx hb dX3_holdsOne_10 rfl (lv_at hl 0 rfl) ?_
    refine lv_aload_n hx hb dX3_holdsOne_11 rfl (lv_at hl 1 rfl) ?_
    refine va_get (D := (dC, dI)) (ci := 3) (v := .ref hf) (C := RX3) (T := TX3) (N := 2) hx hb hts hiX3 hown hK hP 0 rfl rfl 0 (by decide) (hts (.fieldLink RX3 9 "MadeItSo$LeastHeaps" "found" "[I") (by decide +kernel)) (fun _ h9 => h9) rfl dX3_holdsOne_12 ?_
    refine va_alen (v := 64) hx hb hK hP 1 0 rfl rfl rfl dX3_holdsOne_15 ?_
    refine lv_icmp_ge (tgt := 40) hx hb dX3_holdsOne_16 (by decide) (fun c_16 => ?_) (fun c_16 => ?_)
    · skip
      have d_16 : 64 ≤ i_2 := (nI_leI (a := 64) (b := i_2) (by omega) (by omega)).mp c_16
      refine lv_iconst (v := 0) hx hb dX3_holdsOne_40 (by decide +kernel) ?_
      refine W.widen (k := 0) (n := 0) (Nat.le_of_ble_eq_true rfl) (Nat.le_of_ble_eq_true rfl) ?_
      exact W.zret (v := 0) hx hb hr (mz_nz (by decide +kernel)) (fun t ht hW => ⟨⟨0, (), rfl, Or.inr ⟨rfl, fun q hq => hq_2 q (by omega)⟩, ht⟩, hS.F ht⟩) hS.2.2 dX3_holdsOne_41
    · skip
      have d_16 : ¬ 64 ≤ i_2 := fun h => c_16 ((nI_leI (a := 64) (b := i_2) (by omega) (by omega)).mpr h)
      refine lv_aload_n hx hb dX3_holdsOne_19 rfl (lv_at hl 1 rfl) ?_
      refine va_get (D := (dC, dI)) (ci := 3) (v := .ref hf) (C := RX3) (T := TX3) (N := 2) hx hb hts hiX3 hown hK hP 0 rfl rfl 0 (by decide) (hts (.fieldLink RX3 9 "MadeItSo$LeastHeaps" "found" "[I") (by decide +kernel)) (fun _ h9 => h9) rfl dX3_holdsOne_20 ?_
      refine lv_iload_n hx hb dX3_holdsOne_23 rfl (lv_at hl 0 rfl) ?_
      refine va_iald hx hb hK hP 1 0 rfl rfl (vp_in_nI (by omega) (by omega)) dX3_holdsOne_24 ?_
      refine mz_ti (y := (ff i_2)) (by rw [mz_cl (by omega)]) ?_
      refine lv_iload_n hx hb dX3_holdsOne_25 rfl (lv_at hl 2 rfl) ?_
      refine lv_iconst (v := (-1)) hx hb dX3_holdsOne_26 (by decide +kernel) ?_
      refine lv_ixor hx hb dX3_holdsOne_27 ?_
      refine lv_iand hx hb dX3_holdsOne_28 ?_
      refine lv_if_ne (tgt := 34) hx hb dX3_holdsOne_29 (by decide) (fun c_29 => ?_) (fun c_29 => ?_)
      · skip
        refine lv_iinc (v := (nI (i_2 + 1))) (lv' := [(2, .int (nI (i_2 + 1))), (0, .ref lh), (1, .int p0)]) hx hb dX3_holdsOne_34 hl (k := 0) rfl (nI_1 _) (by decide) rfl (fun ls hl => ?_)
        refine lv_goto (tgt := 2) hx hb dX3_holdsOne_37 (by decide) ?_
        exact ih_2 _ (by omega) _ _ _ ⟨(i_2 + 1), by omega, (lt_s hq_2 c_29), rfl, hS, lv_sub hl [0, 1, 2] rfl, rfl⟩
      · skip
        refine lv_iconst (v := 1) hx hb dX3_holdsOne_32 (by decide +kernel) ?_
        refine W.widen (k := 0) (n := 0) (Nat.le_of_ble_eq_true rfl) (Nat.le_of_ble_eq_true rfl) ?_
        exact W.zret (v := 1) hx hb hr (mz_nz (by decide +kernel)) (fun t ht hW => ⟨⟨1, (), rfl, Or.inl ⟨rfl, i_2, by omega, c_29⟩, ht⟩, hS.F ht⟩) hS.2.2 dX3_holdsOne_33
set_option maxHeartbeats 1000000 in
set_option maxRecDepth 100000 in
theorem mz_u_size (l : Launch) (dC : Nat → ClassId) (dI : Nat → Nat → Nat) (cI cJ cZ : ClassId) (lh : Nat) (hf : Nat) (lk : Nat) (Hq : Heap)  : Met l yX3_size wsX3_size ({ frames := 0, cells := 0, slots := 0, locals := 0 }) (va_Pc [.ref lh] (fun U => U.heap = Hq ∧ va_P (dC, dI) vwCl [(lh, .inr (3, [.ref hf, .int (nI lk)]))] Hq ∧ va_K (dC, dI) vwCl [(cI, FieldType.int), (cJ, FieldType.long), (cZ, FieldType.boolean)] U ∧ mz_N U)) (va_Qi (fun (r : Int32) (_ : Unit) => r = (nI lk)) (fun _ t => t.heap = Hq) (fun _ : Nat => False)) 0 0 (fun _ : Nat => False) := by
  refine Met.ofW (cc := cX3_size) (maxL := 1) (ret := (some .int)) (by decide) rfl ?_
  intro p e s m args below meth c s₁ B hml hv
  obtain ⟨rfl, hH, hP, hK, hN⟩ := hv
  subst hH
  have hx := B.exec
  have hb := B.bytes
  have hr := B.returns
  have hts := atoms_spec (ws := wsX3_size) B.pre
  have hown : s.vm.findClass RX3 = some m.cls := findClass_of_methodNamed B.named
  have hlocks := B.notSynchronized
  have hS : va_S (fun _ : Nat => False) s.heap s.heap [] := va_S.rf
  have hiX3 : ∀ w ∈ u_ws RX3 TX3 2, w ∈ wsX3_size := by decide +kernel
  have hl := lv_entry ([.ref lh]) (n := 1) (Nat.le_of_ble_eq_true rfl)
  rw [lg_entry_eq]
  generalize (lg_sl ([.ref lh]) ++ List.replicate (1 - (lg_sl ([.ref lh])).length) Slot.unset).toArray = ls at hl ⊢
  have hl : lv_has ls 1 [(0, .ref lh)] := hl
  refine lv_aload_n hx hb dX3_size_0 rfl (lv_at hl 0 rfl) ?_
  refine va_get (D := (dC, dI)) (ci := 3) (v := .int (nI lk)) (C := RX3) (T := TX3) (N := 2) hx hb hts hiX3 hown hK hP 0 rfl rfl 1 (by decide) (hts (.fieldLink RX3 15 "MadeItSo$LeastHeaps" "many" "I") (by decide +kernel)) (fun _ h9 => h9) rfl dX3_size_1 ?_
  refine W.widen (k := 0) (n := 0) (Nat.le_of_ble_eq_true rfl) (Nat.le_of_ble_eq_true rfl) ?_
  exact W.iret (v := (nI lk)) hx hb hr (fun t ht hW => ⟨⟨(nI lk), (), rfl, rfl, ht⟩, hS.F ht⟩) hS.2.2 dX3_size_4
set_option maxHeartbeats 1000000 in
set_option maxRecDepth 100000 in
theorem mz_u_at (l : Launch) (dC : Nat → ClassId) (dI : Nat → Nat → Nat) (cI cJ cZ : ClassId) (lh : Nat) (hf : Nat) (lk : Nat) (ff : Nat → Int32) (p0 : Int32) (Hq : Heap) (hk : lk ≤ 64) : Met l yX3_at wsX3_at ({ frames := 0, cells := 0, slots := 0, locals := 0 }) (va_Pc [.ref lh, .int p0] (fun U => U.heap = Hq ∧ va_P (dC, dI) vwCl [(lh, .inr (3, [.ref hf, .int (nI lk)])), (hf, .inl (cI, 64, .inl ff))] Hq ∧ va_K (dC, dI) vwCl [(cI, FieldType.int), (cJ, FieldType.long), (cZ, FieldType.boolean)] U ∧ mz_N U)) (va_Qi (fun (r : Int32) (_ : Unit) => (∃ q, q < lk ∧ p0 = nI q ∧ r = ff q) ∨ (r = -1 ∧ ∀ q, q < lk → ¬ p0 = nI q)) (fun _ t => t.heap = Hq) (fun _ : Nat => False)) 0 0 (fun _ : Nat => False) := by
  refine Met.ofW (cc := cX3_at) (maxL := 2) (ret := (some .int)) (by decide) rfl ?_
  intro p e s m args below meth c s₁ B hml hv
  obtain ⟨rfl, hH, hP, hK, hN⟩ := hv
  subst hH
  have hx := B.exec
  have hb := B.bytes
  have hr := B.returns
  have hts := atoms_spec (ws := wsX3_at) B.pre
  have hown : s.vm.findClass RX3 = some m.cls := findClass_of_methodNamed B.named
  have hlocks := B.notSynchronized
  have hS : va_S (fun _ : Nat => False) s.heap s.heap [] := va_S.rf
  have hiX3 : ∀ w ∈ u_ws RX3 TX3 2, w ∈ wsX3_at := by decide +kernel
  have hl := lv_entry ([.ref lh, .int p0]) (n := 2) (Nat.le_of_ble_eq_true rfl)
  rw [lg_entry_eq]
  generalize (lg_sl ([.ref lh, .int p0]) ++ List.replicate (2 - (lg_sl ([.ref lh, .int p0])).length) Slot.unset).toArray = ls at hl ⊢
  have hl : lv_has ls 2 [(0, .ref lh), (1, .int p0)] := hl
  refine lv_iload_n hx hb dX3_at_0 rfl (lv_at hl 1 rfl) ?_
  refine lv_if_lt (tgt := 30) hx hb dX3_at_1 (by decide) (fun c_1 => ?_) (fun c_1 => ?_)
  · skip
    refine lv_iconst (v := (-1)) hx hb dX3_at_30 (by decide +kernel) ?_
    refine W.widen (k := 0) (n := 0) (Nat.le_of_ble_eq_true rfl) (Nat.le_of_ble_eq_true rfl) ?_
    exact W.iret (v := (-1)) hx hb hr (fun t ht hW => ⟨⟨(-1), (), rfl, Or.inr ⟨rfl, fun q hq e => nI_pos (n := q) (by omega) (by rw [← e]; exact c_1)⟩, ht⟩, hS.F ht⟩) hS.2.2 dX3_at_31
  · skip
    refine lv_iload_n hx hb dX3_at_4 rfl (lv_at hl 1 rfl) ?_
    refine lv_aload_n hx hb dX3_at_5 rfl (lv_at hl 0 rfl) ?_
    refine va_get (D := (dC, dI)) (ci := 3) (v := .int (nI lk)) (C := RX3) (T := TX3) (N := 2) hx hb hts hiX3 hown hK hP 0 rfl rfl 1 (by decide) (hts (.fieldLink RX3 15 "MadeItSo$LeastHeaps" "many" "I") (by decide +kernel)) (fun _ h9 => h9) rfl dX3_at_6 ?_
    refine lv_icmp_ge (tgt := 30) hx hb dX3_at_9 (by decide) (fun c_9 => ?_) (fun c_9 => ?_)
    · skip
      refine lv_iconst (v := (-1)) hx hb dX3_at_30 (by decide +kernel) ?_
      refine W.widen (k := 0) (n := 0) (Nat.le_of_ble_eq_true rfl) (Nat.le_of_ble_eq_true rfl) ?_
      exact W.iret (v := (-1)) hx hb hr (fun t ht hW => ⟨⟨(-1), (), rfl, Or.inr ⟨rfl, fun q hq e => mz_ltR hq (by omega) (by rw [← e]; exact c_9)⟩, ht⟩, hS.F ht⟩) hS.2.2 dX3_at_31
    · skip
      obtain ⟨j_12, hj_12, he_12⟩ := mz_ix (n := lk) c_1 c_9 (by omega)
      subst he_12
      refine lv_iload_n hx hb dX3_at_12 rfl (lv_at hl 1 rfl) ?_
      refine lv_aload_n hx hb dX3_at_13 rfl (lv_at hl 0 rfl) ?_
      refine va_get (D := (dC, dI)) (ci := 3) (v := .ref hf) (C := RX3) (T := TX3) (N := 2) hx hb hts hiX3 hown hK hP 0 rfl rfl 0 (by decide) (hts (.fieldLink RX3 9 "MadeItSo$LeastHeaps" "found" "[I") (by decide +kernel)) (fun _ h9 => h9) rfl dX3_at_14 ?_
      refine va_alen (v := 64) hx hb hK hP 1 0 rfl rfl rfl dX3_at_17 ?_
      refine lv_icmp_ge (tgt := 30) hx hb dX3_at_18 (by decide) (fun c_18 => ?_) (fun c_18 => ?_)
      · skip
        have d_18 : 64 ≤ j_12 := (nI_leI (a := 64) (b := j_12) (by omega) (by omega)).mp c_18
        refine lv_iconst (v := (-1)) hx hb dX3_at_30 (by decide +kernel) ?_
        refine W.widen (k := 0) (n := 0) (Nat.le_of_ble_eq_true rfl) (Nat.le_of_ble_eq_true rfl) ?_
        exact W.iret (v := (-1)) hx hb hr (fun t ht hW => ⟨⟨(-1), (), rfl, (by exfalso; omega), ht⟩, hS.F ht⟩) hS.2.2 dX3_at_31
      · skip
        have d_18 : ¬ 64 ≤ j_12 := fun h => c_18 ((nI_leI (a := 64) (b := j_12) (by omega) (by omega)).mpr h)
        refine lv_aload_n hx hb dX3_at_21 rfl (lv_at hl 0 rfl) ?_
        refine va_get (D := (dC, dI)) (ci := 3) (v := .ref hf) (C := RX3) (T := TX3) (N := 2) hx hb hts hiX3 hown hK hP 0 rfl rfl 0 (by decide) (hts (.fieldLink RX3 9 "MadeItSo$LeastHeaps" "found" "[I") (by decide +kernel)) (fun _ h9 => h9) rfl dX3_at_22 ?_
        refine lv_iload_n hx hb dX3_at_25 rfl (lv_at hl 1 rfl) ?_
        refine va_iald hx hb hK hP 1 0 rfl rfl (vp_in_nI (by omega) (by omega)) dX3_at_26 ?_
        refine mz_ti (y := (ff j_12)) (by rw [mz_cl (by omega)]) ?_
        refine lv_goto (tgt := 31) hx hb dX3_at_27 (by decide) ?_
        refine W.widen (k := 0) (n := 0) (Nat.le_of_ble_eq_true rfl) (Nat.le_of_ble_eq_true rfl) ?_
        exact W.iret (v := (ff j_12)) hx hb hr (fun t ht hW => ⟨⟨(ff j_12), (), rfl, Or.inl ⟨j_12, hj_12, rfl, rfl⟩, ht⟩, hS.F ht⟩) hS.2.2 dX3_at_31
set_option maxHeartbeats 1000000 in
set_option maxRecDepth 100000 in
theorem mz_u_seek (l : Launch) (dC : Nat → ClassId) (dI : Nat → Nat → Nat) (cI cJ cZ : ClassId) (lh : Nat) (hf : Nat) (lm : Int32) (ff : Nat → Int32) (dr : Nat) (dp : Nat) (dc : Nat) (n : Nat) (fp : Nat → Int32) (fc : Nat → Int32) (i : Nat) (j : Nat) (p4 : Int32) (PQ : Nat → Prop) (sz : Nat) (hn : n ≤ 8) (hi : i < n) (hj : j < n) (hne : ¬ i = j) (hp8 : ∀ k, k < 8 → ∀ j, j < 32 → mz_t (fp k) j = true → j < 8) (hf8 : ∀ k, k < 8 → ∀ j, j < 32 → mz_t (fc k) j = true → j < 8) (ham8 : ∀ k, k < 32 → mz_t (mz_amg p4 i j) k = true → k < 8) (hPin : mz_pin PQ (mz_amg p4 i j)) (hPb : ∀ z, z < 256 → (∀ k, z.testBit k = true → mz_t (mz_amg p4 i j) k = true) → ∀ M C F : Int32, mz_lst fp (nI z) M → mz_brl fp fc ((1 : Int32) <<< (nI i &&& 31)) (nI z) M C F → ((C ||| F) &&& ((1 : Int32) <<< (nI j &&& 31)) = 0 ↔ PQ z)) : Met l yX3_seek wsX3_seek ({ frames := 4, cells := 0, slots := 0, locals := 100 }) (va_Pc [.ref lh, .ref dr, .int (nI i), .int (nI j), .int p4] (fun U => U.heap.size = sz ∧ va_P (dC, dI) vwCl [(lh, .inr (3, [.ref hf, .int lm])), (hf, .inl (cI, 64, .inl ff)), (dr, .inr (2, [.ref dp, .ref dc, .int (nI n)])), (dp, .inl (cI, 8, .inl fp)), (dc, .inl (cI, 8, .inl fc))] U.heap ∧ va_K (dC, dI) vwCl [(cI, FieldType.int), (cJ, FieldType.long), (cZ, FieldType.boolean)] U ∧ va_D (fun _ => True) [(lh, .inr (3, [.ref hf, .int lm])), (hf, .inl (cI, 64, .inl ff)), (dr, .inr (2, [.ref dp, .ref dc, .int (nI n)])), (dp, .inl (cI, 8, .inl fp)), (dc, .inl (cI, 8, .inl fc))] ∧ mz_N U)) (va_Qv (fun (_ : Unit) => True) (fun _ t => ∃ (gk : Nat), ∃ (gf : Nat → Int32), (gk ≤ 64) ∧ (gk = mz_ct (mz_lp PQ) 256) ∧ (∀ q, q < gk → ∃ z, z < 256 ∧ gf q = nI z ∧ mz_lp PQ z ∧ mz_ct (mz_lp PQ) z = q) ∧ va_P (dC, dI) vwCl [(lh, .inr (3, [.ref hf, .int (nI gk)])), (hf, .inl (cI, 64, .inl gf)), (dr, .inr (2, [.ref dp, .ref dc, .int (nI n)])), (dp, .inl (cI, 8, .inl fp)), (dc, .inl (cI, 8, .inl fc))] t.heap ∧ va_D (va_A [(lh, .inr (3, [.ref hf, .int lm])), (hf, .inl (cI, 64, .inl ff)), (dr, .inr (2, [.ref dp, .ref dc, .int (nI n)])), (dp, .inl (cI, 8, .inl fp)), (dc, .inl (cI, 8, .inl fc))] sz) [(lh, .inr (3, [.ref hf, .int (nI gk)])), (hf, .inl (cI, 64, .inl gf)), (dr, .inr (2, [.ref dp, .ref dc, .int (nI n)])), (dp, .inl (cI, 8, .inl fp)), (dc, .inl (cI, 8, .inl fc))]) (va_A [(lh, .inr (3, [.ref hf, .int lm])), (hf, .inl (cI, 64, .inl ff)), (dr, .inr (2, [.ref dp, .ref dc, .int (nI n)])), (dp, .inl (cI, 8, .inl fp)), (dc, .inl (cI, 8, .inl fc))] sz)) 0 0 (va_A [(lh, .inr (3, [.ref hf, .int lm])), (hf, .inl (cI, 64, .inl ff)), (dr, .inr (2, [.ref dp, .ref dc, .int (nI n)])), (dp, .inl (cI, 8, .inl fp)), (dc, .inl (cI, 8, .inl fc))] sz) := by
  refine Met.ofW (cc := cX3_seek) (maxL := 9) (ret := none) (by decide) rfl ?_
  intro p e s m args below meth c s₁ B hml hv
  obtain ⟨rfl, hsz, hP, hK, hD0, hN⟩ := hv
  subst hsz
  have hx := B.exec
  have hb := B.bytes
  have hr := B.returns
  have hts := atoms_spec (ws := wsX3_seek) B.pre
  have hown : s.vm.findClass RX3 = some m.cls := findClass_of_methodNamed B.named
  have hlocks := B.notSynchronized
  have hD := hD0.self (sz := s.heap.size)
  generalize hAe : va_A [(lh, .inr (3, [.ref hf, .int lm])), (hf, .inl (cI, 64, .inl ff)), (dr, .inr (2, [.ref dp, .ref dc, .int (nI n)])), (dp, .inl (cI, 8, .inl fp)), (dc, .inl (cI, 8, .inl fc))] s.heap.size = A at hD ⊢
  have hA : ∀ q : Nat, s.heap.size ≤ q → A q := fun q h => by rw [← hAe]; exact Or.inr h
  have hS : va_S A s.heap s.heap [] := va_S.rf
  have hiX3 : ∀ w ∈ u_ws RX3 TX3 2, w ∈ wsX3_seek := by decide +kernel
  have hl := lv_entry ([.ref lh, .ref dr, .int (nI i), .int (nI j), .int p4]) (n := 9) (Nat.le_of_ble_eq_true rfl)
  rw [lg_entry_eq]
  generalize (lg_sl ([.ref lh, .ref dr, .int (nI i), .int (nI j), .int p4]) ++ List.replicate (9 - (lg_sl ([.ref lh, .ref dr, .int (nI i), .int (nI j), .int p4])).length) Slot.unset).toArray = ls at hl ⊢
  have hl : lv_has ls 9 [(0, .ref lh), (1, .ref dr), (2, .int (nI i)), (3, .int (nI j)), (4, .int p4)] := hl
  refine lv_iload hx hb dX3_seek_0 (lv_at hl 4 rfl) ?_
  refine lv_iload_n hx hb dX3_seek_2 rfl (lv_at hl 2 rfl) ?_
  have hPc := hP.sub (ws' := []) [] rfl
  refine va_calli (va_runSN (As := [.int (nI i)]) (rest := [.int p4]) ⟨hx, hb, hml, hown, hts⟩ (mz_g_bit l dC dI cI cJ cZ (nI i) s.heap ) ⟨va_cnB (host := "MadeItSo") 1 hts gX3_seek_X7_bit_n19 rfl rfl rfl (hN (RX3, 19, yX7_bit, "MadeItSo") (by decide +kernel)) (hts (.initialized RX7) (by decide +kernel)) (by decide +kernel) ⟨Nat.le_of_ble_eq_true rfl, Nat.le_of_ble_eq_true rfl⟩, hts (.static yX7_bit) (by decide +kernel), trivial⟩ ⟨fun a U g mk q => mz_blP q, fun U hU hW => ⟨rfl, hU, hPc, va_K.moved hW.alike hK, mz_nw hW hN⟩⟩ rfl rfl hl.1 rfl (lv_room (Nat.le_of_ble_eq_true rfl)) dX3_seek_3 ⟨Nat.le_of_ble_eq_true rfl, Nat.le_of_ble_eq_true rfl⟩) hS (fun q _ h => h.elim) (fun q h => h.elim) (fun r_3 u t H1 locs ht hvm hw_3 hB hz1 hk1 hS => ?_)
  have hE : s.heap = H1 := hB.symm.trans ht
  subst hE
  obtain rfl : r_3 = (1 <<< ((nI i) &&& 31)) := hw_3
  refine lv_iconst (v := (-1)) hx hb dX3_seek_6 (by decide +kernel) ?_
  refine lv_ixor hx hb dX3_seek_7 ?_
  refine lv_iand hx hb dX3_seek_8 ?_
  refine lv_iload_n hx hb dX3_seek_9 rfl (lv_at hl 3 rfl) ?_
  have hPc := hP.sub (ws' := []) [] rfl
  refine va_calli (va_runSN (As := [.int (nI j)]) (rest := [.int (p4 &&& ((1 <<< ((nI i) &&& 31)) ^^^ (-1)))]) ⟨hx, hb, hml, hown, hts⟩ (mz_g_bit l dC dI cI cJ cZ (nI j) s.heap ) ⟨va_cnB (host := "MadeItSo") 1 hts gX3_seek_X7_bit_n19 rfl rfl rfl (hN (RX3, 19, yX7_bit, "MadeItSo") (by decide +kernel)) (hts (.initialized RX7) (by decide +kernel)) (by decide +kernel) ⟨Nat.le_of_ble_eq_true rfl, Nat.le_of_ble_eq_true rfl⟩, hts (.static yX7_bit) (by decide +kernel), trivial⟩ ⟨fun a U g mk q => mz_blP q, fun U hU hW => ⟨rfl, hU, hPc, va_K.moved hW.alike hK, mz_nw hW hN⟩⟩ rfl rfl hl.1 rfl (lv_room (Nat.le_of_ble_eq_true rfl)) dX3_seek_10 ⟨Nat.le_of_ble_eq_true rfl, Nat.le_of_ble_eq_true rfl⟩) hS (fun q _ h => h.elim) (fun q h => h.elim) (fun r_10 u t H1 locs ht hvm hw_10 hB hz1 hk1 hS => ?_)
  have hE : s.heap = H1 := hB.symm.trans ht
  subst hE
  obtain rfl : r_10 = (1 <<< ((nI j) &&& 31)) := hw_10
  refine lv_iconst (v := (-1)) hx hb dX3_seek_13 (by decide +kernel) ?_
  refine lv_ixor hx hb dX3_seek_14 ?_
  refine lv_iand hx hb dX3_seek_15 ?_
  refine mz_ti (y := (mz_amg p4 i j)) rfl ?_
  refine lv_istore (lv' := [(5, .int (mz_amg p4 i j)), (0, .ref lh), (1, .ref dr), (2, .int (nI i)), (3, .int (nI j)), (4, .int p4)]) hx hb dX3_seek_16 hl (by decide) rfl (fun ls hl => ?_)
  refine lv_iload hx hb dX3_seek_18 (lv_at hl 0 rfl) ?_
  have hPc := hP.sub (ws' := []) [] rfl
  refine va_calli (va_runSN (As := [.int (mz_amg p4 i j)]) (rest := []) ⟨hx, hb, hml, hown, hts⟩ (mz_f_partsOf l dC dI cI cJ cZ (mz_amg p4 i j) s.heap ham8) ⟨va_cnB (host := "MadeItSo") 1 hts gX3_seek_X7_partsOf_n23 rfl rfl rfl (hN (RX3, 23, yX7_partsOf, "MadeItSo") (by decide +kernel)) (hts (.initialized RX7) (by decide +kernel)) (by decide +kernel) ⟨Nat.le_of_ble_eq_true rfl, Nat.le_of_ble_eq_true rfl⟩, hts (.static yX7_partsOf) (by decide +kernel), trivial⟩ ⟨fun a U g mk q => mz_blP q, fun U hU hW => ⟨rfl, hU, hPc, va_K.moved hW.alike hK, mz_nw hW hN⟩⟩ rfl rfl hl.1 rfl (lv_room (Nat.le_of_ble_eq_true rfl)) dX3_seek_20 ⟨Nat.le_of_ble_eq_true rfl, Nat.le_of_ble_eq_true rfl⟩) hS (fun q _ h => h.elim) (fun q h => h.elim) (fun r_20 u t H1 locs ht hvm hw_20 hB hz1 hk1 hS => ?_)
  have hE : s.heap = H1 := hB.symm.trans ht
  subst hE
  obtain rfl : r_20 = (nI (2 ^ (mz_pc (mz_amg p4 i j) 8))) := hw_20
  obtain ⟨K_, hK_⟩ : ∃ k : Nat, k = 2 ^ (mz_pc (mz_amg p4 i j) 8) := ⟨_, rfl⟩
  have hK2_ : K_ ≤ 256 := (by rw [hK_]; exact mz_p8 _)
  refine mz_ti (y := (nI K_)) (by rw [hK_]) ?_
  have hK3_ : K_ ≤ 64 := (by rw [hK_]; exact mz_k64 (mz_amg_i (by omega) (by omega)) (mz_amg_j (by omega) (by omega)) hne (by omega) (by omega))
  refine lv_istore (lv' := [(6, .int (nI K_)), (5, .int (mz_amg p4 i j)), (0, .ref lh), (1, .ref dr), (2, .int (nI i)), (3, .int (nI j)), (4, .int p4)]) hx hb dX3_seek_23 hl (by decide) rfl (fun ls hl => ?_)
  refine lv_aload_n hx hb dX3_seek_25 rfl (lv_at hl 2 rfl) ?_
  refine lv_iconst (v := 0) hx hb dX3_seek_26 (by decide +kernel) ?_
  refine va_put (D := (dC, dI)) (ci := 3) (v := .int 0) (ty := .int) (C := RX3) (T := TX3) (N := 2) hx hb hts hiX3 tyX3 tyX3_ok nmX3 hown hK hP hD hS 0 rfl rfl 1 (by decide) (hts (.fieldLink RX3 15 "MadeItSo$LeastHeaps" "many" "I") (by decide +kernel)) (fun _ h9 => h9) rfl (by decide +kernel) rfl rfl (Nat.le_of_ble_eq_true rfl) dX3_seek_27 (fun H locs hP hD hS => ?_)
  have hP : va_P (dC, dI) vwCl [(lh, .inr (3, [.ref hf, .int 0])), (hf, .inl (cI, 64, .inl ff)), (dr, .inr (2, [.ref dp, .ref dc, .int (nI n)])), (dp, .inl (cI, 8, .inl fp)), (dc, .inl (cI, 8, .inl fc))] H := hP
  have hD : va_D A [(lh, .inr (3, [.ref hf, .int 0])), (hf, .inl (cI, 64, .inl ff)), (dr, .inr (2, [.ref dp, .ref dc, .int (nI n)])), (dp, .inl (cI, 8, .inl fp)), (dc, .inl (cI, 8, .inl fc))] := hD
  refine lv_iconst (v := 0) hx hb dX3_seek_30 (by decide +kernel) ?_
  refine lv_istore (lv' := [(7, .int 0), (6, .int (nI K_)), (5, .int (mz_amg p4 i j)), (0, .ref lh), (1, .ref dr), (2, .int (nI i)), (3, .int (nI j)), (4, .int p4)]) hx hb dX3_seek_31 hl (by decide) rfl (fun ls hl => ?_)
  refine lv_iconst (v := 0) hx hb dX3_seek_33 (by decide +kernel) ?_
  refine lv_istore (lv' := [(8, .int 0), (7, .int 0), (6, .int (nI K_)), (5, .int (mz_amg p4 i j)), (0, .ref lh), (1, .ref dr), (2, .int (nI i)), (3, .int (nI j)), (4, .int p4)]) hx hb dX3_seek_34 hl (by decide) rfl (fun ls hl => ?_)
  refine mz_loopU (fun k H locs ls => ∃ (i_36 : Nat), ∃ (x8_36 : Int32), ∃ (nlh1_36 : Nat), ∃ (fhf_36 : Nat → Int32), i_36 ≤ K_ ∧ (x8_36 = nI (mz_dp (mz_amg p4 i j) i_36)) ∧ (nlh1_36 ≤ i_36) ∧ (mz_fd PQ (mz_amg p4 i j) i_36 nlh1_36 fhf_36) ∧ va_P (dC, dI) vwCl [(lh, .inr (3, [.ref hf, .int (nI nlh1_36)])), (hf, .inl (cI, 64, .inl fhf_36)), (dr, .inr (2, [.ref dp, .ref dc, .int (nI n)])), (dp, .inl (cI, 8, .inl fp)), (dc, .inl (cI, 8, .inl fc))] H ∧ va_D A [(lh, .inr (3, [.ref hf, .int (nI nlh1_36)])), (hf, .inl (cI, 64, .inl fhf_36)), (dr, .inr (2, [.ref dp, .ref dc, .int (nI n)])), (dp, .inl (cI, 8, .inl fp)), (dc, .inl (cI, 8, .inl fc))] ∧ va_S A s.heap H locs ∧ lv_has ls 9 [(8, .int x8_36), (7, .int (nI i_36)), (6, .int (nI K_)), (5, .int (mz_amg p4 i j)), (0, .ref lh), (1, .ref dr), (2, .int (nI i)), (3, .int (nI j)), (4, .int p4)] ∧ k = K_ - i_36) ?_ _ _ _ _ ⟨0, 0, 0, ff, by omega, (by rw [mz_dp_0]; rfl), (by first | assumption | omega), mz_fd_0, hP, hD, hS, lv_sub hl [0, 1, 2, 3, 4, 5, 6, 7, 8] rfl, rfl⟩
  intro k_36 H locs ls hI_36 ih_36
  obtain ⟨i_36, x8_36, nlh1_36, fhf_36, hi_36, hd_36, hm_36, hf_36, hP, hD, hS, hl, hk_36⟩ := hI_36
  subst hd_36
  refine lv_iload hx hb dX3_seek_36 (lv_at hl 1 rfl) ?_
  refine lv_iload hx hb dX3_seek_38 (lv_at hl 2 rfl) ?_
  refine lv_icmp_ge (tgt := 117) hx hb dX3_seek_40 (by decide) (fun c_40 => ?_) (fun c_40 => ?_)
  · skip
    have d_40 : K_ ≤ i_36 := (nI_leI (a := K_) (b := i_36) (by omega) (by omega)).mp c_40
    have hP9 := hP.sub (ws' := [(lh, .inr (3, [.ref hf, .int (nI nlh1_36)])), (hf, .inl (cI, 64, .inl fhf_36)), (dr, .inr (2, [.ref dp, .ref dc, .int (nI n)])), (dp, .inl (cI, 8, .inl fp)), (dc, .inl (cI, 8, .inl fc))]) [0, 1, 2, 3, 4] rfl
    have hD9 := hD.sub (ws' := [(lh, .inr (3, [.ref hf, .int (nI nlh1_36)])), (hf, .inl (cI, 64, .inl fhf_36)), (dr, .inr (2, [.ref dp, .ref dc, .int (nI n)])), (dp, .inl (cI, 8, .inl fp)), (dc, .inl (cI, 8, .inl fc))]) [0, 1, 2, 3, 4] (by decide) rfl
    refine W.widen (k := 0) (n := 0) (Nat.le_of_ble_eq_true rfl) (Nat.le_of_ble_eq_true rfl) ?_
    exact W.vret hx hb hr (fun t ht hW => ⟨⟨(), rfl, trivial, nlh1_36, fhf_36, (by omega), (mz_fd_e (by rw [← hK_]; omega) hf_36).1, (mz_fd_e (by rw [← hK_]; omega) hf_36).2, by rw [ht]; exact hP9, hD9⟩, hS.F ht⟩) hS.2.2 dX3_seek_117
  · skip
    have d_40 : ¬ K_ ≤ i_36 := fun h => c_40 ((nI_leI (a := K_) (b := i_36) (by omega) (by omega)).mpr h)
    refine lv_aload_n hx hb dX3_seek_43 rfl (lv_at hl 4 rfl) ?_
    refine lv_iload hx hb dX3_seek_44 (lv_at hl 0 rfl) ?_
    have hPc := hP.sub (ws' := [(lh, .inr (3, [.ref hf, .int (nI nlh1_36)])), (hf, .inl (cI, 64, .inl fhf_36))]) [0, 1] rfl
    refine va_calli (va_runV (As := [.int (nI (mz_dp (mz_amg p4 i j) i_36))]) (rest := []) ⟨hx, hb, hml, hown, hts⟩ (mz_u_holdsOne l dC dI cI cJ cZ lh hf nlh1_36 fhf_36 (nI (mz_dp (mz_amg p4 i j) i_36)) H (by first | assumption | omega)) (cwV 1 hts gX3_seek_X3_holdsOne rfl rfl rfl (by decide +kernel) ⟨Nat.le_of_ble_eq_true rfl, Nat.le_of_ble_eq_true rfl⟩) ⟨fun a U g mk q => mz_blP q, va_recv hK hPc (ci := 3) (q0 := 0) rfl rfl, fun U hU hW => ⟨rfl, hU, hPc, va_K.moved hW.alike hK, mz_nw hW hN⟩⟩ rfl rfl hl.1 rfl (lv_room (Nat.le_of_ble_eq_true rfl)) dX3_seek_46 ⟨Nat.le_of_ble_eq_true rfl, Nat.le_of_ble_eq_true rfl⟩) hS (fun q _ h => h.elim) (fun q h => h.elim) (fun r_46 u t H1 locs ht hvm hw_46 hB hz1 hk1 hS => ?_)
    have hE : H = H1 := hB.symm.trans ht
    subst hE
    rcases (show (r_46 = 1 ∧ ∃ q, q < nlh1_36 ∧ (fhf_36 q) &&& ((nI (mz_dp (mz_amg p4 i j) i_36)) ^^^ (-1)) = 0) ∨ (r_46 = 0 ∧ ∀ q, q < nlh1_36 → ¬ (fhf_36 q) &&& ((nI (mz_dp (mz_amg p4 i j) i_36)) ^^^ (-1)) = 0) from hw_46) with ⟨rfl, hc_46⟩ | ⟨rfl, hc_46⟩
    · skip
      refine lv_if_ne (tgt := 102) hx hb dX3_seek_49 (by decide) (fun _ => ?_) (fun c_49 => absurd c_49 (by decide +kernel))
      refine lv_iinc (v := (nI (i_36 + 1))) (lv' := [(7, .int (nI (i_36 + 1))), (8, .int (nI (mz_dp (mz_amg p4 i j) i_36))), (6, .int (nI K_)), (5, .int (mz_amg p4 i j)), (0, .ref lh), (1, .ref dr), (2, .int (nI i)), (3, .int (nI j)), (4, .int p4)]) hx hb dX3_seek_102 hl (k := 1) rfl (nI_1 _) (by decide) rfl (fun ls hl => ?_)
      refine lv_iload hx hb dX3_seek_105 (lv_at hl 1 rfl) ?_
      refine lv_iload hx hb dX3_seek_107 (lv_at hl 3 rfl) ?_
      have hPc := hP.sub (ws' := []) [] rfl
      refine va_calli (va_runSN (As := [.int (nI (mz_dp (mz_amg p4 i j) i_36)), .int (mz_amg p4 i j)]) (rest := []) ⟨hx, hb, hml, hown, hts⟩ (mz_k_nextPart l dC dI cI cJ cZ (nI (mz_dp (mz_amg p4 i j) i_36)) (mz_amg p4 i j) H ) ⟨va_cnB (host := "MadeItSo") 2 hts gX3_seek_X7_nextPart_n36 rfl rfl rfl (hN (RX3, 36, yX7_nextPart, "MadeItSo") (by decide +kernel)) (hts (.initialized RX7) (by decide +kernel)) (by decide +kernel) ⟨Nat.le_of_ble_eq_true rfl, Nat.le_of_ble_eq_true rfl⟩, hts (.static yX7_nextPart) (by decide +kernel), trivial⟩ ⟨fun a U g mk q => mz_blP q, fun U hU hW => ⟨rfl, hU, hPc, va_K.moved hW.alike hK, mz_nw hW hN⟩⟩ rfl rfl hl.1 rfl (lv_room (Nat.le_of_ble_eq_true rfl)) dX3_seek_109 ⟨Nat.le_of_ble_eq_true rfl, Nat.le_of_ble_eq_true rfl⟩) hS (fun q _ h => h.elim) (fun q h => h.elim) (fun r_109 u t H1 locs ht hvm hw_109 hB hz1 hk1 hS => ?_)
      have hE : H = H1 := hB.symm.trans ht
      subst hE
      obtain rfl : r_109 = (((nI (mz_dp (mz_amg p4 i j) i_36)) - (mz_amg p4 i j)) &&& (mz_amg p4 i j)) := hw_109
      refine lv_istore (lv' := [(8, .int (((nI (mz_dp (mz_amg p4 i j) i_36)) - (mz_amg p4 i j)) &&& (mz_amg p4 i j))), (7, .int (nI (i_36 + 1))), (6, .int (nI K_)), (5, .int (mz_amg p4 i j)), (0, .ref lh), (1, .ref dr), (2, .int (nI i)), (3, .int (nI j)), (4, .int p4)]) hx hb dX3_seek_112 hl (by decide) rfl (fun ls hl => ?_)
      refine lv_goto (tgt := 36) hx hb dX3_seek_114 (by decide) ?_
      exact ih_36 _ (by omega) _ _ _ ⟨(i_36 + 1), (((nI (mz_dp (mz_amg p4 i j) i_36)) - (mz_amg p4 i j)) &&& (mz_amg p4 i j)), nlh1_36, fhf_36, by omega, (mz_nxt ham8 (by rw [← hK_]; omega)), (by first | assumption | omega), (mz_fd_n ham8 hPin (by rw [← hK_]; omega) hf_36 (mz_fd_h ham8 (by rw [← hK_]; omega) hf_36 hc_46)), hP, hD, hS, lv_sub hl [0, 1, 2, 3, 4, 5, 6, 7, 8] rfl, rfl⟩
    · skip
      refine lv_if_ne (tgt := 102) hx hb dX3_seek_49 (by decide) (fun c_49 => absurd (by decide +kernel) c_49) (fun _ => ?_)
      refine lv_aload_n hx hb dX3_seek_52 rfl (lv_at hl 4 rfl) ?_
      refine va_get (D := (dC, dI)) (ci := 3) (v := .int (nI nlh1_36)) (C := RX3) (T := TX3) (N := 2) hx hb hts hiX3 hown hK hP 0 rfl rfl 1 (by decide) (hts (.fieldLink RX3 15 "MadeItSo$LeastHeaps" "many" "I") (by decide +kernel)) (fun _ h9 => h9) rfl dX3_seek_53 ?_
      refine lv_aload_n hx hb dX3_seek_56 rfl (lv_at hl 4 rfl) ?_
      refine va_get (D := (dC, dI)) (ci := 3) (v := .ref hf) (C := RX3) (T := TX3) (N := 2) hx hb hts hiX3 hown hK hP 0 rfl rfl 0 (by decide) (hts (.fieldLink RX3 9 "MadeItSo$LeastHeaps" "found" "[I") (by decide +kernel)) (fun _ h9 => h9) rfl dX3_seek_57 ?_
      refine va_alen (v := 64) hx hb hK hP 1 0 rfl rfl rfl dX3_seek_60 ?_
      refine lv_icmp_ge (tgt := 102) hx hb dX3_seek_61 (by decide) (fun c_61 => absurd c_61 (mz_ltR (R := 64) (by omega) (by decide))) (fun _ => ?_)
      refine lv_aload_n hx hb dX3_seek_64 rfl (lv_at hl 5 rfl) ?_
      refine lv_iload_n hx hb dX3_seek_65 rfl (lv_at hl 6 rfl) ?_
      have hPc := hP.sub (ws' := []) [] rfl
      refine va_calli (va_runSN (As := [.int (nI i)]) (rest := [.ref dr]) ⟨hx, hb, hml, hown, hts⟩ (mz_g_bit l dC dI cI cJ cZ (nI i) H ) ⟨va_cnB (host := "MadeItSo") 1 hts gX3_seek_X7_bit_n19 rfl rfl rfl (hN (RX3, 19, yX7_bit, "MadeItSo") (by decide +kernel)) (hts (.initialized RX7) (by decide +kernel)) (by decide +kernel) ⟨Nat.le_of_ble_eq_true rfl, Nat.le_of_ble_eq_true rfl⟩, hts (.static yX7_bit) (by decide +kernel), trivial⟩ ⟨fun a U g mk q => mz_blP q, fun U hU hW => ⟨rfl, hU, hPc, va_K.moved hW.alike hK, mz_nw hW hN⟩⟩ rfl rfl hl.1 rfl (lv_room (Nat.le_of_ble_eq_true rfl)) dX3_seek_66 ⟨Nat.le_of_ble_eq_true rfl, Nat.le_of_ble_eq_true rfl⟩) hS (fun q _ h => h.elim) (fun q h => h.elim) (fun r_66 u t H1 locs ht hvm hw_66 hB hz1 hk1 hS => ?_)
      have hE : H = H1 := hB.symm.trans ht
      subst hE
      obtain rfl : r_66 = (1 <<< ((nI i) &&& 31)) := hw_66
      refine lv_iload_n hx hb dX3_seek_69 rfl (lv_at hl 7 rfl) ?_
      have hPc := hP.sub (ws' := []) [] rfl
      refine va_calli (va_runSN (As := [.int (nI j)]) (rest := [.int (1 <<< ((nI i) &&& 31)), .ref dr]) ⟨hx, hb, hml, hown, hts⟩ (mz_g_bit l dC dI cI cJ cZ (nI j) H ) ⟨va_cnB (host := "MadeItSo") 1 hts gX3_seek_X7_bit_n19 rfl rfl rfl (hN (RX3, 19, yX7_bit, "MadeItSo") (by decide +kernel)) (hts (.initialized RX7) (by decide +kernel)) (by decide +kernel) ⟨Nat.le_of_ble_eq_true rfl, Nat.le_of_ble_eq_true rfl⟩, hts (.static yX7_bit) (by decide +kernel), trivial⟩ ⟨fun a U g mk q => mz_blP q, fun U hU hW => ⟨rfl, hU, hPc, va_K.moved hW.alike hK, mz_nw hW hN⟩⟩ rfl rfl hl.1 rfl (lv_room (Nat.le_of_ble_eq_true rfl)) dX3_seek_70 ⟨Nat.le_of_ble_eq_true rfl, Nat.le_of_ble_eq_true rfl⟩) hS (fun q _ h => h.elim) (fun q h => h.elim) (fun r_70 u t H1 locs ht hvm hw_70 hB hz1 hk1 hS => ?_)
      have hE : H = H1 := hB.symm.trans ht
      subst hE
      obtain rfl : r_70 = (1 <<< ((nI j) &&& 31)) := hw_70
      refine lv_iload hx hb dX3_seek_73 (lv_at hl 0 rfl) ?_
      have hPc := hP.sub (ws' := [(dr, .inr (2, [.ref dp, .ref dc, .int (nI n)])), (dp, .inl (cI, 8, .inl fp)), (dc, .inl (cI, 8, .inl fc))]) [2, 3, 4] rfl
      refine va_calli (va_runV (As := [.int (1 <<< ((nI i) &&& 31)), .int (1 <<< ((nI j) &&& 31)), .int (nI (mz_dp (mz_amg p4 i j) i_36))]) (rest := []) ⟨hx, hb, hml, hown, hts⟩ (mz_s_barred l dC dI cI cJ cZ dr dp dc n fp fc (1 <<< ((nI i) &&& 31)) (1 <<< ((nI j) &&& 31)) (nI (mz_dp (mz_amg p4 i j) i_36)) H (by first | assumption | omega) (by first | assumption | omega)) (cwV 3 hts gX3_seek_X2_barred rfl rfl rfl (by decide +kernel) ⟨Nat.le_of_ble_eq_true rfl, Nat.le_of_ble_eq_true rfl⟩) ⟨fun a U g mk q => mz_blP q, va_recv hK hPc (ci := 2) (q0 := 0) rfl rfl, fun U hU hW => ⟨rfl, hU, hPc, va_K.moved hW.alike hK, mz_nw hW hN⟩⟩ rfl rfl hl.1 rfl (lv_room (Nat.le_of_ble_eq_true rfl)) dX3_seek_75 ⟨Nat.le_of_ble_eq_true rfl, Nat.le_of_ble_eq_true rfl⟩) hS (fun q _ h => h.elim) (fun q h => h.elim) (fun r_75 u t H1 locs ht hvm hw_75 hB hz1 hk1 hS => ?_)
      have hE : H = H1 := hB.symm.trans ht
      subst hE
      rcases (show (r_75 = 1 ∧ ∃ M C F : Int32, mz_lst fp (nI (mz_dp (mz_amg p4 i j) i_36)) M ∧ mz_brl fp fc (1 <<< ((nI i) &&& 31)) (nI (mz_dp (mz_amg p4 i j) i_36)) M C F ∧  (C ||| F) &&& (1 <<< ((nI j) &&& 31)) = 0) ∨ (r_75 = 0 ∧ ∃ M C F : Int32, mz_lst fp (nI (mz_dp (mz_amg p4 i j) i_36)) M ∧ mz_brl fp fc (1 <<< ((nI i) &&& 31)) (nI (mz_dp (mz_amg p4 i j) i_36)) M C F ∧ ¬ (C ||| F) &&& (1 <<< ((nI j) &&& 31)) = 0) from hw_75) with ⟨rfl, hc_75⟩ | ⟨rfl, hc_75⟩
      · skip
        refine lv_if_eq (tgt := 102) hx hb dX3_seek_78 (by decide) (fun c_78 => absurd c_78 (by decide +kernel)) (fun _ => ?_)
        refine lv_aload_n hx hb dX3_seek_81 rfl (lv_at hl 4 rfl) ?_
        refine va_get (D := (dC, dI)) (ci := 3) (v := .ref hf) (C := RX3) (T := TX3) (N := 2) hx hb hts hiX3 hown hK hP 0 rfl rfl 0 (by decide) (hts (.fieldLink RX3 9 "MadeItSo$LeastHeaps" "found" "[I") (by decide +kernel)) (fun _ h9 => h9) rfl dX3_seek_82 ?_
        refine lv_aload_n hx hb dX3_seek_85 rfl (lv_at hl 4 rfl) ?_
        refine va_get (D := (dC, dI)) (ci := 3) (v := .int (nI nlh1_36)) (C := RX3) (T := TX3) (N := 2) hx hb hts hiX3 hown hK hP 0 rfl rfl 1 (by decide) (hts (.fieldLink RX3 15 "MadeItSo$LeastHeaps" "many" "I") (by decide +kernel)) (fun _ h9 => h9) rfl dX3_seek_86 ?_
        refine lv_iload hx hb dX3_seek_89 (lv_at hl 0 rfl) ?_
        refine va_iast hx hb hK hP hD hS 1 0 rfl rfl (vp_in_nI (by omega) (by omega)) dX3_seek_91 (fun H locs hP hD hS => ?_)
        rw [mz_cl (n := nlh1_36) (by omega)] at hP hD
        have hP : va_P (dC, dI) vwCl [(lh, .inr (3, [.ref hf, .int (nI nlh1_36)])), (hf, .inl (cI, 64, .inl (upd fhf_36 nlh1_36 (nI (mz_dp (mz_amg p4 i j) i_36))))), (dr, .inr (2, [.ref dp, .ref dc, .int (nI n)])), (dp, .inl (cI, 8, .inl fp)), (dc, .inl (cI, 8, .inl fc))] H := hP
        have hD : va_D A [(lh, .inr (3, [.ref hf, .int (nI nlh1_36)])), (hf, .inl (cI, 64, .inl (upd fhf_36 nlh1_36 (nI (mz_dp (mz_amg p4 i j) i_36))))), (dr, .inr (2, [.ref dp, .ref dc, .int (nI n)])), (dp, .inl (cI, 8, .inl fp)), (dc, .inl (cI, 8, .inl fc))] := hD
        refine lv_aload_n hx hb dX3_seek_92 rfl (lv_at hl 4 rfl) ?_
        refine lv_dup hx hb dX3_seek_93 rfl ?_
        refine va_get (D := (dC, dI)) (ci := 3) (v := .int (nI nlh1_36)) (C := RX3) (T := TX3) (N := 2) hx hb hts hiX3 hown hK hP 0 rfl rfl 1 (by decide) (hts (.fieldLink RX3 15 "MadeItSo$LeastHeaps" "many" "I") (by decide +kernel)) (fun _ h9 => h9) rfl dX3_seek_94 ?_
        refine lv_iconst (v := 1) hx hb dX3_seek_97 (by decide +kernel) ?_
        refine lv_iadd hx hb dX3_seek_98 ?_
        refine mz_ti (y := (nI (nlh1_36 + 1))) (nI_add _ _) ?_
        refine va_put (D := (dC, dI)) (ci := 3) (v := .int (nI (nlh1_36 + 1))) (ty := .int) (C := RX3) (T := TX3) (N := 2) hx hb hts hiX3 tyX3 tyX3_ok nmX3 hown hK hP hD hS 0 rfl rfl 1 (by decide) (hts (.fieldLink RX3 15 "MadeItSo$LeastHeaps" "many" "I") (by decide +kernel)) (fun _ h9 => h9) rfl (by decide +kernel) rfl rfl (Nat.le_of_ble_eq_true rfl) dX3_seek_99 (fun H locs hP hD hS => ?_)
        have hP : va_P (dC, dI) vwCl [(lh, .inr (3, [.ref hf, .int (nI (nlh1_36 + 1))])), (hf, .inl (cI, 64, .inl (upd fhf_36 nlh1_36 (nI (mz_dp (mz_amg p4 i j) i_36))))), (dr, .inr (2, [.ref dp, .ref dc, .int (nI n)])), (dp, .inl (cI, 8, .inl fp)), (dc, .inl (cI, 8, .inl fc))] H := hP
        have hD : va_D A [(lh, .inr (3, [.ref hf, .int (nI (nlh1_36 + 1))])), (hf, .inl (cI, 64, .inl (upd fhf_36 nlh1_36 (nI (mz_dp (mz_amg p4 i j) i_36))))), (dr, .inr (2, [.ref dp, .ref dc, .int (nI n)])), (dp, .inl (cI, 8, .inl fp)), (dc, .inl (cI, 8, .inl fc))] := hD
        refine lv_iinc (v := (nI (i_36 + 1))) (lv' := [(7, .int (nI (i_36 + 1))), (8, .int (nI (mz_dp (mz_amg p4 i j) i_36))), (6, .int (nI K_)), (5, .int (mz_amg p4 i j)), (0, .ref lh), (1, .ref dr), (2, .int (nI i)), (3, .int (nI j)), (4, .int p4)]) hx hb dX3_seek_102 hl (k := 1) rfl (nI_1 _) (by decide) rfl (fun ls hl => ?_)
        refine lv_iload hx hb dX3_seek_105 (lv_at hl 1 rfl) ?_
        refine lv_iload hx hb dX3_seek_107 (lv_at hl 3 rfl) ?_
        have hPc := hP.sub (ws' := []) [] rfl
        refine va_calli (va_runSN (As := [.int (nI (mz_dp (mz_amg p4 i j) i_36)), .int (mz_amg p4 i j)]) (rest := []) ⟨hx, hb, hml, hown, hts⟩ (mz_k_nextPart l dC dI cI cJ cZ (nI (mz_dp (mz_amg p4 i j) i_36)) (mz_amg p4 i j) H ) ⟨va_cnB (host := "MadeItSo") 2 hts gX3_seek_X7_nextPart_n36 rfl rfl rfl (hN (RX3, 36, yX7_nextPart, "MadeItSo") (by decide +kernel)) (hts (.initialized RX7) (by decide +kernel)) (by decide +kernel) ⟨Nat.le_of_ble_eq_true rfl, Nat.le_of_ble_eq_true rfl⟩, hts (.static yX7_nextPart) (by decide +kernel), trivial⟩ ⟨fun a U g mk q => mz_blP q, fun U hU hW => ⟨rfl, hU, hPc, va_K.moved hW.alike hK, mz_nw hW hN⟩⟩ rfl rfl hl.1 rfl (lv_room (Nat.le_of_ble_eq_true rfl)) dX3_seek_109 ⟨Nat.le_of_ble_eq_true rfl, Nat.le_of_ble_eq_true rfl⟩) hS (fun q _ h => h.elim) (fun q h => h.elim) (fun r_109 u t H1 locs ht hvm hw_109 hB hz1 hk1 hS => ?_)
        have hE : H = H1 := hB.symm.trans ht
        subst hE
        obtain rfl : r_109 = (((nI (mz_dp (mz_amg p4 i j) i_36)) - (mz_amg p4 i j)) &&& (mz_amg p4 i j)) := hw_109
        refine lv_istore (lv' := [(8, .int (((nI (mz_dp (mz_amg p4 i j) i_36)) - (mz_amg p4 i j)) &&& (mz_amg p4 i j))), (7, .int (nI (i_36 + 1))), (6, .int (nI K_)), (5, .int (mz_amg p4 i j)), (0, .ref lh), (1, .ref dr), (2, .int (nI i)), (3, .int (nI j)), (4, .int p4)]) hx hb dX3_seek_112 hl (by decide) rfl (fun ls hl => ?_)
        refine lv_goto (tgt := 36) hx hb dX3_seek_114 (by decide) ?_
        exact ih_36 _ (by omega) _ _ _ ⟨(i_36 + 1), (((nI (mz_dp (mz_amg p4 i j) i_36)) - (mz_amg p4 i j)) &&& (mz_amg p4 i j)), (nlh1_36 + 1), (upd fhf_36 nlh1_36 (nI (mz_dp (mz_amg p4 i j) i_36))), by omega, (mz_nxt ham8 (by rw [← hK_]; omega)), (by first | assumption | omega), (mz_fd_y ham8 hPin (by rw [← hK_]; omega) hf_36 (mz_fd_p ham8 hPin (by rw [← hK_]; omega) hf_36 hc_46 (by obtain ⟨M_, C_, F_, h1_, h2_, h3_⟩ := hc_75; exact (hPb _ (mz_dp_lt _ _) (fun k hk => (mz_dp_in hk).2) M_ C_ F_ h1_ h2_).mp h3_))), hP, hD, hS, lv_sub hl [0, 1, 2, 3, 4, 5, 6, 7, 8] rfl, rfl⟩
      · skip
        refine lv_if_eq (tgt := 102) hx hb dX3_seek_78 (by decide) (fun _ => ?_) (fun c_78 => absurd (by decide +kernel) c_78)
        refine lv_iinc (v := (nI (i_36 + 1))) (lv' := [(7, .int (nI (i_36 + 1))), (8, .int (nI (mz_dp (mz_amg p4 i j) i_36))), (6, .int (nI K_)), (5, .int (mz_amg p4 i j)), (0, .ref lh), (1, .ref dr), (2, .int (nI i)), (3, .int (nI j)), (4, .int p4)]) hx hb dX3_seek_102 hl (k := 1) rfl (nI_1 _) (by decide) rfl (fun ls hl => ?_)
        refine lv_iload hx hb dX3_seek_105 (lv_at hl 1 rfl) ?_
        refine lv_iload hx hb dX3_seek_107 (lv_at hl 3 rfl) ?_
        have hPc := hP.sub (ws' := []) [] rfl
        refine va_calli (va_runSN (As := [.int (nI (mz_dp (mz_amg p4 i j) i_36)), .int (mz_amg p4 i j)]) (rest := []) ⟨hx, hb, hml, hown, hts⟩ (mz_k_nextPart l dC dI cI cJ cZ (nI (mz_dp (mz_amg p4 i j) i_36)) (mz_amg p4 i j) H ) ⟨va_cnB (host := "MadeItSo") 2 hts gX3_seek_X7_nextPart_n36 rfl rfl rfl (hN (RX3, 36, yX7_nextPart, "MadeItSo") (by decide +kernel)) (hts (.initialized RX7) (by decide +kernel)) (by decide +kernel) ⟨Nat.le_of_ble_eq_true rfl, Nat.le_of_ble_eq_true rfl⟩, hts (.static yX7_nextPart) (by decide +kernel), trivial⟩ ⟨fun a U g mk q => mz_blP q, fun U hU hW => ⟨rfl, hU, hPc, va_K.moved hW.alike hK, mz_nw hW hN⟩⟩ rfl rfl hl.1 rfl (lv_room (Nat.le_of_ble_eq_true rfl)) dX3_seek_109 ⟨Nat.le_of_ble_eq_true rfl, Nat.le_of_ble_eq_true rfl⟩) hS (fun q _ h => h.elim) (fun q h => h.elim) (fun r_109 u t H1 locs ht hvm hw_109 hB hz1 hk1 hS => ?_)
        have hE : H = H1 := hB.symm.trans ht
        subst hE
        obtain rfl : r_109 = (((nI (mz_dp (mz_amg p4 i j) i_36)) - (mz_amg p4 i j)) &&& (mz_amg p4 i j)) := hw_109
        refine lv_istore (lv' := [(8, .int (((nI (mz_dp (mz_amg p4 i j) i_36)) - (mz_amg p4 i j)) &&& (mz_amg p4 i j))), (7, .int (nI (i_36 + 1))), (6, .int (nI K_)), (5, .int (mz_amg p4 i j)), (0, .ref lh), (1, .ref dr), (2, .int (nI i)), (3, .int (nI j)), (4, .int p4)]) hx hb dX3_seek_112 hl (by decide) rfl (fun ls hl => ?_)
        refine lv_goto (tgt := 36) hx hb dX3_seek_114 (by decide) ?_
        exact ih_36 _ (by omega) _ _ _ ⟨(i_36 + 1), (((nI (mz_dp (mz_amg p4 i j) i_36)) - (mz_amg p4 i j)) &&& (mz_amg p4 i j)), nlh1_36, fhf_36, by omega, (mz_nxt ham8 (by rw [← hK_]; omega)), (by first | assumption | omega), (mz_fd_n ham8 hPin (by rw [← hK_]; omega) hf_36 (by obtain ⟨M_, C_, F_, h1_, h2_, h3_⟩ := hc_75; exact fun q9 => h3_ ((hPb _ (mz_dp_lt _ _) (fun k hk => (mz_dp_in hk).2) M_ C_ F_ h1_ h2_).mpr q9.1))), hP, hD, hS, lv_sub hl [0, 1, 2, 3, 4, 5, 6, 7, 8] rfl, rfl⟩
set_option maxHeartbeats 1000000 in
set_option maxRecDepth 100000 in
theorem mz_u_x_areTwo (l : Launch) (dC : Nat → ClassId) (dI : Nat → Nat → Nat) (cI cJ cZ : ClassId) (mx : Nat) (dr : Nat) (th : Nat) (bk : Nat) (wt : Nat) (tt : Nat) (lh : Nat) (la : Nat) (sh : Int32) (ab : Int64) (be : Int64) (dp : Nat) (dc : Nat) (n : Nat) (p0 : Int32) (p1 : Int32) (Hq : Heap) (hn : n ≤ 8) : Met l yX7_areTwo wsX7_areTwo ({ frames := 1, cells := 0, slots := 0, locals := 21 }) (va_Pc [.ref mx, .int p0, .int p1] (fun U => U.heap = Hq ∧ va_P (dC, dI) vwCl [(mx, .inr (7, [.ref dr, .ref th, .ref bk, .ref wt, .ref tt, .ref lh, .ref la, .int sh, .long ab, .long be])), (dr, .inr (2, [.ref dp, .ref dc, .int (nI n)]))] Hq ∧ va_K (dC, dI) vwCl [(cI, FieldType.int), (cJ, FieldType.long), (cZ, FieldType.boolean)] U ∧ mz_N U)) (va_Qi (fun (r : Int32) (_ : Unit) => (r = 1 ∧ ∃ i j : Nat, i < n ∧ j < n ∧ (¬ i = j) ∧ p0 = nI i ∧ p1 = nI j) ∨ r = 0) (fun _ t => t.heap = Hq) (fun _ : Nat => False)) 0 0 (fun _ : Nat => False) := by
  refine Met.ofW (cc := cX7_areTwo) (maxL := 3) (ret := (some .boolean)) (by decide) rfl ?_
  intro p e s m args below meth c s₁ B hml hv
  obtain ⟨rfl, hH, hP, hK, hN⟩ := hv
  subst hH
  have hx := B.exec
  have hb := B.bytes
  have hr := B.returns
  have hts := atoms_spec (ws := wsX7_areTwo) B.pre
  have hown : s.vm.findClass RX7 = some m.cls := findClass_of_methodNamed B.named
  have hlocks := B.notSynchronized
  have hS : va_S (fun _ : Nat => False) s.heap s.heap [] := va_S.rf
  have hiX7 : ∀ w ∈ u_ws RX7 TX7 10, w ∈ wsX7_areTwo := by decide +kernel
  have hl := lv_entry ([.ref mx, .int p0, .int p1]) (n := 3) (Nat.le_of_ble_eq_true rfl)
  rw [lg_entry_eq]
  generalize (lg_sl ([.ref mx, .int p0, .int p1]) ++ List.replicate (3 - (lg_sl ([.ref mx, .int p0, .int p1])).length) Slot.unset).toArray = ls at hl ⊢
  have hl : lv_has ls 3 [(0, .ref mx), (1, .int p0), (2, .int p1)] := hl
  refine lv_aload_n hx hb dX7_areTwo_0 rfl (lv_at hl 0 rfl) ?_
  refine va_get (D := (dC, dI)) (ci := 7) (v := .ref dr) (C := RX7) (T := TX7) (N := 10) hx hb hts hiX7 hown hK hP 0 rfl rfl 0 (by decide) (hts (.fieldLink RX7 12 "MadeItSo" "drawing" "LMadeItSo$Drawing;") (by decide +kernel)) (fun _ h9 => h9) rfl dX7_areTwo_1 ?_
  refine lv_iload_n hx hb dX7_areTwo_4 rfl (lv_at hl 1 rfl) ?_
  have hPc := hP.sub (ws' := [(dr, .inr (2, [.ref dp, .ref dc, .int (nI n)]))]) [1] rfl
  refine va_calli (va_runV (As := [.int p0]) (rest := []) ⟨hx, hb, hml, hown, hts⟩ (mz_d_has l dC dI cI cJ cZ dr dp dc n p0 s.heap (by first | assumption | omega)) (cwV 1 hts gX7_areTwo_X2_has rfl rfl rfl (by decide +kernel) ⟨Nat.le_of_ble_eq_true rfl, Nat.le_of_ble_eq_true rfl⟩) ⟨fun a U g mk q => mz_blP q, va_recv hK hPc (ci := 2) (q0 := 0) rfl rfl, fun U hU hW => ⟨rfl, hU, hPc, va_K.moved hW.alike hK, mz_nw hW hN⟩⟩ rfl rfl hl.1 rfl (lv_room (Nat.le_of_ble_eq_true rfl)) dX7_areTwo_5 ⟨Nat.le_of_ble_eq_true rfl, Nat.le_of_ble_eq_true rfl⟩) hS (fun q _ h => h.elim) (fun q h => h.elim) (fun r_5 u t H1 locs ht hvm hw_5 hB hz1 hk1 hS => ?_)
  have hE : s.heap = H1 := hB.symm.trans ht
  subst hE
  rcases (show (r_5 = 1 ∧ ∃ j : Nat, j < n ∧ p0 = nI j) ∨ r_5 = 0 from hw_5) with ⟨rfl, j_5, hj_5, he_5⟩ | rfl
  · skip
    subst he_5
    refine lv_if_eq (tgt := 31) hx hb dX7_areTwo_8 (by decide) (fun c_8 => absurd c_8 (by decide +kernel)) (fun _ => ?_)
    refine lv_aload_n hx hb dX7_areTwo_11 rfl (lv_at hl 0 rfl) ?_
    refine va_get (D := (dC, dI)) (ci := 7) (v := .ref dr) (C := RX7) (T := TX7) (N := 10) hx hb hts hiX7 hown hK hP 0 rfl rfl 0 (by decide) (hts (.fieldLink RX7 12 "MadeItSo" "drawing" "LMadeItSo$Drawing;") (by decide +kernel)) (fun _ h9 => h9) rfl dX7_areTwo_12 ?_
    refine lv_iload_n hx hb dX7_areTwo_15 rfl (lv_at hl 2 rfl) ?_
    have hPc := hP.sub (ws' := [(dr, .inr (2, [.ref dp, .ref dc, .int (nI n)]))]) [1] rfl
    refine va_calli (va_runV (As := [.int p1]) (rest := []) ⟨hx, hb, hml, hown, hts⟩ (mz_d_has l dC dI cI cJ cZ dr dp dc n p1 s.heap (by first | assumption | omega)) (cwV 1 hts gX7_areTwo_X2_has rfl rfl rfl (by decide +kernel) ⟨Nat.le_of_ble_eq_true rfl, Nat.le_of_ble_eq_true rfl⟩) ⟨fun a U g mk q => mz_blP q, va_recv hK hPc (ci := 2) (q0 := 0) rfl rfl, fun U hU hW => ⟨rfl, hU, hPc, va_K.moved hW.alike hK, mz_nw hW hN⟩⟩ rfl rfl hl.1 rfl (lv_room (Nat.le_of_ble_eq_true rfl)) dX7_areTwo_16 ⟨Nat.le_of_ble_eq_true rfl, Nat.le_of_ble_eq_true rfl⟩) hS (fun q _ h => h.elim) (fun q h => h.elim) (fun r_16 u t H1 locs ht hvm hw_16 hB hz1 hk1 hS => ?_)
    have hE : s.heap = H1 := hB.symm.trans ht
    subst hE
    rcases (show (r_16 = 1 ∧ ∃ j : Nat, j < n ∧ p1 = nI j) ∨ r_16 = 0 from hw_16) with ⟨rfl, j_16, hj_16, he_16⟩ | rfl
    · skip
      subst he_16
      refine lv_if_eq (tgt := 31) hx hb dX7_areTwo_19 (by decide) (fun c_19 => absurd c_19 (by decide +kernel)) (fun _ => ?_)
      refine lv_iload_n hx hb dX7_areTwo_22 rfl (lv_at hl 1 rfl) ?_
      refine lv_iload_n hx hb dX7_areTwo_23 rfl (lv_at hl 2 rfl) ?_
      refine lv_icmp_eq (tgt := 31) hx hb dX7_areTwo_24 (by decide) (fun c_24 => ?_) (fun c_24 => ?_)
      · skip
        have d_24 : j_5 = j_16 := (nI_eq (a := j_5) (b := j_16) (by omega) (by omega)).mp c_24
        refine lv_iconst (v := 0) hx hb dX7_areTwo_31 (by decide +kernel) ?_
        refine W.widen (k := 0) (n := 0) (Nat.le_of_ble_eq_true rfl) (Nat.le_of_ble_eq_true rfl) ?_
        exact W.zret (v := 0) hx hb hr (mz_nz (by decide +kernel)) (fun t ht hW => ⟨⟨0, (), rfl, Or.inr rfl, ht⟩, hS.F ht⟩) hS.2.2 dX7_areTwo_32
      · skip
        have d_24 : ¬ j_5 = j_16 := fun h => c_24 ((nI_eq (a := j_5) (b := j_16) (by omega) (by omega)).mpr h)
        refine lv_iconst (v := 1) hx hb dX7_areTwo_27 (by decide +kernel) ?_
        refine lv_goto (tgt := 32) hx hb dX7_areTwo_28 (by decide) ?_
        refine W.widen (k := 0) (n := 0) (Nat.le_of_ble_eq_true rfl) (Nat.le_of_ble_eq_true rfl) ?_
        exact W.zret (v := 1) hx hb hr (mz_nz (by decide +kernel)) (fun t ht hW => ⟨⟨1, (), rfl, Or.inl ⟨rfl, j_5, j_16, hj_5, hj_16, (fun e => c_24 (by rw [e])), rfl, rfl⟩, ht⟩, hS.F ht⟩) hS.2.2 dX7_areTwo_32
    · skip
      refine lv_if_eq (tgt := 31) hx hb dX7_areTwo_19 (by decide) (fun _ => ?_) (fun c_19 => absurd (by decide +kernel) c_19)
      refine lv_iconst (v := 0) hx hb dX7_areTwo_31 (by decide +kernel) ?_
      refine W.widen (k := 0) (n := 0) (Nat.le_of_ble_eq_true rfl) (Nat.le_of_ble_eq_true rfl) ?_
      exact W.zret (v := 0) hx hb hr (mz_nz (by decide +kernel)) (fun t ht hW => ⟨⟨0, (), rfl, Or.inr rfl, ht⟩, hS.F ht⟩) hS.2.2 dX7_areTwo_32
  · skip
    refine lv_if_eq (tgt := 31) hx hb dX7_areTwo_8 (by decide) (fun _ => ?_) (fun c_8 => absurd (by decide +kernel) c_8)
    refine lv_iconst (v := 0) hx hb dX7_areTwo_31 (by decide +kernel) ?_
    refine W.widen (k := 0) (n := 0) (Nat.le_of_ble_eq_true rfl) (Nat.le_of_ble_eq_true rfl) ?_
    exact W.zret (v := 0) hx hb hr (mz_nz (by decide +kernel)) (fun t ht hW => ⟨⟨0, (), rfl, Or.inr rfl, ht⟩, hS.F ht⟩) hS.2.2 dX7_areTwo_32
set_option maxHeartbeats 1000000 in
set_option maxRecDepth 100000 in
theorem mz_u_x_least (l : Launch) (dC : Nat → ClassId) (dI : Nat → Nat → Nat) (cI cJ cZ : ClassId) (mx : Nat) (dr : Nat) (th : Nat) (bk : Nat) (wt : Nat) (tt : Nat) (lh : Nat) (la : Nat) (sh : Int32) (ab : Int64) (be : Int64) (dp : Nat) (dc : Nat) (n : Nat) (fp : Nat → Int32) (fc : Nat → Int32) (hf : Nat) (lm : Int32) (ff : Nat → Int32) (i : Nat) (j : Nat) (PQ : Nat → Prop) (sz : Nat) (hn : n ≤ 8) (hi : i < n) (hj : j < n) (hne : ¬ i = j) (hp8 : ∀ k, k < 8 → ∀ j, j < 32 → mz_t (fp k) j = true → j < 8) (hf8 : ∀ k, k < 8 → ∀ j, j < 32 → mz_t (fc k) j = true → j < 8) (ham8 : ∀ k, k < 32 → mz_t (mz_amg sh i j) k = true → k < 8) (hPin : mz_pin PQ (mz_amg sh i j)) (hPb : ∀ z, z < 256 → (∀ k, z.testBit k = true → mz_t (mz_amg sh i j) k = true) → ∀ M C F : Int32, mz_lst fp (nI z) M → mz_brl fp fc ((1 : Int32) <<< (nI i &&& 31)) (nI z) M C F → ((C ||| F) &&& ((1 : Int32) <<< (nI j &&& 31)) = 0 ↔ PQ z)) : Met l yX7_least wsX7_least ({ frames := 5, cells := 0, slots := 0, locals := 128 }) (va_Pc [.ref mx, .int (nI i), .int (nI j)] (fun U => U.heap.size = sz ∧ va_P (dC, dI) vwCl [(mx, .inr (7, [.ref dr, .ref th, .ref bk, .ref wt, .ref tt, .ref lh, .ref la, .int sh, .long ab, .long be])), (dr, .inr (2, [.ref dp, .ref dc, .int (nI n)])), (dp, .inl (cI, 8, .inl fp)), (dc, .inl (cI, 8, .inl fc)), (lh, .inr (3, [.ref hf, .int lm])), (hf, .inl (cI, 64, .inl ff))] U.heap ∧ va_K (dC, dI) vwCl [(cI, FieldType.int), (cJ, FieldType.long), (cZ, FieldType.boolean)] U ∧ va_D (fun _ => True) [(mx, .inr (7, [.ref dr, .ref th, .ref bk, .ref wt, .ref tt, .ref lh, .ref la, .int sh, .long ab, .long be])), (dr, .inr (2, [.ref dp, .ref dc, .int (nI n)])), (dp, .inl (cI, 8, .inl fp)), (dc, .inl (cI, 8, .inl fc)), (lh, .inr (3, [.ref hf, .int lm])), (hf, .inl (cI, 64, .inl ff))] ∧ mz_N U)) (va_Qi (fun (r : Int32) (_ : Unit) => r = (nI (mz_ct (mz_lp PQ) 256))) (fun _ t => ∃ (gm : Int32), ∃ (gf : Nat → Int32), va_P (dC, dI) vwCl [(mx, .inr (7, [.ref dr, .ref th, .ref bk, .ref wt, .ref tt, .ref lh, .ref la, .int sh, .long ab, .long be])), (dr, .inr (2, [.ref dp, .ref dc, .int (nI n)])), (dp, .inl (cI, 8, .inl fp)), (dc, .inl (cI, 8, .inl fc)), (lh, .inr (3, [.ref hf, .int gm])), (hf, .inl (cI, 64, .inl gf))] t.heap ∧ va_D (va_A [(mx, .inr (7, [.ref dr, .ref th, .ref bk, .ref wt, .ref tt, .ref lh, .ref la, .int sh, .long ab, .long be])), (dr, .inr (2, [.ref dp, .ref dc, .int (nI n)])), (dp, .inl (cI, 8, .inl fp)), (dc, .inl (cI, 8, .inl fc)), (lh, .inr (3, [.ref hf, .int lm])), (hf, .inl (cI, 64, .inl ff))] sz) [(mx, .inr (7, [.ref dr, .ref th, .ref bk, .ref wt, .ref tt, .ref lh, .ref la, .int sh, .long ab, .long be])), (dr, .inr (2, [.ref dp, .ref dc, .int (nI n)])), (dp, .inl (cI, 8, .inl fp)), (dc, .inl (cI, 8, .inl fc)), (lh, .inr (3, [.ref hf, .int gm])), (hf, .inl (cI, 64, .inl gf))]) (va_A [(mx, .inr (7, [.ref dr, .ref th, .ref bk, .ref wt, .ref tt, .ref lh, .ref la, .int sh, .long ab, .long be])), (dr, .inr (2, [.ref dp, .ref dc, .int (nI n)])), (dp, .inl (cI, 8, .inl fp)), (dc, .inl (cI, 8, .inl fc)), (lh, .inr (3, [.ref hf, .int lm])), (hf, .inl (cI, 64, .inl ff))] sz)) 0 0 (va_A [(mx, .inr (7, [.ref dr, .ref th, .ref bk, .ref wt, .ref tt, .ref lh, .ref la, .int sh, .long ab, .long be])), (dr, .inr (2, [.ref dp, .ref dc, .int (nI n)])), (dp, .inl (cI, 8, .inl fp)), (dc, .inl (cI, 8, .inl fc)), (lh, .inr (3, [.ref hf, .int lm])), (hf, .inl (cI, 64, .inl ff))] sz) := by
  refine Met.ofW (cc := cX7_least) (maxL := 3) (ret := (some .int)) (by decide) rfl ?_
  intro p e s m args below meth c s₁ B hml hv
  obtain ⟨rfl, hsz, hP, hK, hD0, hN⟩ := hv
  subst hsz
  have hx := B.exec
  have hb := B.bytes
  have hr := B.returns
  have hts := atoms_spec (ws := wsX7_least) B.pre
  have hown : s.vm.findClass RX7 = some m.cls := findClass_of_methodNamed B.named
  have hlocks := B.notSynchronized
  have hD := hD0.self (sz := s.heap.size)
  generalize hAe : va_A [(mx, .inr (7, [.ref dr, .ref th, .ref bk, .ref wt, .ref tt, .ref lh, .ref la, .int sh, .long ab, .long be])), (dr, .inr (2, [.ref dp, .ref dc, .int (nI n)])), (dp, .inl (cI, 8, .inl fp)), (dc, .inl (cI, 8, .inl fc)), (lh, .inr (3, [.ref hf, .int lm])), (hf, .inl (cI, 64, .inl ff))] s.heap.size = A at hD ⊢
  have hA : ∀ q : Nat, s.heap.size ≤ q → A q := fun q h => by rw [← hAe]; exact Or.inr h
  have hS : va_S A s.heap s.heap [] := va_S.rf
  have hiX7 : ∀ w ∈ u_ws RX7 TX7 10, w ∈ wsX7_least := by decide +kernel
  have hl := lv_entry ([.ref mx, .int (nI i), .int (nI j)]) (n := 3) (Nat.le_of_ble_eq_true rfl)
  rw [lg_entry_eq]
  generalize (lg_sl ([.ref mx, .int (nI i), .int (nI j)]) ++ List.replicate (3 - (lg_sl ([.ref mx, .int (nI i), .int (nI j)])).length) Slot.unset).toArray = ls at hl ⊢
  have hl : lv_has ls 3 [(0, .ref mx), (1, .int (nI i)), (2, .int (nI j))] := hl
  refine lv_aload_n hx hb dX7_least_0 rfl (lv_at hl 0 rfl) ?_
  refine lv_iload_n hx hb dX7_least_1 rfl (lv_at hl 1 rfl) ?_
  refine lv_iload_n hx hb dX7_least_2 rfl (lv_at hl 2 rfl) ?_
  have hPc := hP.sub (ws' := [(mx, .inr (7, [.ref dr, .ref th, .ref bk, .ref wt, .ref tt, .ref lh, .ref la, .int sh, .long ab, .long be])), (dr, .inr (2, [.ref dp, .ref dc, .int (nI n)]))]) [0, 1] rfl
  refine va_calli (va_runV (As := [.int (nI i), .int (nI j)]) (rest := []) ⟨hx, hb, hml, hown, hts⟩ (mz_q_x_areTwo l dC dI cI cJ cZ mx dr th bk wt tt lh la sh ab be dp dc n i j s.heap (by first | assumption | omega) (by first | assumption | omega) (by first | assumption | omega) (by first | assumption | omega)) (cwV 2 hts gX7_least_X7_areTwo rfl rfl rfl (by decide +kernel) ⟨Nat.le_of_ble_eq_true rfl, Nat.le_of_ble_eq_true rfl⟩) ⟨fun a U g mk q => mz_blP q, va_recv hK hPc (ci := 7) (q0 := 0) rfl rfl, fun U hU hW => ⟨rfl, hU, hPc, va_K.moved hW.alike hK, mz_nw hW hN⟩⟩ rfl rfl hl.1 rfl (lv_room (Nat.le_of_ble_eq_true rfl)) dX7_least_3 ⟨Nat.le_of_ble_eq_true rfl, Nat.le_of_ble_eq_true rfl⟩) hS (fun q _ h => h.elim) (fun q h => h.elim) (fun r_3 u t H1 locs ht hvm hw_3 hB hz1 hk1 hS => ?_)
  have hE : s.heap = H1 := hB.symm.trans ht
  subst hE
  obtain rfl : r_3 = 1 := hw_3
  refine lv_if_ne (tgt := 11) hx hb dX7_least_6 (by decide) (fun _ => ?_) (fun c_6 => absurd c_6 (by decide +kernel))
  refine lv_aload_n hx hb dX7_least_11 rfl (lv_at hl 0 rfl) ?_
  refine va_get (D := (dC, dI)) (ci := 7) (v := .ref lh) (C := RX7) (T := TX7) (N := 10) hx hb hts hiX7 hown hK hP 0 rfl rfl 5 (by decide) (hts (.fieldLink RX7 43 "MadeItSo" "leastHeaps" "LMadeItSo$LeastHeaps;") (by decide +kernel)) (fun _ h9 => h9) rfl dX7_least_12 ?_
  refine lv_aload_n hx hb dX7_least_15 rfl (lv_at hl 0 rfl) ?_
  refine va_get (D := (dC, dI)) (ci := 7) (v := .ref dr) (C := RX7) (T := TX7) (N := 10) hx hb hts hiX7 hown hK hP 0 rfl rfl 0 (by decide) (hts (.fieldLink RX7 12 "MadeItSo" "drawing" "LMadeItSo$Drawing;") (by decide +kernel)) (fun _ h9 => h9) rfl dX7_least_16 ?_
  refine lv_iload_n hx hb dX7_least_19 rfl (lv_at hl 1 rfl) ?_
  refine lv_iload_n hx hb dX7_least_20 rfl (lv_at hl 2 rfl) ?_
  refine lv_aload_n hx hb dX7_least_21 rfl (lv_at hl 0 rfl) ?_
  refine va_get (D := (dC, dI)) (ci := 7) (v := .int sh) (C := RX7) (T := TX7) (N := 10) hx hb hts hiX7 hown hK hP 0 rfl rfl 7 (by decide) (hts (.fieldLink RX7 54 "MadeItSo" "seenHeap" "I") (by decide +kernel)) (fun _ h9 => h9) rfl dX7_least_22 ?_
  have hPc := hP.sub (ws' := [(lh, .inr (3, [.ref hf, .int lm])), (hf, .inl (cI, 64, .inl ff)), (dr, .inr (2, [.ref dp, .ref dc, .int (nI n)])), (dp, .inl (cI, 8, .inl fp)), (dc, .inl (cI, 8, .inl fc))]) [4, 5, 1, 2, 3] rfl
  have hDc := hD.sub (ws' := [(lh, .inr (3, [.ref hf, .int lm])), (hf, .inl (cI, 64, .inl ff)), (dr, .inr (2, [.ref dp, .ref dc, .int (nI n)])), (dp, .inl (cI, 8, .inl fp)), (dc, .inl (cI, 8, .inl fc))]) [4, 5, 1, 2, 3] (by decide) rfl
  have hFc := va_free (wc := [(lh, .inr (3, [.ref hf, .int lm])), (hf, .inl (cI, 64, .inl ff)), (dr, .inr (2, [.ref dp, .ref dc, .int (nI n)])), (dp, .inl (cI, 8, .inl fp)), (dc, .inl (cI, 8, .inl fc))]) hD hS hA [4, 5, 1, 2, 3] rfl
  refine va_callv (va_runV (As := [.ref dr, .int (nI i), .int (nI j), .int sh]) (rest := []) ⟨hx, hb, hml, hown, hts⟩ (mz_u_seek l dC dI cI cJ cZ lh hf lm ff dr dp dc n fp fc i j sh PQ s.heap.size (by first | assumption | omega) (by first | assumption | omega) (by first | assumption | omega) (by first | assumption | omega) (by first | assumption | omega) (by first | assumption | omega) (by first | assumption | omega) (by first | assumption | omega) (by first | assumption | omega)) (cwV 4 hts gX7_least_X3_seek rfl rfl rfl (by decide +kernel) ⟨Nat.le_of_ble_eq_true rfl, Nat.le_of_ble_eq_true rfl⟩) ⟨fun a U g mk q => mz_blI q, va_recv hK hPc (ci := 3) (q0 := 0) rfl rfl, fun U hU hW => ⟨rfl, by rw [hU], by rw [hU]; exact hPc, va_K.moved hW.alike hK, hDc.weaken (fun _ _ _ _ => trivial), mz_nw hW hN⟩⟩ rfl rfl hl.1 rfl (lv_room (Nat.le_of_ble_eq_true rfl)) dX7_least_25 ⟨Nat.le_of_ble_eq_true rfl, Nat.le_of_ble_eq_true rfl⟩) hS (fun q _ h => hFc q h) hFc (fun u t H1 locs ht hvm hw_25 hB hz1 hk1 hS => ?_)
  obtain ⟨gk_25, gf_25, hx0_25, hx1_25, hx2_25, hP1, hD1⟩ := hB
  rw [ht] at hP1
  obtain ⟨hP, hD⟩ := va_join (wr := [(mx, .inr (7, [.ref dr, .ref th, .ref bk, .ref wt, .ref tt, .ref lh, .ref la, .int sh, .long ab, .long be]))]) (w1 := [(lh, .inr (3, [.ref hf, .int (nI gk_25)])), (hf, .inl (cI, 64, .inl gf_25)), (dr, .inr (2, [.ref dp, .ref dc, .int (nI n)])), (dp, .inl (cI, 8, .inl fp)), (dc, .inl (cI, 8, .inl fc))]) hP hD [4, 5, 1, 2, 3] [0] rfl rfl (by decide) (by decide) hk1 hFc hP1 hD1
  generalize H1 = H at hP hS ⊢
  have hP : va_P (dC, dI) vwCl [(mx, .inr (7, [.ref dr, .ref th, .ref bk, .ref wt, .ref tt, .ref lh, .ref la, .int sh, .long ab, .long be])), (lh, .inr (3, [.ref hf, .int (nI gk_25)])), (hf, .inl (cI, 64, .inl gf_25)), (dr, .inr (2, [.ref dp, .ref dc, .int (nI n)])), (dp, .inl (cI, 8, .inl fp)), (dc, .inl (cI, 8, .inl fc))] H := hP
  have hD : va_D A [(mx, .inr (7, [.ref dr, .ref th, .ref bk, .ref wt, .ref tt, .ref lh, .ref la, .int sh, .long ab, .long be])), (lh, .inr (3, [.ref hf, .int (nI gk_25)])), (hf, .inl (cI, 64, .inl gf_25)), (dr, .inr (2, [.ref dp, .ref dc, .int (nI n)])), (dp, .inl (cI, 8, .inl fp)), (dc, .inl (cI, 8, .inl fc))] := hD
  refine lv_aload_n hx hb dX7_least_28 rfl (lv_at hl 0 rfl) ?_
  refine va_get (D := (dC, dI)) (ci := 7) (v := .ref lh) (C := RX7) (T := TX7) (N := 10) hx hb hts hiX7 hown hK hP 0 rfl rfl 5 (by decide) (hts (.fieldLink RX7 43 "MadeItSo" "leastHeaps" "LMadeItSo$LeastHeaps;") (by decide +kernel)) (fun _ h9 => h9) rfl dX7_least_29 ?_
  have hPc := hP.sub (ws' := [(lh, .inr (3, [.ref hf, .int (nI gk_25)]))]) [1] rfl
  refine va_calli (va_runV (As := []) (rest := []) ⟨hx, hb, hml, hown, hts⟩ (mz_u_size l dC dI cI cJ cZ lh hf gk_25 H ) (cwV 0 hts gX7_least_X3_size rfl rfl rfl (by decide +kernel) ⟨Nat.le_of_ble_eq_true rfl, Nat.le_of_ble_eq_true rfl⟩) ⟨fun a U g mk q => mz_blP q, va_recv hK hPc (ci := 3) (q0 := 0) rfl rfl, fun U hU hW => ⟨rfl, hU, hPc, va_K.moved hW.alike hK, mz_nw hW hN⟩⟩ rfl rfl hl.1 rfl (lv_room (Nat.le_of_ble_eq_true rfl)) dX7_least_32 ⟨Nat.le_of_ble_eq_true rfl, Nat.le_of_ble_eq_true rfl⟩) hS (fun q _ h => h.elim) (fun q h => h.elim) (fun r_32 u t H1 locs ht hvm hw_32 hB hz1 hk1 hS => ?_)
  have hE : H = H1 := hB.symm.trans ht
  subst hE
  obtain rfl : r_32 = (nI gk_25) := hw_32
  have hP9 := hP.sub (ws' := [(mx, .inr (7, [.ref dr, .ref th, .ref bk, .ref wt, .ref tt, .ref lh, .ref la, .int sh, .long ab, .long be])), (dr, .inr (2, [.ref dp, .ref dc, .int (nI n)])), (dp, .inl (cI, 8, .inl fp)), (dc, .inl (cI, 8, .inl fc)), (lh, .inr (3, [.ref hf, .int (nI gk_25)])), (hf, .inl (cI, 64, .inl gf_25))]) [0, 3, 4, 5, 1, 2] rfl
  have hD9 := hD.sub (ws' := [(mx, .inr (7, [.ref dr, .ref th, .ref bk, .ref wt, .ref tt, .ref lh, .ref la, .int sh, .long ab, .long be])), (dr, .inr (2, [.ref dp, .ref dc, .int (nI n)])), (dp, .inl (cI, 8, .inl fp)), (dc, .inl (cI, 8, .inl fc)), (lh, .inr (3, [.ref hf, .int (nI gk_25)])), (hf, .inl (cI, 64, .inl gf_25))]) [0, 3, 4, 5, 1, 2] (by decide) rfl
  refine W.widen (k := 0) (n := 0) (Nat.le_of_ble_eq_true rfl) (Nat.le_of_ble_eq_true rfl) ?_
  exact W.iret (v := (nI gk_25)) hx hb hr (fun t ht hW => ⟨⟨(nI gk_25), (), rfl, (by rw [hx1_25]), (nI gk_25), gf_25, by rw [ht]; exact hP9, hD9⟩, hS.F ht⟩) hS.2.2 dX7_least_35
set_option maxHeartbeats 1000000 in
set_option maxRecDepth 100000 in
theorem mz_u_x_leastAt (l : Launch) (dC : Nat → ClassId) (dI : Nat → Nat → Nat) (cI cJ cZ : ClassId) (mx : Nat) (dr : Nat) (th : Nat) (bk : Nat) (wt : Nat) (tt : Nat) (lh : Nat) (la : Nat) (sh : Int32) (ab : Int64) (be : Int64) (dp : Nat) (dc : Nat) (n : Nat) (fp : Nat → Int32) (fc : Nat → Int32) (hf : Nat) (lm : Int32) (ff : Nat → Int32) (i : Nat) (j : Nat) (p3 : Int32) (PQ : Nat → Prop) (sz : Nat) (hn : n ≤ 8) (hi : i < n) (hj : j < n) (hne : ¬ i = j) (hp8 : ∀ k, k < 8 → ∀ j, j < 32 → mz_t (fp k) j = true → j < 8) (hf8 : ∀ k, k < 8 → ∀ j, j < 32 → mz_t (fc k) j = true → j < 8) (ham8 : ∀ k, k < 32 → mz_t (mz_amg sh i j) k = true → k < 8) (hPin : mz_pin PQ (mz_amg sh i j)) (hPb : ∀ z, z < 256 → (∀ k, z.testBit k = true → mz_t (mz_amg sh i j) k = true) → ∀ M C F : Int32, mz_lst fp (nI z) M → mz_brl fp fc ((1 : Int32) <<< (nI i &&& 31)) (nI z) M C F → ((C ||| F) &&& ((1 : Int32) <<< (nI j &&& 31)) = 0 ↔ PQ z)) : Met l yX7_leastAt wsX7_leastAt ({ frames := 5, cells := 0, slots := 0, locals := 128 }) (va_Pc [.ref mx, .int (nI i), .int (nI j), .int p3] (fun U => U.heap.size = sz ∧ va_P (dC, dI) vwCl [(mx, .inr (7, [.ref dr, .ref th, .ref bk, .ref wt, .ref tt, .ref lh, .ref la, .int sh, .long ab, .long be])), (dr, .inr (2, [.ref dp, .ref dc, .int (nI n)])), (dp, .inl (cI, 8, .inl fp)), (dc, .inl (cI, 8, .inl fc)), (lh, .inr (3, [.ref hf, .int lm])), (hf, .inl (cI, 64, .inl ff))] U.heap ∧ va_K (dC, dI) vwCl [(cI, FieldType.int), (cJ, FieldType.long), (cZ, FieldType.boolean)] U ∧ va_D (fun _ => True) [(mx, .inr (7, [.ref dr, .ref th, .ref bk, .ref wt, .ref tt, .ref lh, .ref la, .int sh, .long ab, .long be])), (dr, .inr (2, [.ref dp, .ref dc, .int (nI n)])), (dp, .inl (cI, 8, .inl fp)), (dc, .inl (cI, 8, .inl fc)), (lh, .inr (3, [.ref hf, .int lm])), (hf, .inl (cI, 64, .inl ff))] ∧ mz_N U)) (va_Qi (fun (r : Int32) (_ : Unit) => mz_la PQ p3 r) (fun _ t => ∃ (gm : Int32), ∃ (gf : Nat → Int32), va_P (dC, dI) vwCl [(mx, .inr (7, [.ref dr, .ref th, .ref bk, .ref wt, .ref tt, .ref lh, .ref la, .int sh, .long ab, .long be])), (dr, .inr (2, [.ref dp, .ref dc, .int (nI n)])), (dp, .inl (cI, 8, .inl fp)), (dc, .inl (cI, 8, .inl fc)), (lh, .inr (3, [.ref hf, .int gm])), (hf, .inl (cI, 64, .inl gf))] t.heap ∧ va_D (va_A [(mx, .inr (7, [.ref dr, .ref th, .ref bk, .ref wt, .ref tt, .ref lh, .ref la, .int sh, .long ab, .long be])), (dr, .inr (2, [.ref dp, .ref dc, .int (nI n)])), (dp, .inl (cI, 8, .inl fp)), (dc, .inl (cI, 8, .inl fc)), (lh, .inr (3, [.ref hf, .int lm])), (hf, .inl (cI, 64, .inl ff))] sz) [(mx, .inr (7, [.ref dr, .ref th, .ref bk, .ref wt, .ref tt, .ref lh, .ref la, .int sh, .long ab, .long be])), (dr, .inr (2, [.ref dp, .ref dc, .int (nI n)])), (dp, .inl (cI, 8, .inl fp)), (dc, .inl (cI, 8, .inl fc)), (lh, .inr (3, [.ref hf, .int gm])), (hf, .inl (cI, 64, .inl gf))]) (va_A [(mx, .inr (7, [.ref dr, .ref th, .ref bk, .ref wt, .ref tt, .ref lh, .ref la, .int sh, .long ab, .long be])), (dr, .inr (2, [.ref dp, .ref dc, .int (nI n)])), (dp, .inl (cI, 8, .inl fp)), (dc, .inl (cI, 8, .inl fc)), (lh, .inr (3, [.ref hf, .int lm])), (hf, .inl (cI, 64, .inl ff))] sz)) 0 0 (va_A [(mx, .inr (7, [.ref dr, .ref th, .ref bk, .ref wt, .ref tt, .ref lh, .ref la, .int sh, .long ab, .long be])), (dr, .inr (2, [.ref dp, .ref dc, .int (nI n)])), (dp, .inl (cI, 8, .inl fp)), (dc, .inl (cI, 8, .inl fc)), (lh, .inr (3, [.ref hf, .int lm])), (hf, .inl (cI, 64, .inl ff))] sz) := by
  refine Met.ofW (cc := cX7_leastAt) (maxL := 4) (ret := (some .int)) (by decide) rfl ?_
  intro p e s m args below meth c s₁ B hml hv
  obtain ⟨rfl, hsz, hP, hK, hD0, hN⟩ := hv
  subst hsz
  have hx := B.exec
  have hb := B.bytes
  have hr := B.returns
  have hts := atoms_spec (ws := wsX7_leastAt) B.pre
  have hown : s.vm.findClass RX7 = some m.cls := findClass_of_methodNamed B.named
  have hlocks := B.notSynchronized
  have hD := hD0.self (sz := s.heap.size)
  generalize hAe : va_A [(mx, .inr (7, [.ref dr, .ref th, .ref bk, .ref wt, .ref tt, .ref lh, .ref la, .int sh, .long ab, .long be])), (dr, .inr (2, [.ref dp, .ref dc, .int (nI n)])), (dp, .inl (cI, 8, .inl fp)), (dc, .inl (cI, 8, .inl fc)), (lh, .inr (3, [.ref hf, .int lm])), (hf, .inl (cI, 64, .inl ff))] s.heap.size = A at hD ⊢
  have hA : ∀ q : Nat, s.heap.size ≤ q → A q := fun q h => by rw [← hAe]; exact Or.inr h
  have hS : va_S A s.heap s.heap [] := va_S.rf
  have hiX7 : ∀ w ∈ u_ws RX7 TX7 10, w ∈ wsX7_leastAt := by decide +kernel
  have hl := lv_entry ([.ref mx, .int (nI i), .int (nI j), .int p3]) (n := 4) (Nat.le_of_ble_eq_true rfl)
  rw [lg_entry_eq]
  generalize (lg_sl ([.ref mx, .int (nI i), .int (nI j), .int p3]) ++ List.replicate (4 - (lg_sl ([.ref mx, .int (nI i), .int (nI j), .int p3])).length) Slot.unset).toArray = ls at hl ⊢
  have hl : lv_has ls 4 [(0, .ref mx), (1, .int (nI i)), (2, .int (nI j)), (3, .int p3)] := hl
  refine lv_aload_n hx hb dX7_leastAt_0 rfl (lv_at hl 0 rfl) ?_
  refine lv_iload_n hx hb dX7_leastAt_1 rfl (lv_at hl 1 rfl) ?_
  refine lv_iload_n hx hb dX7_leastAt_2 rfl (lv_at hl 2 rfl) ?_
  have hPc := hP.sub (ws' := [(mx, .inr (7, [.ref dr, .ref th, .ref bk, .ref wt, .ref tt, .ref lh, .ref la, .int sh, .long ab, .long be])), (dr, .inr (2, [.ref dp, .ref dc, .int (nI n)]))]) [0, 1] rfl
  refine va_calli (va_runV (As := [.int (nI i), .int (nI j)]) (rest := []) ⟨hx, hb, hml, hown, hts⟩ (mz_q_x_areTwo l dC dI cI cJ cZ mx dr th bk wt tt lh la sh ab be dp dc n i j s.heap (by first | assumption | omega) (by first | assumption | omega) (by first | assumption | omega) (by first | assumption | omega)) (cwV 2 hts gX7_leastAt_X7_areTwo rfl rfl rfl (by decide +kernel) ⟨Nat.le_of_ble_eq_true rfl, Nat.le_of_ble_eq_true rfl⟩) ⟨fun a U g mk q => mz_blP q, va_recv hK hPc (ci := 7) (q0 := 0) rfl rfl, fun U hU hW => ⟨rfl, hU, hPc, va_K.moved hW.alike hK, mz_nw hW hN⟩⟩ rfl rfl hl.1 rfl (lv_room (Nat.le_of_ble_eq_true rfl)) dX7_leastAt_3 ⟨Nat.le_of_ble_eq_true rfl, Nat.le_of_ble_eq_true rfl⟩) hS (fun q _ h => h.elim) (fun q h => h.elim) (fun r_3 u t H1 locs ht hvm hw_3 hB hz1 hk1 hS => ?_)
  have hE : s.heap = H1 := hB.symm.trans ht
  subst hE
  obtain rfl : r_3 = 1 := hw_3
  refine lv_if_ne (tgt := 11) hx hb dX7_leastAt_6 (by decide) (fun _ => ?_) (fun c_6 => absurd c_6 (by decide +kernel))
  refine lv_aload_n hx hb dX7_leastAt_11 rfl (lv_at hl 0 rfl) ?_
  refine va_get (D := (dC, dI)) (ci := 7) (v := .ref lh) (C := RX7) (T := TX7) (N := 10) hx hb hts hiX7 hown hK hP 0 rfl rfl 5 (by decide) (hts (.fieldLink RX7 43 "MadeItSo" "leastHeaps" "LMadeItSo$LeastHeaps;") (by decide +kernel)) (fun _ h9 => h9) rfl dX7_leastAt_12 ?_
  refine lv_aload_n hx hb dX7_leastAt_15 rfl (lv_at hl 0 rfl) ?_
  refine va_get (D := (dC, dI)) (ci := 7) (v := .ref dr) (C := RX7) (T := TX7) (N := 10) hx hb hts hiX7 hown hK hP 0 rfl rfl 0 (by decide) (hts (.fieldLink RX7 12 "MadeItSo" "drawing" "LMadeItSo$Drawing;") (by decide +kernel)) (fun _ h9 => h9) rfl dX7_leastAt_16 ?_
  refine lv_iload_n hx hb dX7_leastAt_19 rfl (lv_at hl 1 rfl) ?_
  refine lv_iload_n hx hb dX7_leastAt_20 rfl (lv_at hl 2 rfl) ?_
  refine lv_aload_n hx hb dX7_leastAt_21 rfl (lv_at hl 0 rfl) ?_
  refine va_get (D := (dC, dI)) (ci := 7) (v := .int sh) (C := RX7) (T := TX7) (N := 10) hx hb hts hiX7 hown hK hP 0 rfl rfl 7 (by decide) (hts (.fieldLink RX7 54 "MadeItSo" "seenHeap" "I") (by decide +kernel)) (fun _ h9 => h9) rfl dX7_leastAt_22 ?_
  have hPc := hP.sub (ws' := [(lh, .inr (3, [.ref hf, .int lm])), (hf, .inl (cI, 64, .inl ff)), (dr, .inr (2, [.ref dp, .ref dc, .int (nI n)])), (dp, .inl (cI, 8, .inl fp)), (dc, .inl (cI, 8, .inl fc))]) [4, 5, 1, 2, 3] rfl
  have hDc := hD.sub (ws' := [(lh, .inr (3, [.ref hf, .int lm])), (hf, .inl (cI, 64, .inl ff)), (dr, .inr (2, [.ref dp, .ref dc, .int (nI n)])), (dp, .inl (cI, 8, .inl fp)), (dc, .inl (cI, 8, .inl fc))]) [4, 5, 1, 2, 3] (by decide) rfl
  have hFc := va_free (wc := [(lh, .inr (3, [.ref hf, .int lm])), (hf, .inl (cI, 64, .inl ff)), (dr, .inr (2, [.ref dp, .ref dc, .int (nI n)])), (dp, .inl (cI, 8, .inl fp)), (dc, .inl (cI, 8, .inl fc))]) hD hS hA [4, 5, 1, 2, 3] rfl
  refine va_callv (va_runV (As := [.ref dr, .int (nI i), .int (nI j), .int sh]) (rest := []) ⟨hx, hb, hml, hown, hts⟩ (mz_u_seek l dC dI cI cJ cZ lh hf lm ff dr dp dc n fp fc i j sh PQ s.heap.size (by first | assumption | omega) (by first | assumption | omega) (by first | assumption | omega) (by first | assumption | omega) (by first | assumption | omega) (by first | assumption | omega) (by first | assumption | omega) (by first | assumption | omega) (by first | assumption | omega)) (cwV 4 hts gX7_leastAt_X3_seek rfl rfl rfl (by decide +kernel) ⟨Nat.le_of_ble_eq_true rfl, Nat.le_of_ble_eq_true rfl⟩) ⟨fun a U g mk q => mz_blI q, va_recv hK hPc (ci := 3) (q0 := 0) rfl rfl, fun U hU hW => ⟨rfl, by rw [hU], by rw [hU]; exact hPc, va_K.moved hW.alike hK, hDc.weaken (fun _ _ _ _ => trivial), mz_nw hW hN⟩⟩ rfl rfl hl.1 rfl (lv_room (Nat.le_of_ble_eq_true rfl)) dX7_leastAt_25 ⟨Nat.le_of_ble_eq_true rfl, Nat.le_of_ble_eq_true rfl⟩) hS (fun q _ h => hFc q h) hFc (fun u t H1 locs ht hvm hw_25 hB hz1 hk1 hS => ?_)
  obtain ⟨gk_25, gf_25, hx0_25, hx1_25, hx2_25, hP1, hD1⟩ := hB
  rw [ht] at hP1
  obtain ⟨hP, hD⟩ := va_join (wr := [(mx, .inr (7, [.ref dr, .ref th, .ref bk, .ref wt, .ref tt, .ref lh, .ref la, .int sh, .long ab, .long be]))]) (w1 := [(lh, .inr (3, [.ref hf, .int (nI gk_25)])), (hf, .inl (cI, 64, .inl gf_25)), (dr, .inr (2, [.ref dp, .ref dc, .int (nI n)])), (dp, .inl (cI, 8, .inl fp)), (dc, .inl (cI, 8, .inl fc))]) hP hD [4, 5, 1, 2, 3] [0] rfl rfl (by decide) (by decide) hk1 hFc hP1 hD1
  generalize H1 = H at hP hS ⊢
  have hP : va_P (dC, dI) vwCl [(mx, .inr (7, [.ref dr, .ref th, .ref bk, .ref wt, .ref tt, .ref lh, .ref la, .int sh, .long ab, .long be])), (lh, .inr (3, [.ref hf, .int (nI gk_25)])), (hf, .inl (cI, 64, .inl gf_25)), (dr, .inr (2, [.ref dp, .ref dc, .int (nI n)])), (dp, .inl (cI, 8, .inl fp)), (dc, .inl (cI, 8, .inl fc))] H := hP
  have hD : va_D A [(mx, .inr (7, [.ref dr, .ref th, .ref bk, .ref wt, .ref tt, .ref lh, .ref la, .int sh, .long ab, .long be])), (lh, .inr (3, [.ref hf, .int (nI gk_25)])), (hf, .inl (cI, 64, .inl gf_25)), (dr, .inr (2, [.ref dp, .ref dc, .int (nI n)])), (dp, .inl (cI, 8, .inl fp)), (dc, .inl (cI, 8, .inl fc))] := hD
  refine lv_aload_n hx hb dX7_leastAt_28 rfl (lv_at hl 0 rfl) ?_
  refine va_get (D := (dC, dI)) (ci := 7) (v := .ref lh) (C := RX7) (T := TX7) (N := 10) hx hb hts hiX7 hown hK hP 0 rfl rfl 5 (by decide) (hts (.fieldLink RX7 43 "MadeItSo" "leastHeaps" "LMadeItSo$LeastHeaps;") (by decide +kernel)) (fun _ h9 => h9) rfl dX7_leastAt_29 ?_
  refine lv_iload_n hx hb dX7_leastAt_32 rfl (lv_at hl 3 rfl) ?_
  have hPc := hP.sub (ws' := [(lh, .inr (3, [.ref hf, .int (nI gk_25)])), (hf, .inl (cI, 64, .inl gf_25))]) [1, 2] rfl
  refine va_calli (va_runV (As := [.int p3]) (rest := []) ⟨hx, hb, hml, hown, hts⟩ (mz_u_at l dC dI cI cJ cZ lh hf gk_25 gf_25 p3 H (by first | assumption | omega)) (cwV 1 hts gX7_leastAt_X3_at rfl rfl rfl (by decide +kernel) ⟨Nat.le_of_ble_eq_true rfl, Nat.le_of_ble_eq_true rfl⟩) ⟨fun a U g mk q => mz_blP q, va_recv hK hPc (ci := 3) (q0 := 0) rfl rfl, fun U hU hW => ⟨rfl, hU, hPc, va_K.moved hW.alike hK, mz_nw hW hN⟩⟩ rfl rfl hl.1 rfl (lv_room (Nat.le_of_ble_eq_true rfl)) dX7_leastAt_33 ⟨Nat.le_of_ble_eq_true rfl, Nat.le_of_ble_eq_true rfl⟩) hS (fun q _ h => h.elim) (fun q h => h.elim) (fun r_33 u t H1 locs ht hvm hw_33 hB hz1 hk1 hS => ?_)
  have hE : H = H1 := hB.symm.trans ht
  subst hE
  have hP9 := hP.sub (ws' := [(mx, .inr (7, [.ref dr, .ref th, .ref bk, .ref wt, .ref tt, .ref lh, .ref la, .int sh, .long ab, .long be])), (dr, .inr (2, [.ref dp, .ref dc, .int (nI n)])), (dp, .inl (cI, 8, .inl fp)), (dc, .inl (cI, 8, .inl fc)), (lh, .inr (3, [.ref hf, .int (nI gk_25)])), (hf, .inl (cI, 64, .inl gf_25))]) [0, 3, 4, 5, 1, 2] rfl
  have hD9 := hD.sub (ws' := [(mx, .inr (7, [.ref dr, .ref th, .ref bk, .ref wt, .ref tt, .ref lh, .ref la, .int sh, .long ab, .long be])), (dr, .inr (2, [.ref dp, .ref dc, .int (nI n)])), (dp, .inl (cI, 8, .inl fp)), (dc, .inl (cI, 8, .inl fc)), (lh, .inr (3, [.ref hf, .int (nI gk_25)])), (hf, .inl (cI, 64, .inl gf_25))]) [0, 3, 4, 5, 1, 2] (by decide) rfl
  refine W.widen (k := 0) (n := 0) (Nat.le_of_ble_eq_true rfl) (Nat.le_of_ble_eq_true rfl) ?_
  exact W.iret (v := r_33) hx hb hr (fun t ht hW => ⟨⟨r_33, (), rfl, (mz_la_x hx1_25 hx2_25 hw_33), (nI gk_25), gf_25, by rw [ht]; exact hP9, hD9⟩, hS.F ht⟩) hS.2.2 dX7_leastAt_36
set_option maxHeartbeats 1000000 in
set_option maxRecDepth 100000 in
theorem mz_u_x_least_out (l : Launch) (dC : Nat → ClassId) (dI : Nat → Nat → Nat) (cI cJ cZ : ClassId) (mx : Nat) (dr : Nat) (th : Nat) (bk : Nat) (wt : Nat) (tt : Nat) (lh : Nat) (la : Nat) (sh : Int32) (ab : Int64) (be : Int64) (dp : Nat) (dc : Nat) (n : Nat) (p1 : Int32) (p2 : Int32) (Hq : Heap) (hn : n ≤ 8) (hn2 : ¬ ∃ i j : Nat, i < n ∧ j < n ∧ (¬ i = j) ∧ p1 = nI i ∧ p2 = nI j) : Met l yX7_least wsX7_least ({ frames := 2, cells := 0, slots := 0, locals := 43 }) (va_Pc [.ref mx, .int p1, .int p2] (fun U => U.heap = Hq ∧ va_P (dC, dI) vwCl [(mx, .inr (7, [.ref dr, .ref th, .ref bk, .ref wt, .ref tt, .ref lh, .ref la, .int sh, .long ab, .long be])), (dr, .inr (2, [.ref dp, .ref dc, .int (nI n)]))] Hq ∧ va_K (dC, dI) vwCl [(cI, FieldType.int), (cJ, FieldType.long), (cZ, FieldType.boolean)] U ∧ mz_N U)) (va_Qi (fun (r : Int32) (_ : Unit) => r = (-1)) (fun _ t => t.heap = Hq) (fun _ : Nat => False)) 0 0 (fun _ : Nat => False) := by
  refine Met.ofW (cc := cX7_least) (maxL := 3) (ret := (some .int)) (by decide) rfl ?_
  intro p e s m args below meth c s₁ B hml hv
  obtain ⟨rfl, hH, hP, hK, hN⟩ := hv
  subst hH
  have hx := B.exec
  have hb := B.bytes
  have hr := B.returns
  have hts := atoms_spec (ws := wsX7_least) B.pre
  have hown : s.vm.findClass RX7 = some m.cls := findClass_of_methodNamed B.named
  have hlocks := B.notSynchronized
  have hS : va_S (fun _ : Nat => False) s.heap s.heap [] := va_S.rf
  have hl := lv_entry ([.ref mx, .int p1, .int p2]) (n := 3) (Nat.le_of_ble_eq_true rfl)
  rw [lg_entry_eq]
  generalize (lg_sl ([.ref mx, .int p1, .int p2]) ++ List.replicate (3 - (lg_sl ([.ref mx, .int p1, .int p2])).length) Slot.unset).toArray = ls at hl ⊢
  have hl : lv_has ls 3 [(0, .ref mx), (1, .int p1), (2, .int p2)] := hl
  refine lv_aload_n hx hb dX7_least_0 rfl (lv_at hl 0 rfl) ?_
  refine lv_iload_n hx hb dX7_least_1 rfl (lv_at hl 1 rfl) ?_
  refine lv_iload_n hx hb dX7_least_2 rfl (lv_at hl 2 rfl) ?_
  have hPc := hP.sub (ws' := [(mx, .inr (7, [.ref dr, .ref th, .ref bk, .ref wt, .ref tt, .ref lh, .ref la, .int sh, .long ab, .long be])), (dr, .inr (2, [.ref dp, .ref dc, .int (nI n)]))]) [0, 1] rfl
  refine va_calli (va_runV (As := [.int p1, .int p2]) (rest := []) ⟨hx, hb, hml, hown, hts⟩ (mz_u_x_areTwo l dC dI cI cJ cZ mx dr th bk wt tt lh la sh ab be dp dc n p1 p2 s.heap (by first | assumption | omega)) (cwV 2 hts gX7_least_X7_areTwo rfl rfl rfl (by decide +kernel) ⟨Nat.le_of_ble_eq_true rfl, Nat.le_of_ble_eq_true rfl⟩) ⟨fun a U g mk q => mz_blP q, va_recv hK hPc (ci := 7) (q0 := 0) rfl rfl, fun U hU hW => ⟨rfl, hU, hPc, va_K.moved hW.alike hK, mz_nw hW hN⟩⟩ rfl rfl hl.1 rfl (lv_room (Nat.le_of_ble_eq_true rfl)) dX7_least_3 ⟨Nat.le_of_ble_eq_true rfl, Nat.le_of_ble_eq_true rfl⟩) hS (fun q _ h => h.elim) (fun q h => h.elim) (fun r_3 u t H1 locs ht hvm hw_3 hB hz1 hk1 hS => ?_)
  have hE : s.heap = H1 := hB.symm.trans ht
  subst hE
  rcases (show (r_3 = 1 ∧ ∃ i j : Nat, i < n ∧ j < n ∧ (¬ i = j) ∧ p1 = nI i ∧ p2 = nI j) ∨ r_3 = 0 from hw_3) with ⟨rfl, i_3, j_3, hi_3, hj_3, hne_3, he_3, hf_3⟩ | rfl
  · skip
    subst he_3
    subst hf_3
    refine lv_if_ne (tgt := 11) hx hb dX7_least_6 (by decide) (fun _ => ?_) (fun c_6 => absurd c_6 (by decide +kernel))
    exact absurd ⟨i_3, j_3, hi_3, hj_3, hne_3, rfl, rfl⟩ hn2
  · skip
    refine lv_if_ne (tgt := 11) hx hb dX7_least_6 (by decide) (fun c_6 => absurd (by decide +kernel) c_6) (fun _ => ?_)
    refine lv_iconst (v := (-1)) hx hb dX7_least_9 (by decide +kernel) ?_
    refine W.widen (k := 0) (n := 0) (Nat.le_of_ble_eq_true rfl) (Nat.le_of_ble_eq_true rfl) ?_
    exact W.iret (v := (-1)) hx hb hr (fun t ht hW => ⟨⟨(-1), (), rfl, rfl, ht⟩, hS.F ht⟩) hS.2.2 dX7_least_10
set_option maxHeartbeats 1000000 in
set_option maxRecDepth 100000 in
theorem mz_u_x_leastAt_out (l : Launch) (dC : Nat → ClassId) (dI : Nat → Nat → Nat) (cI cJ cZ : ClassId) (mx : Nat) (dr : Nat) (th : Nat) (bk : Nat) (wt : Nat) (tt : Nat) (lh : Nat) (la : Nat) (sh : Int32) (ab : Int64) (be : Int64) (dp : Nat) (dc : Nat) (n : Nat) (p1 : Int32) (p2 : Int32) (p3 : Int32) (Hq : Heap) (hn : n ≤ 8) (hn2 : ¬ ∃ i j : Nat, i < n ∧ j < n ∧ (¬ i = j) ∧ p1 = nI i ∧ p2 = nI j) : Met l yX7_leastAt wsX7_leastAt ({ frames := 2, cells := 0, slots := 0, locals := 43 }) (va_Pc [.ref mx, .int p1, .int p2, .int p3] (fun U => U.heap = Hq ∧ va_P (dC, dI) vwCl [(mx, .inr (7, [.ref dr, .ref th, .ref bk, .ref wt, .ref tt, .ref lh, .ref la, .int sh, .long ab, .long be])), (dr, .inr (2, [.ref dp, .ref dc, .int (nI n)]))] Hq ∧ va_K (dC, dI) vwCl [(cI, FieldType.int), (cJ, FieldType.long), (cZ, FieldType.boolean)] U ∧ mz_N U)) (va_Qi (fun (r : Int32) (_ : Unit) => r = (-1)) (fun _ t => t.heap = Hq) (fun _ : Nat => False)) 0 0 (fun _ : Nat => False) := by
  refine Met.ofW (cc := cX7_leastAt) (maxL := 4) (ret := (some .int)) (by decide) rfl ?_
  intro p e s m args below meth c s₁ B hml hv
  obtain ⟨rfl, hH, hP, hK, hN⟩ := hv
  subst hH
  have hx := B.exec
  have hb := B.bytes
  have hr := B.returns
  have hts := atoms_spec (ws := wsX7_leastAt) B.pre
  have hown : s.vm.findClass RX7 = some m.cls := findClass_of_methodNamed B.named
  have hlocks := B.notSynchronized
  have hS : va_S (fun _ : Nat => False) s.heap s.heap [] := va_S.rf
  have hl := lv_entry ([.ref mx, .int p1, .int p2, .int p3]) (n := 4) (Nat.le_of_ble_eq_true rfl)
  rw [lg_entry_eq]
  generalize (lg_sl ([.ref mx, .int p1, .int p2, .int p3]) ++ List.replicate (4 - (lg_sl ([.ref mx, .int p1, .int p2, .int p3])).length) Slot.unset).toArray = ls at hl ⊢
  have hl : lv_has ls 4 [(0, .ref mx), (1, .int p1), (2, .int p2), (3, .int p3)] := hl
  refine lv_aload_n hx hb dX7_leastAt_0 rfl (lv_at hl 0 rfl) ?_
  refine lv_iload_n hx hb dX7_leastAt_1 rfl (lv_at hl 1 rfl) ?_
  refine lv_iload_n hx hb dX7_leastAt_2 rfl (lv_at hl 2 rfl) ?_
  have hPc := hP.sub (ws' := [(mx, .inr (7, [.ref dr, .ref th, .ref bk, .ref wt, .ref tt, .ref lh, .ref la, .int sh, .long ab, .long be])), (dr, .inr (2, [.ref dp, .ref dc, .int (nI n)]))]) [0, 1] rfl
  refine va_calli (va_runV (As := [.int p1, .int p2]) (rest := []) ⟨hx, hb, hml, hown, hts⟩ (mz_u_x_areTwo l dC dI cI cJ cZ mx dr th bk wt tt lh la sh ab be dp dc n p1 p2 s.heap (by first | assumption | omega)) (cwV 2 hts gX7_leastAt_X7_areTwo rfl rfl rfl (by decide +kernel) ⟨Nat.le_of_ble_eq_true rfl, Nat.le_of_ble_eq_true rfl⟩) ⟨fun a U g mk q => mz_blP q, va_recv hK hPc (ci := 7) (q0 := 0) rfl rfl, fun U hU hW => ⟨rfl, hU, hPc, va_K.moved hW.alike hK, mz_nw hW hN⟩⟩ rfl rfl hl.1 rfl (lv_room (Nat.le_of_ble_eq_true rfl)) dX7_leastAt_3 ⟨Nat.le_of_ble_eq_true rfl, Nat.le_of_ble_eq_true rfl⟩) hS (fun q _ h => h.elim) (fun q h => h.elim) (fun r_3 u t H1 locs ht hvm hw_3 hB hz1 hk1 hS => ?_)
  have hE : s.heap = H1 := hB.symm.trans ht
  subst hE
  rcases (show (r_3 = 1 ∧ ∃ i j : Nat, i < n ∧ j < n ∧ (¬ i = j) ∧ p1 = nI i ∧ p2 = nI j) ∨ r_3 = 0 from hw_3) with ⟨rfl, i_3, j_3, hi_3, hj_3, hne_3, he_3, hf_3⟩ | rfl
  · skip
    subst he_3
    subst hf_3
    refine lv_if_ne (tgt := 11) hx hb dX7_leastAt_6 (by decide) (fun _ => ?_) (fun c_6 => absurd c_6 (by decide +kernel))
    exact absurd ⟨i_3, j_3, hi_3, hj_3, hne_3, rfl, rfl⟩ hn2
  · skip
    refine lv_if_ne (tgt := 11) hx hb dX7_leastAt_6 (by decide) (fun c_6 => absurd (by decide +kernel) c_6) (fun _ => ?_)
    refine lv_iconst (v := (-1)) hx hb dX7_leastAt_9 (by decide +kernel) ?_
    refine W.widen (k := 0) (n := 0) (Nat.le_of_ble_eq_true rfl) (Nat.le_of_ble_eq_true rfl) ?_
    exact W.iret (v := (-1)) hx hb hr (fun t ht hW => ⟨⟨(-1), (), rfl, rfl, ht⟩, hS.F ht⟩) hS.2.2 dX7_leastAt_10
set_option maxHeartbeats 1000000 in
set_option maxRecDepth 100000 in
theorem mz_u_road (l : Launch) (dC : Nat → ClassId) (dI : Nat → Nat → Nat) (cI cJ cZ : ClassId) (dr : Nat) (dp : Nat) (dc : Nat) (n : Nat) (fp : Nat → Int32) (fc : Nat → Int32) (i : Nat) (j : Nat) (Hq : Heap) (hn : n ≤ 8) (hi : i < n) (hj : j < n) (hp8 : ∀ k, k < 8 → ∀ j, j < 32 → mz_t (fp k) j = true → j < 8) (hf8 : ∀ k, k < 8 → ∀ j, j < 32 → mz_t (fc k) j = true → j < 8) : Met l yX2_road wsX2_road ({ frames := 5, cells := 0, slots := 0, locals := 111 }) (va_Pc [.ref dr, .int (nI i), .int (nI j)] (fun U => U.heap = Hq ∧ va_P (dC, dI) vwCl [(dr, .inr (2, [.ref dp, .ref dc, .int (nI n)])), (dp, .inl (cI, 8, .inl fp)), (dc, .inl (cI, 8, .inl fc))] Hq ∧ va_K (dC, dI) vwCl [(cI, FieldType.int), (cJ, FieldType.long), (cZ, FieldType.boolean)] U ∧ mz_N U)) (va_Qi (fun (r : Int32) (_ : Unit) => ∃ S R : Int32, mz_lst fc (fc i) S ∧ mz_lst fp ((1 : Int32) <<< (nI j &&& 31)) R ∧ r = S &&& R) (fun _ t => t.heap = Hq) (fun _ : Nat => False)) 0 0 (fun _ : Nat => False) := by
  refine Met.ofW (cc := cX2_road) (maxL := 3) (ret := (some .int)) (by decide) rfl ?_
  intro p e s m args below meth c s₁ B hml hv
  obtain ⟨rfl, hH, hP, hK, hN⟩ := hv
  subst hH
  have hx := B.exec
  have hb := B.bytes
  have hr := B.returns
  have hts := atoms_spec (ws := wsX2_road) B.pre
  have hown : s.vm.findClass RX2 = some m.cls := findClass_of_methodNamed B.named
  have hlocks := B.notSynchronized
  have hS : va_S (fun _ : Nat => False) s.heap s.heap [] := va_S.rf
  have hiX2 : ∀ w ∈ u_ws RX2 TX2 3, w ∈ wsX2_road := by decide +kernel
  have hl := lv_entry ([.ref dr, .int (nI i), .int (nI j)]) (n := 3) (Nat.le_of_ble_eq_true rfl)
  rw [lg_entry_eq]
  generalize (lg_sl ([.ref dr, .int (nI i), .int (nI j)]) ++ List.replicate (3 - (lg_sl ([.ref dr, .int (nI i), .int (nI j)])).length) Slot.unset).toArray = ls at hl ⊢
  have hl : lv_has ls 3 [(0, .ref dr), (1, .int (nI i)), (2, .int (nI j))] := hl
  refine lv_aload_n hx hb dX2_road_0 rfl (lv_at hl 0 rfl) ?_
  refine lv_iload_n hx hb dX2_road_1 rfl (lv_at hl 1 rfl) ?_
  have hPc := hP.sub (ws' := [(dr, .inr (2, [.ref dp, .ref dc, .int (nI n)])), (dc, .inl (cI, 8, .inl fc))]) [0, 2] rfl
  refine va_calli (va_runV (As := [.int (nI i)]) (rest := []) ⟨hx, hb, hml, hown, hts⟩ (mz_e_allBelow l dC dI cI cJ cZ dr dp dc n fc i s.heap (by first | assumption | omega) (by first | assumption | omega) (by first | assumption | omega)) (cwV 1 hts gX2_road_X2_allBelow rfl rfl rfl (by decide +kernel) ⟨Nat.le_of_ble_eq_true rfl, Nat.le_of_ble_eq_true rfl⟩) ⟨fun a U g mk q => mz_blP q, va_recv hK hPc (ci := 2) (q0 := 0) rfl rfl, fun U hU hW => ⟨rfl, hU, hPc, va_K.moved hW.alike hK, mz_nw hW hN⟩⟩ rfl rfl hl.1 rfl (lv_room (Nat.le_of_ble_eq_true rfl)) dX2_road_2 ⟨Nat.le_of_ble_eq_true rfl, Nat.le_of_ble_eq_true rfl⟩) hS (fun q _ h => h.elim) (fun q h => h.elim) (fun r_2 u t H1 locs ht hvm hw_2 hB hz1 hk1 hS => ?_)
  have hE : s.heap = H1 := hB.symm.trans ht
  subst hE
  refine lv_aload_n hx hb dX2_road_5 rfl (lv_at hl 0 rfl) ?_
  refine lv_iload_n hx hb dX2_road_6 rfl (lv_at hl 2 rfl) ?_
  have hPc := hP.sub (ws' := []) [] rfl
  refine va_calli (va_runSN (As := [.int (nI j)]) (rest := [.ref dr, .int r_2]) ⟨hx, hb, hml, hown, hts⟩ (mz_g_bit l dC dI cI cJ cZ (nI j) s.heap ) ⟨va_cnB (host := "MadeItSo") 1 hts gX2_road_X7_bit_n37 rfl rfl rfl (hN (RX2, 37, yX7_bit, "MadeItSo") (by decide +kernel)) (hts (.initialized RX7) (by decide +kernel)) (by decide +kernel) ⟨Nat.le_of_ble_eq_true rfl, Nat.le_of_ble_eq_true rfl⟩, hts (.static yX7_bit) (by decide +kernel), trivial⟩ ⟨fun a U g mk q => mz_blP q, fun U hU hW => ⟨rfl, hU, hPc, va_K.moved hW.alike hK, mz_nw hW hN⟩⟩ rfl rfl hl.1 rfl (lv_room (Nat.le_of_ble_eq_true rfl)) dX2_road_7 ⟨Nat.le_of_ble_eq_true rfl, Nat.le_of_ble_eq_true rfl⟩) hS (fun q _ h => h.elim) (fun q h => h.elim) (fun r_7 u t H1 locs ht hvm hw_7 hB hz1 hk1 hS => ?_)
  have hE : s.heap = H1 := hB.symm.trans ht
  subst hE
  obtain rfl : r_7 = (1 <<< ((nI j) &&& 31)) := hw_7
  refine lv_aload_n hx hb dX2_road_10 rfl (lv_at hl 0 rfl) ?_
  refine va_get (D := (dC, dI)) (ci := 2) (v := .ref dp) (C := RX2) (T := TX2) (N := 3) hx hb hts hiX2 hown hK hP 0 rfl rfl 0 (by decide) (hts (.fieldLink RX2 9 "MadeItSo$Drawing" "parents" "[I") (by decide +kernel)) (fun _ h9 => h9) rfl dX2_road_11 ?_
  have hPc := hP.sub (ws' := [(dr, .inr (2, [.ref dp, .ref dc, .int (nI n)])), (dp, .inl (cI, 8, .inl fp))]) [0, 1] rfl
  refine va_calli (va_runV (As := [.int (1 <<< ((nI j) &&& 31)), .ref dp]) (rest := [.int r_2]) ⟨hx, hb, hml, hown, hts⟩ (mz_s_spread_p l dC dI cI cJ cZ dr dp dc n fp (1 <<< ((nI j) &&& 31)) s.heap (by first | assumption | omega)) (cwV 2 hts gX2_road_X2_spread rfl rfl rfl (by decide +kernel) ⟨Nat.le_of_ble_eq_true rfl, Nat.le_of_ble_eq_true rfl⟩) ⟨fun a U g mk q => mz_blP q, va_recv hK hPc (ci := 2) (q0 := 0) rfl rfl, fun U hU hW => ⟨rfl, hU, hPc, va_K.moved hW.alike hK, mz_nw hW hN⟩⟩ rfl rfl hl.1 rfl (lv_room (Nat.le_of_ble_eq_true rfl)) dX2_road_14 ⟨Nat.le_of_ble_eq_true rfl, Nat.le_of_ble_eq_true rfl⟩) hS (fun q _ h => h.elim) (fun q h => h.elim) (fun r_14 u t H1 locs ht hvm hw_14 hB hz1 hk1 hS => ?_)
  have hE : s.heap = H1 := hB.symm.trans ht
  subst hE
  refine lv_iand hx hb dX2_road_17 ?_
  refine W.widen (k := 0) (n := 0) (Nat.le_of_ble_eq_true rfl) (Nat.le_of_ble_eq_true rfl) ?_
  exact W.iret (v := (r_2 &&& r_14)) hx hb hr (fun t ht hW => ⟨⟨(r_2 &&& r_14), (), rfl, ⟨r_2, r_14, hw_2, hw_14, rfl⟩, ht⟩, hS.F ht⟩) hS.2.2 dX2_road_18
set_option maxHeartbeats 1000000 in
set_option maxRecDepth 100000 in
theorem mz_u_copyWithout (l : Launch) (dC : Nat → ClassId) (dI : Nat → Nat → Nat) (cI cJ cZ : ClassId) (th : Nat) (tp : Nat) (tc : Nat) (tn : Int32) (ftp : Nat → Int32) (ftc : Nat → Int32) (dr : Nat) (dp : Nat) (dc : Nat) (n : Nat) (fp : Nat → Int32) (fc : Nat → Int32) (i : Nat) (p2 : Int32) (sz : Nat) (hi : i < 8) : Met l yX2_copyWithout wsX2_copyWithout ({ frames := 1, cells := 0, slots := 0, locals := 21 }) (va_Pc [.ref th, .ref dr, .int (nI i), .int p2] (fun U => U.heap.size = sz ∧ va_P (dC, dI) vwCl [(th, .inr (2, [.ref tp, .ref tc, .int tn])), (tp, .inl (cI, 8, .inl ftp)), (tc, .inl (cI, 8, .inl ftc)), (dr, .inr (2, [.ref dp, .ref dc, .int (nI n)])), (dp, .inl (cI, 8, .inl fp)), (dc, .inl (cI, 8, .inl fc))] U.heap ∧ va_K (dC, dI) vwCl [(cI, FieldType.int), (cJ, FieldType.long), (cZ, FieldType.boolean)] U ∧ va_D (fun _ => True) [(th, .inr (2, [.ref tp, .ref tc, .int tn])), (tp, .inl (cI, 8, .inl ftp)), (tc, .inl (cI, 8, .inl ftc)), (dr, .inr (2, [.ref dp, .ref dc, .int (nI n)])), (dp, .inl (cI, 8, .inl fp)), (dc, .inl (cI, 8, .inl fc))] ∧ mz_N U)) (va_Qv (fun (_ : Unit) => True) (fun _ t => ∃ (gtp : Nat → Int32), ∃ (gtc : Nat → Int32), (∀ k, k < 8 → gtp k = mz_pwo fp (nI i) p2 k) ∧ (∀ k, k < 8 → gtc k = mz_tc fc i p2 k) ∧ va_P (dC, dI) vwCl [(th, .inr (2, [.ref tp, .ref tc, .int (nI n)])), (tp, .inl (cI, 8, .inl gtp)), (tc, .inl (cI, 8, .inl gtc)), (dr, .inr (2, [.ref dp, .ref dc, .int (nI n)])), (dp, .inl (cI, 8, .inl fp)), (dc, .inl (cI, 8, .inl fc))] t.heap ∧ va_D (va_A [(th, .inr (2, [.ref tp, .ref tc, .int tn])), (tp, .inl (cI, 8, .inl ftp)), (tc, .inl (cI, 8, .inl ftc)), (dr, .inr (2, [.ref dp, .ref dc, .int (nI n)])), (dp, .inl (cI, 8, .inl fp)), (dc, .inl (cI, 8, .inl fc))] sz) [(th, .inr (2, [.ref tp, .ref tc, .int (nI n)])), (tp, .inl (cI, 8, .inl gtp)), (tc, .inl (cI, 8, .inl gtc)), (dr, .inr (2, [.ref dp, .ref dc, .int (nI n)])), (dp, .inl (cI, 8, .inl fp)), (dc, .inl (cI, 8, .inl fc))]) (va_A [(th, .inr (2, [.ref tp, .ref tc, .int tn])), (tp, .inl (cI, 8, .inl ftp)), (tc, .inl (cI, 8, .inl ftc)), (dr, .inr (2, [.ref dp, .ref dc, .int (nI n)])), (dp, .inl (cI, 8, .inl fp)), (dc, .inl (cI, 8, .inl fc))] sz)) 0 0 (va_A [(th, .inr (2, [.ref tp, .ref tc, .int tn])), (tp, .inl (cI, 8, .inl ftp)), (tc, .inl (cI, 8, .inl ftc)), (dr, .inr (2, [.ref dp, .ref dc, .int (nI n)])), (dp, .inl (cI, 8, .inl fp)), (dc, .inl (cI, 8, .inl fc))] sz) := by
  refine Met.ofW (cc := cX2_copyWithout) (maxL := 5) (ret := none) (by decide) rfl ?_
  intro p e s m args below meth c s₁ B hml hv
  obtain ⟨rfl, hsz, hP, hK, hD0, hN⟩ := hv
  subst hsz
  have hx := B.exec
  have hb := B.bytes
  have hr := B.returns
  have hts := atoms_spec (ws := wsX2_copyWithout) B.pre
  have hown : s.vm.findClass RX2 = some m.cls := findClass_of_methodNamed B.named
  have hlocks := B.notSynchronized
  have hD := hD0.self (sz := s.heap.size)
  generalize hAe : va_A [(th, .inr (2, [.ref tp, .ref tc, .int tn])), (tp, .inl (cI, 8, .inl ftp)), (tc, .inl (cI, 8, .inl ftc)), (dr, .inr (2, [.ref dp, .ref dc, .int (nI n)])), (dp, .inl (cI, 8, .inl fp)), (dc, .inl (cI, 8, .inl fc))] s.heap.size = A at hD ⊢
  have hA : ∀ q : Nat, s.heap.size ≤ q → A q := fun q h => by rw [← hAe]; exact Or.inr h
  have hS : va_S A s.heap s.heap [] := va_S.rf
  have hiX2 : ∀ w ∈ u_ws RX2 TX2 3, w ∈ wsX2_copyWithout := by decide +kernel
  have hl := lv_entry ([.ref th, .ref dr, .int (nI i), .int p2]) (n := 5) (Nat.le_of_ble_eq_true rfl)
  rw [lg_entry_eq]
  generalize (lg_sl ([.ref th, .ref dr, .int (nI i), .int p2]) ++ List.replicate (5 - (lg_sl ([.ref th, .ref dr, .int (nI i), .int p2])).length) Slot.unset).toArray = ls at hl ⊢
  have hl : lv_has ls 5 [(0, .ref th), (1, .ref dr), (2, .int (nI i)), (3, .int p2)] := hl
  refine lv_aload_n hx hb dX2_copyWithout_0 rfl (lv_at hl 0 rfl) ?_
  refine lv_aload_n hx hb dX2_copyWithout_1 rfl (lv_at hl 1 rfl) ?_
  refine va_get (D := (dC, dI)) (ci := 2) (v := .int (nI n)) (C := RX2) (T := TX2) (N := 3) hx hb hts hiX2 hown hK hP 3 rfl rfl 2 (by decide) (hts (.fieldLink RX2 18 "MadeItSo$Drawing" "things" "I") (by decide +kernel)) (fun _ h9 => h9) rfl dX2_copyWithout_2 ?_
  refine va_put (D := (dC, dI)) (ci := 2) (v := .int (nI n)) (ty := .int) (C := RX2) (T := TX2) (N := 3) hx hb hts hiX2 tyX2 tyX2_ok nmX2 hown hK hP hD hS 0 rfl rfl 2 (by decide) (hts (.fieldLink RX2 18 "MadeItSo$Drawing" "things" "I") (by decide +kernel)) (fun _ h9 => h9) rfl (by decide +kernel) rfl rfl (Nat.le_of_ble_eq_true rfl) dX2_copyWithout_5 (fun H locs hP hD hS => ?_)
  have hP : va_P (dC, dI) vwCl [(th, .inr (2, [.ref tp, .ref tc, .int (nI n)])), (tp, .inl (cI, 8, .inl ftp)), (tc, .inl (cI, 8, .inl ftc)), (dr, .inr (2, [.ref dp, .ref dc, .int (nI n)])), (dp, .inl (cI, 8, .inl fp)), (dc, .inl (cI, 8, .inl fc))] H := hP
  have hD : va_D A [(th, .inr (2, [.ref tp, .ref tc, .int (nI n)])), (tp, .inl (cI, 8, .inl ftp)), (tc, .inl (cI, 8, .inl ftc)), (dr, .inr (2, [.ref dp, .ref dc, .int (nI n)])), (dp, .inl (cI, 8, .inl fp)), (dc, .inl (cI, 8, .inl fc))] := hD
  refine lv_iconst (v := 0) hx hb dX2_copyWithout_8 (by decide +kernel) ?_
  refine lv_istore (lv' := [(4, .int 0), (0, .ref th), (1, .ref dr), (2, .int (nI i)), (3, .int p2)]) hx hb dX2_copyWithout_9 hl (by decide) rfl (fun ls hl => ?_)
  refine mz_loopU (fun k H locs ls => ∃ (i_11 : Nat), ∃ (ftp_11 : Nat → Int32), ∃ (ftc_11 : Nat → Int32), i_11 ≤ 8 ∧ (∀ k, k < i_11 → ftp_11 k = mz_pwo fp (nI i) p2 k) ∧ (∀ k, k < i_11 → ftc_11 k = mz_tc fc i p2 k) ∧ va_P (dC, dI) vwCl [(th, .inr (2, [.ref tp, .ref tc, .int (nI n)])), (tp, .inl (cI, 8, .inl ftp_11)), (tc, .inl (cI, 8, .inl ftc_11)), (dr, .inr (2, [.ref dp, .ref dc, .int (nI n)])), (dp, .inl (cI, 8, .inl fp)), (dc, .inl (cI, 8, .inl fc))] H ∧ va_D A [(th, .inr (2, [.ref tp, .ref tc, .int (nI n)])), (tp, .inl (cI, 8, .inl ftp_11)), (tc, .inl (cI, 8, .inl ftc_11)), (dr, .inr (2, [.ref dp, .ref dc, .int (nI n)])), (dp, .inl (cI, 8, .inl fp)), (dc, .inl (cI, 8, .inl fc))] ∧ va_S A s.heap H locs ∧ lv_has ls 5 [(4, .int (nI i_11)), (0, .ref th), (1, .ref dr), (2, .int (nI i)), (3, .int p2)] ∧ k = 8 - i_11) ?_ _ _ _ _ ⟨0, ftp, ftc, by omega, (fun k hk => absurd hk (Nat.not_lt_zero k)), (fun k hk => absurd hk (Nat.not_lt_zero k)), hP, hD, hS, lv_sub hl [0, 1, 2, 3, 4] rfl, rfl⟩
  intro k_11 H locs ls hI_11 ih_11
  obtain ⟨i_11, ftp_11, ftc_11, hi_11, h1_11, h2_11, hP, hD, hS, hl, hk_11⟩ := hI_11
  refine lv_iload hx hb dX2_copyWithout_11 (lv_at hl 0 rfl) ?_
  refine lv_bipush (v := 8) hx hb dX2_copyWithout_13 (by decide +kernel) ?_
  refine lv_icmp_ge (tgt := 98) hx hb dX2_copyWithout_15 (by decide) (fun c_15 => ?_) (fun c_15 => ?_)
  · skip
    have d_15 : 8 ≤ i_11 := (nI_leI (a := 8) (b := i_11) (by omega) (by omega)).mp c_15
    have hP9 := hP.sub (ws' := [(th, .inr (2, [.ref tp, .ref tc, .int (nI n)])), (tp, .inl (cI, 8, .inl ftp_11)), (tc, .inl (cI, 8, .inl ftc_11)), (dr, .inr (2, [.ref dp, .ref dc, .int (nI n)])), (dp, .inl (cI, 8, .inl fp)), (dc, .inl (cI, 8, .inl fc))]) [0, 1, 2, 3, 4, 5] rfl
    have hD9 := hD.sub (ws' := [(th, .inr (2, [.ref tp, .ref tc, .int (nI n)])), (tp, .inl (cI, 8, .inl ftp_11)), (tc, .inl (cI, 8, .inl ftc_11)), (dr, .inr (2, [.ref dp, .ref dc, .int (nI n)])), (dp, .inl (cI, 8, .inl fp)), (dc, .inl (cI, 8, .inl fc))]) [0, 1, 2, 3, 4, 5] (by decide) rfl
    refine W.widen (k := 0) (n := 0) (Nat.le_of_ble_eq_true rfl) (Nat.le_of_ble_eq_true rfl) ?_
    exact W.vret hx hb hr (fun t ht hW => ⟨⟨(), rfl, trivial, ftp_11, ftc_11, (fun k hk => h1_11 k (by omega)), (fun k hk => h2_11 k (by omega)), by rw [ht]; exact hP9, hD9⟩, hS.F ht⟩) hS.2.2 dX2_copyWithout_98
  · skip
    have d_15 : ¬ 8 ≤ i_11 := fun h => c_15 ((nI_leI (a := 8) (b := i_11) (by omega) (by omega)).mpr h)
    refine lv_aload_n hx hb dX2_copyWithout_18 rfl (lv_at hl 1 rfl) ?_
    refine va_get (D := (dC, dI)) (ci := 2) (v := .ref tp) (C := RX2) (T := TX2) (N := 3) hx hb hts hiX2 hown hK hP 0 rfl rfl 0 (by decide) (hts (.fieldLink RX2 9 "MadeItSo$Drawing" "parents" "[I") (by decide +kernel)) (fun _ h9 => h9) rfl dX2_copyWithout_19 ?_
    refine lv_iload hx hb dX2_copyWithout_22 (lv_at hl 0 rfl) ?_
    refine lv_iload_n hx hb dX2_copyWithout_24 rfl (lv_at hl 4 rfl) ?_
    refine lv_iload hx hb dX2_copyWithout_25 (lv_at hl 0 rfl) ?_
    have hPc := hP.sub (ws' := []) [] rfl
    refine va_calli (va_runSN (As := [.int p2, .int (nI i_11)]) (rest := [.int (nI i_11), .ref tp]) ⟨hx, hb, hml, hown, hts⟩ (mz_e_inHeap l dC dI cI cJ cZ p2 i_11 H (by first | assumption | omega)) ⟨va_cnB (host := "MadeItSo") 2 hts gX2_copyWithout_X7_inHeap_n26 rfl rfl rfl (hN (RX2, 26, yX7_inHeap, "MadeItSo") (by decide +kernel)) (hts (.initialized RX7) (by decide +kernel)) (by decide +kernel) ⟨Nat.le_of_ble_eq_true rfl, Nat.le_of_ble_eq_true rfl⟩, hts (.static yX7_inHeap) (by decide +kernel), trivial⟩ ⟨fun a U g mk q => mz_blP q, fun U hU hW => ⟨rfl, hU, hPc, va_K.moved hW.alike hK, mz_nw hW hN⟩⟩ rfl rfl hl.1 rfl (lv_room (Nat.le_of_ble_eq_true rfl)) dX2_copyWithout_27 ⟨Nat.le_of_ble_eq_true rfl, Nat.le_of_ble_eq_true rfl⟩) hS (fun q _ h => h.elim) (fun q h => h.elim) (fun r_27 u t H1 locs ht hvm hw_27 hB hz1 hk1 hS => ?_)
    have hE : H = H1 := hB.symm.trans ht
    subst hE
    rcases (show (r_27 = 1 ∧ mz_t p2 i_11 = true) ∨ (r_27 = 0 ∧ mz_t p2 i_11 = false) from hw_27) with ⟨rfl, ht_27⟩ | ⟨rfl, ht_27⟩
    · skip
      refine lv_if_eq (tgt := 50) hx hb dX2_copyWithout_30 (by decide) (fun c_30 => absurd c_30 (by decide +kernel)) (fun _ => ?_)
      refine lv_aload_n hx hb dX2_copyWithout_33 rfl (lv_at hl 2 rfl) ?_
      refine va_get (D := (dC, dI)) (ci := 2) (v := .ref dp) (C := RX2) (T := TX2) (N := 3) hx hb hts hiX2 hown hK hP 3 rfl rfl 0 (by decide) (hts (.fieldLink RX2 9 "MadeItSo$Drawing" "parents" "[I") (by decide +kernel)) (fun _ h9 => h9) rfl dX2_copyWithout_34 ?_
      refine lv_iload hx hb dX2_copyWithout_37 (lv_at hl 0 rfl) ?_
      refine va_iald hx hb hK hP 4 0 rfl rfl (vp_in_nI (by omega) (by omega)) dX2_copyWithout_39 ?_
      refine mz_ti (y := (fp i_11)) (by rw [mz_cl (by omega)]) ?_
      refine lv_iload_n hx hb dX2_copyWithout_40 rfl (lv_at hl 3 rfl) ?_
      have hPc := hP.sub (ws' := []) [] rfl
      refine va_calli (va_runSN (As := [.int (nI i)]) (rest := [.int (fp i_11), .int (nI i_11), .ref tp]) ⟨hx, hb, hml, hown, hts⟩ (mz_g_bit l dC dI cI cJ cZ (nI i) H ) ⟨va_cnB (host := "MadeItSo") 1 hts gX2_copyWithout_X7_bit_n37 rfl rfl rfl (hN (RX2, 37, yX7_bit, "MadeItSo") (by decide +kernel)) (hts (.initialized RX7) (by decide +kernel)) (by decide +kernel) ⟨Nat.le_of_ble_eq_true rfl, Nat.le_of_ble_eq_true rfl⟩, hts (.static yX7_bit) (by decide +kernel), trivial⟩ ⟨fun a U g mk q => mz_blP q, fun U hU hW => ⟨rfl, hU, hPc, va_K.moved hW.alike hK, mz_nw hW hN⟩⟩ rfl rfl hl.1 rfl (lv_room (Nat.le_of_ble_eq_true rfl)) dX2_copyWithout_41 ⟨Nat.le_of_ble_eq_true rfl, Nat.le_of_ble_eq_true rfl⟩) hS (fun q _ h => h.elim) (fun q h => h.elim) (fun r_41 u t H1 locs ht hvm hw_41 hB hz1 hk1 hS => ?_)
      have hE : H = H1 := hB.symm.trans ht
      subst hE
      obtain rfl : r_41 = (1 <<< ((nI i) &&& 31)) := hw_41
      refine lv_iconst (v := (-1)) hx hb dX2_copyWithout_44 (by decide +kernel) ?_
      refine lv_ixor hx hb dX2_copyWithout_45 ?_
      refine lv_iand hx hb dX2_copyWithout_46 ?_
      refine lv_goto (tgt := 57) hx hb dX2_copyWithout_47 (by decide) ?_
      refine va_iast hx hb hK hP hD hS 1 0 rfl rfl (vp_in_nI (by omega) (by omega)) dX2_copyWithout_57 (fun H locs hP hD hS => ?_)
      rw [mz_cl (n := i_11) (by omega)] at hP hD
      have hP : va_P (dC, dI) vwCl [(th, .inr (2, [.ref tp, .ref tc, .int (nI n)])), (tp, .inl (cI, 8, .inl (upd ftp_11 i_11 ((fp i_11) &&& ((1 <<< ((nI i) &&& 31)) ^^^ (-1)))))), (tc, .inl (cI, 8, .inl ftc_11)), (dr, .inr (2, [.ref dp, .ref dc, .int (nI n)])), (dp, .inl (cI, 8, .inl fp)), (dc, .inl (cI, 8, .inl fc))] H := hP
      have hD : va_D A [(th, .inr (2, [.ref tp, .ref tc, .int (nI n)])), (tp, .inl (cI, 8, .inl (upd ftp_11 i_11 ((fp i_11) &&& ((1 <<< ((nI i) &&& 31)) ^^^ (-1)))))), (tc, .inl (cI, 8, .inl ftc_11)), (dr, .inr (2, [.ref dp, .ref dc, .int (nI n)])), (dp, .inl (cI, 8, .inl fp)), (dc, .inl (cI, 8, .inl fc))] := hD
      refine lv_aload_n hx hb dX2_copyWithout_58 rfl (lv_at hl 1 rfl) ?_
      refine va_get (D := (dC, dI)) (ci := 2) (v := .ref tc) (C := RX2) (T := TX2) (N := 3) hx hb hts hiX2 hown hK hP 0 rfl rfl 1 (by decide) (hts (.fieldLink RX2 15 "MadeItSo$Drawing" "children" "[I") (by decide +kernel)) (fun _ h9 => h9) rfl dX2_copyWithout_59 ?_
      refine lv_iload hx hb dX2_copyWithout_62 (lv_at hl 0 rfl) ?_
      refine lv_iload hx hb dX2_copyWithout_64 (lv_at hl 0 rfl) ?_
      refine lv_iload_n hx hb dX2_copyWithout_66 rfl (lv_at hl 3 rfl) ?_
      refine lv_icmp_ne (tgt := 84) hx hb dX2_copyWithout_67 (by decide) (fun c_67 => ?_) (fun c_67 => ?_)
      · skip
        have d_67 : ¬ i_11 = i := fun h => c_67 ((nI_eq (a := i_11) (b := i) (by omega) (by omega)).mpr h)
        refine lv_aload_n hx hb dX2_copyWithout_84 rfl (lv_at hl 2 rfl) ?_
        refine va_get (D := (dC, dI)) (ci := 2) (v := .ref dc) (C := RX2) (T := TX2) (N := 3) hx hb hts hiX2 hown hK hP 3 rfl rfl 1 (by decide) (hts (.fieldLink RX2 15 "MadeItSo$Drawing" "children" "[I") (by decide +kernel)) (fun _ h9 => h9) rfl dX2_copyWithout_85 ?_
        refine lv_iload hx hb dX2_copyWithout_88 (lv_at hl 0 rfl) ?_
        refine va_iald hx hb hK hP 5 0 rfl rfl (vp_in_nI (by omega) (by omega)) dX2_copyWithout_90 ?_
        refine mz_ti (y := (fc i_11)) (by rw [mz_cl (by omega)]) ?_
        refine va_iast hx hb hK hP hD hS 2 0 rfl rfl (vp_in_nI (by omega) (by omega)) dX2_copyWithout_91 (fun H locs hP hD hS => ?_)
        rw [mz_cl (n := i_11) (by omega)] at hP hD
        have hP : va_P (dC, dI) vwCl [(th, .inr (2, [.ref tp, .ref tc, .int (nI n)])), (tp, .inl (cI, 8, .inl (upd ftp_11 i_11 ((fp i_11) &&& ((1 <<< ((nI i) &&& 31)) ^^^ (-1)))))), (tc, .inl (cI, 8, .inl (upd ftc_11 i_11 (fc i_11)))), (dr, .inr (2, [.ref dp, .ref dc, .int (nI n)])), (dp, .inl (cI, 8, .inl fp)), (dc, .inl (cI, 8, .inl fc))] H := hP
        have hD : va_D A [(th, .inr (2, [.ref tp, .ref tc, .int (nI n)])), (tp, .inl (cI, 8, .inl (upd ftp_11 i_11 ((fp i_11) &&& ((1 <<< ((nI i) &&& 31)) ^^^ (-1)))))), (tc, .inl (cI, 8, .inl (upd ftc_11 i_11 (fc i_11)))), (dr, .inr (2, [.ref dp, .ref dc, .int (nI n)])), (dp, .inl (cI, 8, .inl fp)), (dc, .inl (cI, 8, .inl fc))] := hD
        refine lv_iinc (v := (nI (i_11 + 1))) (lv' := [(4, .int (nI (i_11 + 1))), (0, .ref th), (1, .ref dr), (2, .int (nI i)), (3, .int p2)]) hx hb dX2_copyWithout_92 hl (k := 0) rfl (nI_1 _) (by decide) rfl (fun ls hl => ?_)
        refine lv_goto (tgt := 11) hx hb dX2_copyWithout_95 (by decide) ?_
        exact ih_11 _ (by omega) _ _ _ ⟨(i_11 + 1), (upd ftp_11 i_11 ((fp i_11) &&& ((1 <<< ((nI i) &&& 31)) ^^^ (-1)))), (upd ftc_11 i_11 (fc i_11)), by omega, (mz_thp_s h1_11 (mz_pwo_y ht_27)), (mz_thc_s h2_11 (mz_tc_0 d_67)), hP, hD, hS, lv_sub hl [0, 1, 2, 3, 4] rfl, rfl⟩
      · skip
        have d_67 : i_11 = i := (nI_eq (a := i_11) (b := i) (by omega) (by omega)).mp c_67
        refine lv_aload_n hx hb dX2_copyWithout_70 rfl (lv_at hl 2 rfl) ?_
        refine va_get (D := (dC, dI)) (ci := 2) (v := .ref dc) (C := RX2) (T := TX2) (N := 3) hx hb hts hiX2 hown hK hP 3 rfl rfl 1 (by decide) (hts (.fieldLink RX2 15 "MadeItSo$Drawing" "children" "[I") (by decide +kernel)) (fun _ h9 => h9) rfl dX2_copyWithout_71 ?_
        refine lv_iload hx hb dX2_copyWithout_74 (lv_at hl 0 rfl) ?_
        refine va_iald hx hb hK hP 5 0 rfl rfl (vp_in_nI (by omega) (by omega)) dX2_copyWithout_76 ?_
        refine mz_ti (y := (fc i_11)) (by rw [mz_cl (by omega)]) ?_
        refine lv_iload_n hx hb dX2_copyWithout_77 rfl (lv_at hl 4 rfl) ?_
        refine lv_iconst (v := (-1)) hx hb dX2_copyWithout_78 (by decide +kernel) ?_
        refine lv_ixor hx hb dX2_copyWithout_79 ?_
        refine lv_iand hx hb dX2_copyWithout_80 ?_
        refine lv_goto (tgt := 91) hx hb dX2_copyWithout_81 (by decide) ?_
        refine va_iast hx hb hK hP hD hS 2 0 rfl rfl (vp_in_nI (by omega) (by omega)) dX2_copyWithout_91 (fun H locs hP hD hS => ?_)
        rw [mz_cl (n := i_11) (by omega)] at hP hD
        have hP : va_P (dC, dI) vwCl [(th, .inr (2, [.ref tp, .ref tc, .int (nI n)])), (tp, .inl (cI, 8, .inl (upd ftp_11 i_11 ((fp i_11) &&& ((1 <<< ((nI i) &&& 31)) ^^^ (-1)))))), (tc, .inl (cI, 8, .inl (upd ftc_11 i_11 ((fc i_11) &&& (p2 ^^^ (-1)))))), (dr, .inr (2, [.ref dp, .ref dc, .int (nI n)])), (dp, .inl (cI, 8, .inl fp)), (dc, .inl (cI, 8, .inl fc))] H := hP
        have hD : va_D A [(th, .inr (2, [.ref tp, .ref tc, .int (nI n)])), (tp, .inl (cI, 8, .inl (upd ftp_11 i_11 ((fp i_11) &&& ((1 <<< ((nI i) &&& 31)) ^^^ (-1)))))), (tc, .inl (cI, 8, .inl (upd ftc_11 i_11 ((fc i_11) &&& (p2 ^^^ (-1)))))), (dr, .inr (2, [.ref dp, .ref dc, .int (nI n)])), (dp, .inl (cI, 8, .inl fp)), (dc, .inl (cI, 8, .inl fc))] := hD
        refine lv_iinc (v := (nI (i_11 + 1))) (lv' := [(4, .int (nI (i_11 + 1))), (0, .ref th), (1, .ref dr), (2, .int (nI i)), (3, .int p2)]) hx hb dX2_copyWithout_92 hl (k := 0) rfl (nI_1 _) (by decide) rfl (fun ls hl => ?_)
        refine lv_goto (tgt := 11) hx hb dX2_copyWithout_95 (by decide) ?_
        exact ih_11 _ (by omega) _ _ _ ⟨(i_11 + 1), (upd ftp_11 i_11 ((fp i_11) &&& ((1 <<< ((nI i) &&& 31)) ^^^ (-1)))), (upd ftc_11 i_11 ((fc i_11) &&& (p2 ^^^ (-1)))), by omega, (mz_thp_s h1_11 (mz_pwo_y ht_27)), (mz_thc_s h2_11 (mz_tc_1 d_67)), hP, hD, hS, lv_sub hl [0, 1, 2, 3, 4] rfl, rfl⟩
    · skip
      refine lv_if_eq (tgt := 50) hx hb dX2_copyWithout_30 (by decide) (fun _ => ?_) (fun c_30 => absurd (by decide +kernel) c_30)
      refine lv_aload_n hx hb dX2_copyWithout_50 rfl (lv_at hl 2 rfl) ?_
      refine va_get (D := (dC, dI)) (ci := 2) (v := .ref dp) (C := RX2) (T := TX2) (N := 3) hx hb hts hiX2 hown hK hP 3 rfl rfl 0 (by decide) (hts (.fieldLink RX2 9 "MadeItSo$Drawing" "parents" "[I") (by decide +kernel)) (fun _ h9 => h9) rfl dX2_copyWithout_51 ?_
      refine lv_iload hx hb dX2_copyWithout_54 (lv_at hl 0 rfl) ?_
      refine va_iald hx hb hK hP 4 0 rfl rfl (vp_in_nI (by omega) (by omega)) dX2_copyWithout_56 ?_
      refine mz_ti (y := (fp i_11)) (by rw [mz_cl (by omega)]) ?_
      refine va_iast hx hb hK hP hD hS 1 0 rfl rfl (vp_in_nI (by omega) (by omega)) dX2_copyWithout_57 (fun H locs hP hD hS => ?_)
      rw [mz_cl (n := i_11) (by omega)] at hP hD
      have hP : va_P (dC, dI) vwCl [(th, .inr (2, [.ref tp, .ref tc, .int (nI n)])), (tp, .inl (cI, 8, .inl (upd ftp_11 i_11 (fp i_11)))), (tc, .inl (cI, 8, .inl ftc_11)), (dr, .inr (2, [.ref dp, .ref dc, .int (nI n)])), (dp, .inl (cI, 8, .inl fp)), (dc, .inl (cI, 8, .inl fc))] H := hP
      have hD : va_D A [(th, .inr (2, [.ref tp, .ref tc, .int (nI n)])), (tp, .inl (cI, 8, .inl (upd ftp_11 i_11 (fp i_11)))), (tc, .inl (cI, 8, .inl ftc_11)), (dr, .inr (2, [.ref dp, .ref dc, .int (nI n)])), (dp, .inl (cI, 8, .inl fp)), (dc, .inl (cI, 8, .inl fc))] := hD
      refine lv_aload_n hx hb dX2_copyWithout_58 rfl (lv_at hl 1 rfl) ?_
      refine va_get (D := (dC, dI)) (ci := 2) (v := .ref tc) (C := RX2) (T := TX2) (N := 3) hx hb hts hiX2 hown hK hP 0 rfl rfl 1 (by decide) (hts (.fieldLink RX2 15 "MadeItSo$Drawing" "children" "[I") (by decide +kernel)) (fun _ h9 => h9) rfl dX2_copyWithout_59 ?_
      refine lv_iload hx hb dX2_copyWithout_62 (lv_at hl 0 rfl) ?_
      refine lv_iload hx hb dX2_copyWithout_64 (lv_at hl 0 rfl) ?_
      refine lv_iload_n hx hb dX2_copyWithout_66 rfl (lv_at hl 3 rfl) ?_
      refine lv_icmp_ne (tgt := 84) hx hb dX2_copyWithout_67 (by decide) (fun c_67 => ?_) (fun c_67 => ?_)
      · skip
        have d_67 : ¬ i_11 = i := fun h => c_67 ((nI_eq (a := i_11) (b := i) (by omega) (by omega)).mpr h)
        refine lv_aload_n hx hb dX2_copyWithout_84 rfl (lv_at hl 2 rfl) ?_
        refine va_get (D := (dC, dI)) (ci := 2) (v := .ref dc) (C := RX2) (T := TX2) (N := 3) hx hb hts hiX2 hown hK hP 3 rfl rfl 1 (by decide) (hts (.fieldLink RX2 15 "MadeItSo$Drawing" "children" "[I") (by decide +kernel)) (fun _ h9 => h9) rfl dX2_copyWithout_85 ?_
        refine lv_iload hx hb dX2_copyWithout_88 (lv_at hl 0 rfl) ?_
        refine va_iald hx hb hK hP 5 0 rfl rfl (vp_in_nI (by omega) (by omega)) dX2_copyWithout_90 ?_
        refine mz_ti (y := (fc i_11)) (by rw [mz_cl (by omega)]) ?_
        refine va_iast hx hb hK hP hD hS 2 0 rfl rfl (vp_in_nI (by omega) (by omega)) dX2_copyWithout_91 (fun H locs hP hD hS => ?_)
        rw [mz_cl (n := i_11) (by omega)] at hP hD
        have hP : va_P (dC, dI) vwCl [(th, .inr (2, [.ref tp, .ref tc, .int (nI n)])), (tp, .inl (cI, 8, .inl (upd ftp_11 i_11 (fp i_11)))), (tc, .inl (cI, 8, .inl (upd ftc_11 i_11 (fc i_11)))), (dr, .inr (2, [.ref dp, .ref dc, .int (nI n)])), (dp, .inl (cI, 8, .inl fp)), (dc, .inl (cI, 8, .inl fc))] H := hP
        have hD : va_D A [(th, .inr (2, [.ref tp, .ref tc, .int (nI n)])), (tp, .inl (cI, 8, .inl (upd ftp_11 i_11 (fp i_11)))), (tc, .inl (cI, 8, .inl (upd ftc_11 i_11 (fc i_11)))), (dr, .inr (2, [.ref dp, .ref dc, .int (nI n)])), (dp, .inl (cI, 8, .inl fp)), (dc, .inl (cI, 8, .inl fc))] := hD
        refine lv_iinc (v := (nI (i_11 + 1))) (lv' := [(4, .int (nI (i_11 + 1))), (0, .ref th), (1, .ref dr), (2, .int (nI i)), (3, .int p2)]) hx hb dX2_copyWithout_92 hl (k := 0) rfl (nI_1 _) (by decide) rfl (fun ls hl => ?_)
        refine lv_goto (tgt := 11) hx hb dX2_copyWithout_95 (by decide) ?_
        exact ih_11 _ (by omega) _ _ _ ⟨(i_11 + 1), (upd ftp_11 i_11 (fp i_11)), (upd ftc_11 i_11 (fc i_11)), by omega, (mz_thp_s h1_11 (mz_pwo_n ht_27)), (mz_thc_s h2_11 (mz_tc_0 d_67)), hP, hD, hS, lv_sub hl [0, 1, 2, 3, 4] rfl, rfl⟩
      · skip
        have d_67 : i_11 = i := (nI_eq (a := i_11) (b := i) (by omega) (by omega)).mp c_67
        refine lv_aload_n hx hb dX2_copyWithout_70 rfl (lv_at hl 2 rfl) ?_
        refine va_get (D := (dC, dI)) (ci := 2) (v := .ref dc) (C := RX2) (T := TX2) (N := 3) hx hb hts hiX2 hown hK hP 3 rfl rfl 1 (by decide) (hts (.fieldLink RX2 15 "MadeItSo$Drawing" "children" "[I") (by decide +kernel)) (fun _ h9 => h9) rfl dX2_copyWithout_71 ?_
        refine lv_iload hx hb dX2_copyWithout_74 (lv_at hl 0 rfl) ?_
        refine va_iald hx hb hK hP 5 0 rfl rfl (vp_in_nI (by omega) (by omega)) dX2_copyWithout_76 ?_
        refine mz_ti (y := (fc i_11)) (by rw [mz_cl (by omega)]) ?_
        refine lv_iload_n hx hb dX2_copyWithout_77 rfl (lv_at hl 4 rfl) ?_
        refine lv_iconst (v := (-1)) hx hb dX2_copyWithout_78 (by decide +kernel) ?_
        refine lv_ixor hx hb dX2_copyWithout_79 ?_
        refine lv_iand hx hb dX2_copyWithout_80 ?_
        refine lv_goto (tgt := 91) hx hb dX2_copyWithout_81 (by decide) ?_
        refine va_iast hx hb hK hP hD hS 2 0 rfl rfl (vp_in_nI (by omega) (by omega)) dX2_copyWithout_91 (fun H locs hP hD hS => ?_)
        rw [mz_cl (n := i_11) (by omega)] at hP hD
        have hP : va_P (dC, dI) vwCl [(th, .inr (2, [.ref tp, .ref tc, .int (nI n)])), (tp, .inl (cI, 8, .inl (upd ftp_11 i_11 (fp i_11)))), (tc, .inl (cI, 8, .inl (upd ftc_11 i_11 ((fc i_11) &&& (p2 ^^^ (-1)))))), (dr, .inr (2, [.ref dp, .ref dc, .int (nI n)])), (dp, .inl (cI, 8, .inl fp)), (dc, .inl (cI, 8, .inl fc))] H := hP
        have hD : va_D A [(th, .inr (2, [.ref tp, .ref tc, .int (nI n)])), (tp, .inl (cI, 8, .inl (upd ftp_11 i_11 (fp i_11)))), (tc, .inl (cI, 8, .inl (upd ftc_11 i_11 ((fc i_11) &&& (p2 ^^^ (-1)))))), (dr, .inr (2, [.ref dp, .ref dc, .int (nI n)])), (dp, .inl (cI, 8, .inl fp)), (dc, .inl (cI, 8, .inl fc))] := hD
        refine lv_iinc (v := (nI (i_11 + 1))) (lv' := [(4, .int (nI (i_11 + 1))), (0, .ref th), (1, .ref dr), (2, .int (nI i)), (3, .int p2)]) hx hb dX2_copyWithout_92 hl (k := 0) rfl (nI_1 _) (by decide) rfl (fun ls hl => ?_)
        refine lv_goto (tgt := 11) hx hb dX2_copyWithout_95 (by decide) ?_
        exact ih_11 _ (by omega) _ _ _ ⟨(i_11 + 1), (upd ftp_11 i_11 (fp i_11)), (upd ftc_11 i_11 ((fc i_11) &&& (p2 ^^^ (-1)))), by omega, (mz_thp_s h1_11 (mz_pwo_n ht_27)), (mz_thc_s h2_11 (mz_tc_1 d_67)), hP, hD, hS, lv_sub hl [0, 1, 2, 3, 4] rfl, rfl⟩
set_option maxHeartbeats 1000000 in
set_option maxRecDepth 100000 in
theorem mz_u_x_fit (l : Launch) (dC : Nat → ClassId) (dI : Nat → Nat → Nat) (cI cJ cZ : ClassId) (mx : Nat) (dr : Nat) (th : Nat) (bk : Nat) (wt : Nat) (tt : Nat) (lh : Nat) (la : Nat) (sh : Int32) (ab : Int64) (be : Int64) (dp : Nat) (dc : Nat) (n : Nat) (fp : Nat → Int32) (fc : Nat → Int32) (tp : Nat) (tc : Nat) (tn : Int32) (ftp : Nat → Int32) (ftc : Nat → Int32) (i : Nat) (j : Nat) (p3 : Int32) (FQ : Prop) (sz : Nat) (hn : n ≤ 8) (hi : i < n) (hj : j < n) (hne : ¬ i = j) (hp8 : ∀ k, k < 8 → ∀ j, j < 32 → mz_t (fp k) j = true → j < 8) (hf8 : ∀ k, k < 8 → ∀ j, j < 32 → mz_t (fc k) j = true → j < 8) (hZ : mz_hp n p3) (hzs : p3 &&& (sh ^^^ (-1)) = 0) (hzi : mz_t p3 i = false) (hzj : mz_t p3 j = false) (hfA : mz_fA fp fc i j p3 FQ) (hfB : mz_fB fp fc i j p3 FQ) : Met l yX7_fit wsX7_fit ({ frames := 6, cells := 0, slots := 0, locals := 133 }) (va_Pc [.ref mx, .int (nI i), .int (nI j), .int p3] (fun U => U.heap.size = sz ∧ va_P (dC, dI) vwCl [(mx, .inr (7, [.ref dr, .ref th, .ref bk, .ref wt, .ref tt, .ref lh, .ref la, .int sh, .long ab, .long be])), (dr, .inr (2, [.ref dp, .ref dc, .int (nI n)])), (dp, .inl (cI, 8, .inl fp)), (dc, .inl (cI, 8, .inl fc)), (th, .inr (2, [.ref tp, .ref tc, .int tn])), (tp, .inl (cI, 8, .inl ftp)), (tc, .inl (cI, 8, .inl ftc))] U.heap ∧ va_K (dC, dI) vwCl [(cI, FieldType.int), (cJ, FieldType.long), (cZ, FieldType.boolean)] U ∧ va_D (fun _ => True) [(mx, .inr (7, [.ref dr, .ref th, .ref bk, .ref wt, .ref tt, .ref lh, .ref la, .int sh, .long ab, .long be])), (dr, .inr (2, [.ref dp, .ref dc, .int (nI n)])), (dp, .inl (cI, 8, .inl fp)), (dc, .inl (cI, 8, .inl fc)), (th, .inr (2, [.ref tp, .ref tc, .int tn])), (tp, .inl (cI, 8, .inl ftp)), (tc, .inl (cI, 8, .inl ftc))] ∧ mz_N U)) (va_Qi (fun (r : Int32) (_ : Unit) => (r = 1 ∧ FQ) ∨ (r = 0 ∧ ¬ FQ)) (fun _ t => ∃ (gtn : Int32), ∃ (gtp : Nat → Int32), ∃ (gtc : Nat → Int32), va_P (dC, dI) vwCl [(mx, .inr (7, [.ref dr, .ref th, .ref bk, .ref wt, .ref tt, .ref lh, .ref la, .int sh, .long ab, .long be])), (dr, .inr (2, [.ref dp, .ref dc, .int (nI n)])), (dp, .inl (cI, 8, .inl fp)), (dc, .inl (cI, 8, .inl fc)), (th, .inr (2, [.ref tp, .ref tc, .int gtn])), (tp, .inl (cI, 8, .inl gtp)), (tc, .inl (cI, 8, .inl gtc))] t.heap ∧ va_D (va_A [(mx, .inr (7, [.ref dr, .ref th, .ref bk, .ref wt, .ref tt, .ref lh, .ref la, .int sh, .long ab, .long be])), (dr, .inr (2, [.ref dp, .ref dc, .int (nI n)])), (dp, .inl (cI, 8, .inl fp)), (dc, .inl (cI, 8, .inl fc)), (th, .inr (2, [.ref tp, .ref tc, .int tn])), (tp, .inl (cI, 8, .inl ftp)), (tc, .inl (cI, 8, .inl ftc))] sz) [(mx, .inr (7, [.ref dr, .ref th, .ref bk, .ref wt, .ref tt, .ref lh, .ref la, .int sh, .long ab, .long be])), (dr, .inr (2, [.ref dp, .ref dc, .int (nI n)])), (dp, .inl (cI, 8, .inl fp)), (dc, .inl (cI, 8, .inl fc)), (th, .inr (2, [.ref tp, .ref tc, .int gtn])), (tp, .inl (cI, 8, .inl gtp)), (tc, .inl (cI, 8, .inl gtc))]) (va_A [(mx, .inr (7, [.ref dr, .ref th, .ref bk, .ref wt, .ref tt, .ref lh, .ref la, .int sh, .long ab, .long be])), (dr, .inr (2, [.ref dp, .ref dc, .int (nI n)])), (dp, .inl (cI, 8, .inl fp)), (dc, .inl (cI, 8, .inl fc)), (th, .inr (2, [.ref tp, .ref tc, .int tn])), (tp, .inl (cI, 8, .inl ftp)), (tc, .inl (cI, 8, .inl ftc))] sz)) 0 0 (va_A [(mx, .inr (7, [.ref dr, .ref th, .ref bk, .ref wt, .ref tt, .ref lh, .ref la, .int sh, .long ab, .long be])), (dr, .inr (2, [.ref dp, .ref dc, .int (nI n)])), (dp, .inl (cI, 8, .inl fp)), (dc, .inl (cI, 8, .inl fc)), (th, .inr (2, [.ref tp, .ref tc, .int tn])), (tp, .inl (cI, 8, .inl ftp)), (tc, .inl (cI, 8, .inl ftc))] sz) := by
  refine Met.ofW (cc := cX7_fit) (maxL := 5) (ret := (some .boolean)) (by decide) rfl ?_
  intro p e s m args below meth c s₁ B hml hv
  obtain ⟨rfl, hsz, hP, hK, hD0, hN⟩ := hv
  subst hsz
  have hx := B.exec
  have hb := B.bytes
  have hr := B.returns
  have hts := atoms_spec (ws := wsX7_fit) B.pre
  have hown : s.vm.findClass RX7 = some m.cls := findClass_of_methodNamed B.named
  have hlocks := B.notSynchronized
  have hD := hD0.self (sz := s.heap.size)
  generalize hAe : va_A [(mx, .inr (7, [.ref dr, .ref th, .ref bk, .ref wt, .ref tt, .ref lh, .ref la, .int sh, .long ab, .long be])), (dr, .inr (2, [.ref dp, .ref dc, .int (nI n)])), (dp, .inl (cI, 8, .inl fp)), (dc, .inl (cI, 8, .inl fc)), (th, .inr (2, [.ref tp, .ref tc, .int tn])), (tp, .inl (cI, 8, .inl ftp)), (tc, .inl (cI, 8, .inl ftc))] s.heap.size = A at hD ⊢
  have hA : ∀ q : Nat, s.heap.size ≤ q → A q := fun q h => by rw [← hAe]; exact Or.inr h
  have hS : va_S A s.heap s.heap [] := va_S.rf
  have hiX7 : ∀ w ∈ u_ws RX7 TX7 10, w ∈ wsX7_fit := by decide +kernel
  have hl := lv_entry ([.ref mx, .int (nI i), .int (nI j), .int p3]) (n := 5) (Nat.le_of_ble_eq_true rfl)
  rw [lg_entry_eq]
  generalize (lg_sl ([.ref mx, .int (nI i), .int (nI j), .int p3]) ++ List.replicate (5 - (lg_sl ([.ref mx, .int (nI i), .int (nI j), .int p3])).length) Slot.unset).toArray = ls at hl ⊢
  have hl : lv_has ls 5 [(0, .ref mx), (1, .int (nI i)), (2, .int (nI j)), (3, .int p3)] := hl
  refine lv_aload_n hx hb dX7_fit_0 rfl (lv_at hl 0 rfl) ?_
  refine lv_iload_n hx hb dX7_fit_1 rfl (lv_at hl 1 rfl) ?_
  refine lv_iload_n hx hb dX7_fit_2 rfl (lv_at hl 2 rfl) ?_
  have hPc := hP.sub (ws' := [(mx, .inr (7, [.ref dr, .ref th, .ref bk, .ref wt, .ref tt, .ref lh, .ref la, .int sh, .long ab, .long be])), (dr, .inr (2, [.ref dp, .ref dc, .int (nI n)]))]) [0, 1] rfl
  refine va_calli (va_runV (As := [.int (nI i), .int (nI j)]) (rest := []) ⟨hx, hb, hml, hown, hts⟩ (mz_q_x_areTwo l dC dI cI cJ cZ mx dr th bk wt tt lh la sh ab be dp dc n i j s.heap (by first | assumption | omega) (by first | assumption | omega) (by first | assumption | omega) (by first | assumption | omega)) (cwV 2 hts gX7_fit_X7_areTwo rfl rfl rfl (by decide +kernel) ⟨Nat.le_of_ble_eq_true rfl, Nat.le_of_ble_eq_true rfl⟩) ⟨fun a U g mk q => mz_blP q, va_recv hK hPc (ci := 7) (q0 := 0) rfl rfl, fun U hU hW => ⟨rfl, hU, hPc, va_K.moved hW.alike hK, mz_nw hW hN⟩⟩ rfl rfl hl.1 rfl (lv_room (Nat.le_of_ble_eq_true rfl)) dX7_fit_3 ⟨Nat.le_of_ble_eq_true rfl, Nat.le_of_ble_eq_true rfl⟩) hS (fun q _ h => h.elim) (fun q h => h.elim) (fun r_3 u t H1 locs ht hvm hw_3 hB hz1 hk1 hS => ?_)
  have hE : s.heap = H1 := hB.symm.trans ht
  subst hE
  obtain rfl : r_3 = 1 := hw_3
  refine lv_if_eq (tgt := 33) hx hb dX7_fit_6 (by decide) (fun c_6 => absurd c_6 (by decide +kernel)) (fun _ => ?_)
  refine lv_aload_n hx hb dX7_fit_9 rfl (lv_at hl 0 rfl) ?_
  refine lv_iload_n hx hb dX7_fit_10 rfl (lv_at hl 3 rfl) ?_
  have hPc := hP.sub (ws' := [(mx, .inr (7, [.ref dr, .ref th, .ref bk, .ref wt, .ref tt, .ref lh, .ref la, .int sh, .long ab, .long be])), (dr, .inr (2, [.ref dp, .ref dc, .int (nI n)]))]) [0, 1] rfl
  refine va_calli (va_runV (As := [.int p3]) (rest := []) ⟨hx, hb, hml, hown, hts⟩ (mz_h_x_isHeap l dC dI cI cJ cZ mx dr th bk wt tt lh la sh ab be dp dc n p3 s.heap (by first | assumption | omega)) (cwV 1 hts gX7_fit_X7_isHeap rfl rfl rfl (by decide +kernel) ⟨Nat.le_of_ble_eq_true rfl, Nat.le_of_ble_eq_true rfl⟩) ⟨fun a U g mk q => mz_blP q, va_recv hK hPc (ci := 7) (q0 := 0) rfl rfl, fun U hU hW => ⟨rfl, hU, hPc, va_K.moved hW.alike hK, mz_nw hW hN⟩⟩ rfl rfl hl.1 rfl (lv_room (Nat.le_of_ble_eq_true rfl)) dX7_fit_11 ⟨Nat.le_of_ble_eq_true rfl, Nat.le_of_ble_eq_true rfl⟩) hS (fun q _ h => h.elim) (fun q h => h.elim) (fun r_11 u t H1 locs ht hvm hw_11 hB hz1 hk1 hS => ?_)
  have hE : s.heap = H1 := hB.symm.trans ht
  subst hE
  rcases (show (r_11 = 1 ∧ mz_hp n p3) ∨ (r_11 = 0 ∧ ¬ mz_hp n p3) from hw_11) with ⟨rfl, hc_11⟩ | ⟨rfl, hc_11⟩
  · skip
    refine lv_if_eq (tgt := 33) hx hb dX7_fit_14 (by decide) (fun c_14 => absurd c_14 (by decide +kernel)) (fun _ => ?_)
    refine lv_iload_n hx hb dX7_fit_17 rfl (lv_at hl 3 rfl) ?_
    refine lv_iload_n hx hb dX7_fit_18 rfl (lv_at hl 1 rfl) ?_
    have hPc := hP.sub (ws' := []) [] rfl
    refine va_calli (va_runS (As := [.int p3, .int (nI i)]) (rest := []) ⟨hx, hb, hml, hown, hts⟩ (mz_e_inHeap l dC dI cI cJ cZ p3 i s.heap (by first | assumption | omega)) (va_cwS 2 hts gX7_fit_X7_inHeap rfl rfl rfl (by decide +kernel) ⟨Nat.le_of_ble_eq_true rfl, Nat.le_of_ble_eq_true rfl⟩) ⟨fun a U g mk q => mz_blP q, fun U hU hW => ⟨rfl, hU, hPc, va_K.moved hW.alike hK, mz_nw hW hN⟩⟩ rfl rfl hl.1 rfl (lv_room (Nat.le_of_ble_eq_true rfl)) dX7_fit_19 ⟨Nat.le_of_ble_eq_true rfl, Nat.le_of_ble_eq_true rfl⟩) hS (fun q _ h => h.elim) (fun q h => h.elim) (fun r_19 u t H1 locs ht hvm hw_19 hB hz1 hk1 hS => ?_)
    have hE : s.heap = H1 := hB.symm.trans ht
    subst hE
    rcases (show (r_19 = 1 ∧ mz_t p3 i = true) ∨ (r_19 = 0 ∧ mz_t p3 i = false) from hw_19) with ⟨rfl, ht_19⟩ | ⟨rfl, ht_19⟩
    · skip
      refine lv_if_ne (tgt := 33) hx hb dX7_fit_22 (by decide) (fun _ => ?_) (fun c_22 => absurd c_22 (by decide +kernel))
      first | exact absurd hZ hc_11 | exact absurd (ht_19.symm.trans hzi) (by decide) | exact absurd (ht_27.symm.trans hzj) (by decide)
    · skip
      refine lv_if_ne (tgt := 33) hx hb dX7_fit_22 (by decide) (fun c_22 => absurd (by decide +kernel) c_22) (fun _ => ?_)
      refine lv_iload_n hx hb dX7_fit_25 rfl (lv_at hl 3 rfl) ?_
      refine lv_iload_n hx hb dX7_fit_26 rfl (lv_at hl 2 rfl) ?_
      have hPc := hP.sub (ws' := []) [] rfl
      refine va_calli (va_runS (As := [.int p3, .int (nI j)]) (rest := []) ⟨hx, hb, hml, hown, hts⟩ (mz_e_inHeap l dC dI cI cJ cZ p3 j s.heap (by first | assumption | omega)) (va_cwS 2 hts gX7_fit_X7_inHeap rfl rfl rfl (by decide +kernel) ⟨Nat.le_of_ble_eq_true rfl, Nat.le_of_ble_eq_true rfl⟩) ⟨fun a U g mk q => mz_blP q, fun U hU hW => ⟨rfl, hU, hPc, va_K.moved hW.alike hK, mz_nw hW hN⟩⟩ rfl rfl hl.1 rfl (lv_room (Nat.le_of_ble_eq_true rfl)) dX7_fit_27 ⟨Nat.le_of_ble_eq_true rfl, Nat.le_of_ble_eq_true rfl⟩) hS (fun q _ h => h.elim) (fun q h => h.elim) (fun r_27 u t H1 locs ht hvm hw_27 hB hz1 hk1 hS => ?_)
      have hE : s.heap = H1 := hB.symm.trans ht
      subst hE
      rcases (show (r_27 = 1 ∧ mz_t p3 j = true) ∨ (r_27 = 0 ∧ mz_t p3 j = false) from hw_27) with ⟨rfl, ht_27⟩ | ⟨rfl, ht_27⟩
      · skip
        refine lv_if_eq (tgt := 35) hx hb dX7_fit_30 (by decide) (fun c_30 => absurd c_30 (by decide +kernel)) (fun _ => ?_)
        first | exact absurd hZ hc_11 | exact absurd (ht_19.symm.trans hzi) (by decide) | exact absurd (ht_27.symm.trans hzj) (by decide)
      · skip
        refine lv_if_eq (tgt := 35) hx hb dX7_fit_30 (by decide) (fun _ => ?_) (fun c_30 => absurd (by decide +kernel) c_30)
        refine lv_iload_n hx hb dX7_fit_35 rfl (lv_at hl 3 rfl) ?_
        refine lv_aload_n hx hb dX7_fit_36 rfl (lv_at hl 0 rfl) ?_
        refine va_get (D := (dC, dI)) (ci := 7) (v := .int sh) (C := RX7) (T := TX7) (N := 10) hx hb hts hiX7 hown hK hP 0 rfl rfl 7 (by decide) (hts (.fieldLink RX7 54 "MadeItSo" "seenHeap" "I") (by decide +kernel)) (fun _ h9 => h9) rfl dX7_fit_37 ?_
        refine lv_iconst (v := (-1)) hx hb dX7_fit_40 (by decide +kernel) ?_
        refine lv_ixor hx hb dX7_fit_41 ?_
        refine lv_iand hx hb dX7_fit_42 ?_
        refine lv_if_eq (tgt := 48) hx hb dX7_fit_43 (by decide) (fun c_43 => ?_) (fun c_43 => ?_)
        · skip
          refine lv_aload_n hx hb dX7_fit_48 rfl (lv_at hl 0 rfl) ?_
          refine va_get (D := (dC, dI)) (ci := 7) (v := .ref dr) (C := RX7) (T := TX7) (N := 10) hx hb hts hiX7 hown hK hP 0 rfl rfl 0 (by decide) (hts (.fieldLink RX7 12 "MadeItSo" "drawing" "LMadeItSo$Drawing;") (by decide +kernel)) (fun _ h9 => h9) rfl dX7_fit_49 ?_
          refine lv_iload_n hx hb dX7_fit_52 rfl (lv_at hl 1 rfl) ?_
          have hPc := hP.sub (ws' := [(dr, .inr (2, [.ref dp, .ref dc, .int (nI n)])), (dc, .inl (cI, 8, .inl fc))]) [1, 3] rfl
          refine va_calli (va_runV (As := [.int (nI i)]) (rest := []) ⟨hx, hb, hml, hown, hts⟩ (mz_e_allBelow l dC dI cI cJ cZ dr dp dc n fc i s.heap (by first | assumption | omega) (by first | assumption | omega) (by first | assumption | omega)) (cwV 1 hts gX7_fit_X2_allBelow rfl rfl rfl (by decide +kernel) ⟨Nat.le_of_ble_eq_true rfl, Nat.le_of_ble_eq_true rfl⟩) ⟨fun a U g mk q => mz_blP q, va_recv hK hPc (ci := 2) (q0 := 0) rfl rfl, fun U hU hW => ⟨rfl, hU, hPc, va_K.moved hW.alike hK, mz_nw hW hN⟩⟩ rfl rfl hl.1 rfl (lv_room (Nat.le_of_ble_eq_true rfl)) dX7_fit_53 ⟨Nat.le_of_ble_eq_true rfl, Nat.le_of_ble_eq_true rfl⟩) hS (fun q _ h => h.elim) (fun q h => h.elim) (fun r_53 u t H1 locs ht hvm hw_53 hB hz1 hk1 hS => ?_)
          have hE : s.heap = H1 := hB.symm.trans ht
          subst hE
          refine lv_iload_n hx hb dX7_fit_56 rfl (lv_at hl 2 rfl) ?_
          have hPc := hP.sub (ws' := []) [] rfl
          refine va_calli (va_runS (As := [.int r_53, .int (nI j)]) (rest := []) ⟨hx, hb, hml, hown, hts⟩ (mz_e_inHeap l dC dI cI cJ cZ r_53 j s.heap (by first | assumption | omega)) (va_cwS 2 hts gX7_fit_X7_inHeap rfl rfl rfl (by decide +kernel) ⟨Nat.le_of_ble_eq_true rfl, Nat.le_of_ble_eq_true rfl⟩) ⟨fun a U g mk q => mz_blP q, fun U hU hW => ⟨rfl, hU, hPc, va_K.moved hW.alike hK, mz_nw hW hN⟩⟩ rfl rfl hl.1 rfl (lv_room (Nat.le_of_ble_eq_true rfl)) dX7_fit_57 ⟨Nat.le_of_ble_eq_true rfl, Nat.le_of_ble_eq_true rfl⟩) hS (fun q _ h => h.elim) (fun q h => h.elim) (fun r_57 u t H1 locs ht hvm hw_57 hB hz1 hk1 hS => ?_)
          have hE : s.heap = H1 := hB.symm.trans ht
          subst hE
          rcases (show (r_57 = 1 ∧ mz_t r_53 j = true) ∨ (r_57 = 0 ∧ mz_t r_53 j = false) from hw_57) with ⟨rfl, ht_57⟩ | ⟨rfl, ht_57⟩
          · skip
            refine lv_if_ne (tgt := 80) hx hb dX7_fit_60 (by decide) (fun _ => ?_) (fun c_60 => absurd c_60 (by decide +kernel))
            refine lv_aload_n hx hb dX7_fit_80 rfl (lv_at hl 0 rfl) ?_
            refine va_get (D := (dC, dI)) (ci := 7) (v := .ref dr) (C := RX7) (T := TX7) (N := 10) hx hb hts hiX7 hown hK hP 0 rfl rfl 0 (by decide) (hts (.fieldLink RX7 12 "MadeItSo" "drawing" "LMadeItSo$Drawing;") (by decide +kernel)) (fun _ h9 => h9) rfl dX7_fit_81 ?_
            refine lv_iload_n hx hb dX7_fit_84 rfl (lv_at hl 1 rfl) ?_
            refine lv_iload_n hx hb dX7_fit_85 rfl (lv_at hl 2 rfl) ?_
            have hPc := hP.sub (ws' := [(dr, .inr (2, [.ref dp, .ref dc, .int (nI n)])), (dp, .inl (cI, 8, .inl fp)), (dc, .inl (cI, 8, .inl fc))]) [1, 2, 3] rfl
            refine va_calli (va_runV (As := [.int (nI i), .int (nI j)]) (rest := []) ⟨hx, hb, hml, hown, hts⟩ (mz_u_road l dC dI cI cJ cZ dr dp dc n fp fc i j s.heap (by first | assumption | omega) (by first | assumption | omega) (by first | assumption | omega) (by first | assumption | omega) (by first | assumption | omega)) (cwV 2 hts gX7_fit_X2_road rfl rfl rfl (by decide +kernel) ⟨Nat.le_of_ble_eq_true rfl, Nat.le_of_ble_eq_true rfl⟩) ⟨fun a U g mk q => mz_blP q, va_recv hK hPc (ci := 2) (q0 := 0) rfl rfl, fun U hU hW => ⟨rfl, hU, hPc, va_K.moved hW.alike hK, mz_nw hW hN⟩⟩ rfl rfl hl.1 rfl (lv_room (Nat.le_of_ble_eq_true rfl)) dX7_fit_86 ⟨Nat.le_of_ble_eq_true rfl, Nat.le_of_ble_eq_true rfl⟩) hS (fun q _ h => h.elim) (fun q h => h.elim) (fun r_86 u t H1 locs ht hvm hw_86 hB hz1 hk1 hS => ?_)
            have hE : s.heap = H1 := hB.symm.trans ht
            subst hE
            obtain ⟨S_, R_, hS_, hR_, hr_⟩ := hw_86
            subst hr_
            have hSj_ : mz_t S_ j = true := (by rw [mz_lst_one hS_ hw_53 (by omega)]; exact ht_57)
            refine lv_istore (lv' := [(4, .int (S_ &&& R_)), (0, .ref mx), (1, .int (nI i)), (2, .int (nI j)), (3, .int p3)]) hx hb dX7_fit_89 hl (by decide) rfl (fun ls hl => ?_)
            refine lv_iload_n hx hb dX7_fit_91 rfl (lv_at hl 4 rfl) ?_
            refine lv_aload_n hx hb dX7_fit_92 rfl (lv_at hl 1 rfl) ?_
            refine va_get (D := (dC, dI)) (ci := 7) (v := .ref dr) (C := RX7) (T := TX7) (N := 10) hx hb hts hiX7 hown hK hP 0 rfl rfl 0 (by decide) (hts (.fieldLink RX7 12 "MadeItSo" "drawing" "LMadeItSo$Drawing;") (by decide +kernel)) (fun _ h9 => h9) rfl dX7_fit_93 ?_
            refine lv_iload hx hb dX7_fit_96 (lv_at hl 0 rfl) ?_
            have hPc := hP.sub (ws' := [(dr, .inr (2, [.ref dp, .ref dc, .int (nI n)])), (dc, .inl (cI, 8, .inl fc))]) [1, 3] rfl
            refine va_calli (va_runV (As := [.int (S_ &&& R_)]) (rest := [.int p3]) ⟨hx, hb, hml, hown, hts⟩ (mz_e_withAllBelow l dC dI cI cJ cZ dr dp dc n fc (S_ &&& R_) s.heap (by first | assumption | omega)) (cwV 1 hts gX7_fit_X2_withAllBelow rfl rfl rfl (by decide +kernel) ⟨Nat.le_of_ble_eq_true rfl, Nat.le_of_ble_eq_true rfl⟩) ⟨fun a U g mk q => mz_blP q, va_recv hK hPc (ci := 2) (q0 := 0) rfl rfl, fun U hU hW => ⟨rfl, hU, hPc, va_K.moved hW.alike hK, mz_nw hW hN⟩⟩ rfl rfl hl.1 rfl (lv_room (Nat.le_of_ble_eq_true rfl)) dX7_fit_98 ⟨Nat.le_of_ble_eq_true rfl, Nat.le_of_ble_eq_true rfl⟩) hS (fun q _ h => h.elim) (fun q h => h.elim) (fun r_98 u t H1 locs ht hvm hw_98 hB hz1 hk1 hS => ?_)
            have hE : s.heap = H1 := hB.symm.trans ht
            subst hE
            refine lv_iand hx hb dX7_fit_101 ?_
            refine lv_if_eq (tgt := 107) hx hb dX7_fit_102 (by decide) (fun c_102 => ?_) (fun c_102 => ?_)
            · skip
              refine lv_aload_n hx hb dX7_fit_107 rfl (lv_at hl 1 rfl) ?_
              refine va_get (D := (dC, dI)) (ci := 7) (v := .ref th) (C := RX7) (T := TX7) (N := 10) hx hb hts hiX7 hown hK hP 0 rfl rfl 1 (by decide) (hts (.fieldLink RX7 16 "MadeItSo" "thinned" "LMadeItSo$Drawing;") (by decide +kernel)) (fun _ h9 => h9) rfl dX7_fit_108 ?_
              refine lv_aload_n hx hb dX7_fit_111 rfl (lv_at hl 1 rfl) ?_
              refine va_get (D := (dC, dI)) (ci := 7) (v := .ref dr) (C := RX7) (T := TX7) (N := 10) hx hb hts hiX7 hown hK hP 0 rfl rfl 0 (by decide) (hts (.fieldLink RX7 12 "MadeItSo" "drawing" "LMadeItSo$Drawing;") (by decide +kernel)) (fun _ h9 => h9) rfl dX7_fit_112 ?_
              refine lv_iload_n hx hb dX7_fit_115 rfl (lv_at hl 2 rfl) ?_
              refine lv_iload hx hb dX7_fit_116 (lv_at hl 0 rfl) ?_
              have hPc := hP.sub (ws' := [(th, .inr (2, [.ref tp, .ref tc, .int tn])), (tp, .inl (cI, 8, .inl ftp)), (tc, .inl (cI, 8, .inl ftc)), (dr, .inr (2, [.ref dp, .ref dc, .int (nI n)])), (dp, .inl (cI, 8, .inl fp)), (dc, .inl (cI, 8, .inl fc))]) [4, 5, 6, 1, 2, 3] rfl
              have hDc := hD.sub (ws' := [(th, .inr (2, [.ref tp, .ref tc, .int tn])), (tp, .inl (cI, 8, .inl ftp)), (tc, .inl (cI, 8, .inl ftc)), (dr, .inr (2, [.ref dp, .ref dc, .int (nI n)])), (dp, .inl (cI, 8, .inl fp)), (dc, .inl (cI, 8, .inl fc))]) [4, 5, 6, 1, 2, 3] (by decide) rfl
              have hFc := va_free (wc := [(th, .inr (2, [.ref tp, .ref tc, .int tn])), (tp, .inl (cI, 8, .inl ftp)), (tc, .inl (cI, 8, .inl ftc)), (dr, .inr (2, [.ref dp, .ref dc, .int (nI n)])), (dp, .inl (cI, 8, .inl fp)), (dc, .inl (cI, 8, .inl fc))]) hD hS hA [4, 5, 6, 1, 2, 3] rfl
              refine va_callv (va_runV (As := [.ref dr, .int (nI i), .int (S_ &&& R_)]) (rest := []) ⟨hx, hb, hml, hown, hts⟩ (mz_u_copyWithout l dC dI cI cJ cZ th tp tc tn ftp ftc dr dp dc n fp fc i (S_ &&& R_) s.heap.size (by first | assumption | omega)) (cwV 3 hts gX7_fit_X2_copyWithout rfl rfl rfl (by decide +kernel) ⟨Nat.le_of_ble_eq_true rfl, Nat.le_of_ble_eq_true rfl⟩) ⟨fun a U g mk q => mz_blI q, va_recv hK hPc (ci := 2) (q0 := 0) rfl rfl, fun U hU hW => ⟨rfl, by rw [hU], by rw [hU]; exact hPc, va_K.moved hW.alike hK, hDc.weaken (fun _ _ _ _ => trivial), mz_nw hW hN⟩⟩ rfl rfl hl.1 rfl (lv_room (Nat.le_of_ble_eq_true rfl)) dX7_fit_118 ⟨Nat.le_of_ble_eq_true rfl, Nat.le_of_ble_eq_true rfl⟩) hS (fun q _ h => hFc q h) hFc (fun u t H1 locs ht hvm hw_118 hB hz1 hk1 hS => ?_)
              obtain ⟨gtp_118, gtc_118, hx0_118, hx1_118, hP1, hD1⟩ := hB
              rw [ht] at hP1
              obtain ⟨hP, hD⟩ := va_join (wr := [(mx, .inr (7, [.ref dr, .ref th, .ref bk, .ref wt, .ref tt, .ref lh, .ref la, .int sh, .long ab, .long be]))]) (w1 := [(th, .inr (2, [.ref tp, .ref tc, .int (nI n)])), (tp, .inl (cI, 8, .inl gtp_118)), (tc, .inl (cI, 8, .inl gtc_118)), (dr, .inr (2, [.ref dp, .ref dc, .int (nI n)])), (dp, .inl (cI, 8, .inl fp)), (dc, .inl (cI, 8, .inl fc))]) hP hD [4, 5, 6, 1, 2, 3] [0] rfl rfl (by decide) (by decide) hk1 hFc hP1 hD1
              generalize H1 = H at hP hS ⊢
              have hP : va_P (dC, dI) vwCl [(mx, .inr (7, [.ref dr, .ref th, .ref bk, .ref wt, .ref tt, .ref lh, .ref la, .int sh, .long ab, .long be])), (th, .inr (2, [.ref tp, .ref tc, .int (nI n)])), (tp, .inl (cI, 8, .inl gtp_118)), (tc, .inl (cI, 8, .inl gtc_118)), (dr, .inr (2, [.ref dp, .ref dc, .int (nI n)])), (dp, .inl (cI, 8, .inl fp)), (dc, .inl (cI, 8, .inl fc))] H := hP
              have hD : va_D A [(mx, .inr (7, [.ref dr, .ref th, .ref bk, .ref wt, .ref tt, .ref lh, .ref la, .int sh, .long ab, .long be])), (th, .inr (2, [.ref tp, .ref tc, .int (nI n)])), (tp, .inl (cI, 8, .inl gtp_118)), (tc, .inl (cI, 8, .inl gtc_118)), (dr, .inr (2, [.ref dp, .ref dc, .int (nI n)])), (dp, .inl (cI, 8, .inl fp)), (dc, .inl (cI, 8, .inl fc))] := hD
              refine lv_aload_n hx hb dX7_fit_121 rfl (lv_at hl 1 rfl) ?_
              refine va_get (D := (dC, dI)) (ci := 7) (v := .ref th) (C := RX7) (T := TX7) (N := 10) hx hb hts hiX7 hown hK hP 0 rfl rfl 1 (by decide) (hts (.fieldLink RX7 16 "MadeItSo" "thinned" "LMadeItSo$Drawing;") (by decide +kernel)) (fun _ h9 => h9) rfl dX7_fit_122 ?_
              refine lv_iload_n hx hb dX7_fit_125 rfl (lv_at hl 2 rfl) ?_
              have hPc := hP.sub (ws' := []) [] rfl
              refine va_calli (va_runS (As := [.int (nI i)]) (rest := [.ref th]) ⟨hx, hb, hml, hown, hts⟩ (mz_g_bit l dC dI cI cJ cZ (nI i) H ) (va_cwS 1 hts gX7_fit_X7_bit rfl rfl rfl (by decide +kernel) ⟨Nat.le_of_ble_eq_true rfl, Nat.le_of_ble_eq_true rfl⟩) ⟨fun a U g mk q => mz_blP q, fun U hU hW => ⟨rfl, hU, hPc, va_K.moved hW.alike hK, mz_nw hW hN⟩⟩ rfl rfl hl.1 rfl (lv_room (Nat.le_of_ble_eq_true rfl)) dX7_fit_126 ⟨Nat.le_of_ble_eq_true rfl, Nat.le_of_ble_eq_true rfl⟩) hS (fun q _ h => h.elim) (fun q h => h.elim) (fun r_126 u t H1 locs ht hvm hw_126 hB hz1 hk1 hS => ?_)
              have hE : H = H1 := hB.symm.trans ht
              subst hE
              obtain rfl : r_126 = (1 <<< ((nI i) &&& 31)) := hw_126
              refine lv_iload_n hx hb dX7_fit_129 rfl (lv_at hl 3 rfl) ?_
              have hPc := hP.sub (ws' := []) [] rfl
              refine va_calli (va_runS (As := [.int (nI j)]) (rest := [.int (1 <<< ((nI i) &&& 31)), .ref th]) ⟨hx, hb, hml, hown, hts⟩ (mz_g_bit l dC dI cI cJ cZ (nI j) H ) (va_cwS 1 hts gX7_fit_X7_bit rfl rfl rfl (by decide +kernel) ⟨Nat.le_of_ble_eq_true rfl, Nat.le_of_ble_eq_true rfl⟩) ⟨fun a U g mk q => mz_blP q, fun U hU hW => ⟨rfl, hU, hPc, va_K.moved hW.alike hK, mz_nw hW hN⟩⟩ rfl rfl hl.1 rfl (lv_room (Nat.le_of_ble_eq_true rfl)) dX7_fit_130 ⟨Nat.le_of_ble_eq_true rfl, Nat.le_of_ble_eq_true rfl⟩) hS (fun q _ h => h.elim) (fun q h => h.elim) (fun r_130 u t H1 locs ht hvm hw_130 hB hz1 hk1 hS => ?_)
              have hE : H = H1 := hB.symm.trans ht
              subst hE
              obtain rfl : r_130 = (1 <<< ((nI j) &&& 31)) := hw_130
              refine lv_iload_n hx hb dX7_fit_133 rfl (lv_at hl 4 rfl) ?_
              have hPc := hP.sub (ws' := [(th, .inr (2, [.ref tp, .ref tc, .int (nI n)])), (tp, .inl (cI, 8, .inl gtp_118)), (tc, .inl (cI, 8, .inl gtc_118))]) [1, 2, 3] rfl
              refine va_calli (va_runV (As := [.int (1 <<< ((nI i) &&& 31)), .int (1 <<< ((nI j) &&& 31)), .int p3]) (rest := []) ⟨hx, hb, hml, hown, hts⟩ (mz_s_barred l dC dI cI cJ cZ th tp tc n gtp_118 gtc_118 (1 <<< ((nI i) &&& 31)) (1 <<< ((nI j) &&& 31)) p3 H (mz_t8_p (by omega) hx0_118 hp8) (mz_t8_c hx1_118 hf8)) (cwV 3 hts gX7_fit_X2_barred rfl rfl rfl (by decide +kernel) ⟨Nat.le_of_ble_eq_true rfl, Nat.le_of_ble_eq_true rfl⟩) ⟨fun a U g mk q => mz_blP q, va_recv hK hPc (ci := 2) (q0 := 0) rfl rfl, fun U hU hW => ⟨rfl, hU, hPc, va_K.moved hW.alike hK, mz_nw hW hN⟩⟩ rfl rfl hl.1 rfl (lv_room (Nat.le_of_ble_eq_true rfl)) dX7_fit_134 ⟨Nat.le_of_ble_eq_true rfl, Nat.le_of_ble_eq_true rfl⟩) hS (fun q _ h => h.elim) (fun q h => h.elim) (fun r_134 u t H1 locs ht hvm hw_134 hB hz1 hk1 hS => ?_)
              have hE : H = H1 := hB.symm.trans ht
              subst hE
              rcases (show (r_134 = 1 ∧ ∃ M C F : Int32, mz_lst gtp_118 p3 M ∧ mz_brl gtp_118 gtc_118 (1 <<< ((nI i) &&& 31)) p3 M C F ∧  (C ||| F) &&& (1 <<< ((nI j) &&& 31)) = 0) ∨ (r_134 = 0 ∧ ∃ M C F : Int32, mz_lst gtp_118 p3 M ∧ mz_brl gtp_118 gtc_118 (1 <<< ((nI i) &&& 31)) p3 M C F ∧ ¬ (C ||| F) &&& (1 <<< ((nI j) &&& 31)) = 0) from hw_134) with ⟨rfl, hc_134⟩ | ⟨rfl, hc_134⟩
              · skip
                have hP9 := hP.sub (ws' := [(mx, .inr (7, [.ref dr, .ref th, .ref bk, .ref wt, .ref tt, .ref lh, .ref la, .int sh, .long ab, .long be])), (dr, .inr (2, [.ref dp, .ref dc, .int (nI n)])), (dp, .inl (cI, 8, .inl fp)), (dc, .inl (cI, 8, .inl fc)), (th, .inr (2, [.ref tp, .ref tc, .int (nI n)])), (tp, .inl (cI, 8, .inl gtp_118)), (tc, .inl (cI, 8, .inl gtc_118))]) [0, 4, 5, 6, 1, 2, 3] rfl
                have hD9 := hD.sub (ws' := [(mx, .inr (7, [.ref dr, .ref th, .ref bk, .ref wt, .ref tt, .ref lh, .ref la, .int sh, .long ab, .long be])), (dr, .inr (2, [.ref dp, .ref dc, .int (nI n)])), (dp, .inl (cI, 8, .inl fp)), (dc, .inl (cI, 8, .inl fc)), (th, .inr (2, [.ref tp, .ref tc, .int (nI n)])), (tp, .inl (cI, 8, .inl gtp_118)), (tc, .inl (cI, 8, .inl gtc_118))]) [0, 4, 5, 6, 1, 2, 3] (by decide) rfl
                refine W.widen (k := 0) (n := 0) (Nat.le_of_ble_eq_true rfl) (Nat.le_of_ble_eq_true rfl) ?_
                exact W.zret (v := 1) hx hb hr (mz_nz (by decide +kernel)) (fun t ht hW => ⟨⟨1, (), rfl, Or.inl ⟨rfl, (by obtain ⟨M_, C_, F_, h1_, h2_, h3_⟩ := hc_134; exact ((hfB _ _ _ hS_ hSj_ hR_ hw_98).2 c_102 M_ C_ F_ (mz_lst_8 hx0_118 h1_) (mz_brl_8 hx0_118 hx1_118 h2_)).mp h3_)⟩, (nI n), gtp_118, gtc_118, by rw [ht]; exact hP9, hD9⟩, hS.F ht⟩) hS.2.2 dX7_fit_137
              · skip
                have hP9 := hP.sub (ws' := [(mx, .inr (7, [.ref dr, .ref th, .ref bk, .ref wt, .ref tt, .ref lh, .ref la, .int sh, .long ab, .long be])), (dr, .inr (2, [.ref dp, .ref dc, .int (nI n)])), (dp, .inl (cI, 8, .inl fp)), (dc, .inl (cI, 8, .inl fc)), (th, .inr (2, [.ref tp, .ref tc, .int (nI n)])), (tp, .inl (cI, 8, .inl gtp_118)), (tc, .inl (cI, 8, .inl gtc_118))]) [0, 4, 5, 6, 1, 2, 3] rfl
                have hD9 := hD.sub (ws' := [(mx, .inr (7, [.ref dr, .ref th, .ref bk, .ref wt, .ref tt, .ref lh, .ref la, .int sh, .long ab, .long be])), (dr, .inr (2, [.ref dp, .ref dc, .int (nI n)])), (dp, .inl (cI, 8, .inl fp)), (dc, .inl (cI, 8, .inl fc)), (th, .inr (2, [.ref tp, .ref tc, .int (nI n)])), (tp, .inl (cI, 8, .inl gtp_118)), (tc, .inl (cI, 8, .inl gtc_118))]) [0, 4, 5, 6, 1, 2, 3] (by decide) rfl
                refine W.widen (k := 0) (n := 0) (Nat.le_of_ble_eq_true rfl) (Nat.le_of_ble_eq_true rfl) ?_
                exact W.zret (v := 0) hx hb hr (mz_nz (by decide +kernel)) (fun t ht hW => ⟨⟨0, (), rfl, Or.inr ⟨rfl, (by obtain ⟨M_, C_, F_, h1_, h2_, h3_⟩ := hc_134; exact fun q9 => h3_ (((hfB _ _ _ hS_ hSj_ hR_ hw_98).2 c_102 M_ C_ F_ (mz_lst_8 hx0_118 h1_) (mz_brl_8 hx0_118 hx1_118 h2_)).mpr q9))⟩, (nI n), gtp_118, gtc_118, by rw [ht]; exact hP9, hD9⟩, hS.F ht⟩) hS.2.2 dX7_fit_137
            · skip
              refine lv_iconst (v := 0) hx hb dX7_fit_105 (by decide +kernel) ?_
              have hP9 := hP.sub (ws' := [(mx, .inr (7, [.ref dr, .ref th, .ref bk, .ref wt, .ref tt, .ref lh, .ref la, .int sh, .long ab, .long be])), (dr, .inr (2, [.ref dp, .ref dc, .int (nI n)])), (dp, .inl (cI, 8, .inl fp)), (dc, .inl (cI, 8, .inl fc)), (th, .inr (2, [.ref tp, .ref tc, .int tn])), (tp, .inl (cI, 8, .inl ftp)), (tc, .inl (cI, 8, .inl ftc))]) [0, 1, 2, 3, 4, 5, 6] rfl
              have hD9 := hD.sub (ws' := [(mx, .inr (7, [.ref dr, .ref th, .ref bk, .ref wt, .ref tt, .ref lh, .ref la, .int sh, .long ab, .long be])), (dr, .inr (2, [.ref dp, .ref dc, .int (nI n)])), (dp, .inl (cI, 8, .inl fp)), (dc, .inl (cI, 8, .inl fc)), (th, .inr (2, [.ref tp, .ref tc, .int tn])), (tp, .inl (cI, 8, .inl ftp)), (tc, .inl (cI, 8, .inl ftc))]) [0, 1, 2, 3, 4, 5, 6] (by decide) rfl
              refine W.widen (k := 0) (n := 0) (Nat.le_of_ble_eq_true rfl) (Nat.le_of_ble_eq_true rfl) ?_
              exact W.zret (v := 0) hx hb hr (mz_nz (by decide +kernel)) (fun t ht hW => ⟨⟨0, (), rfl, Or.inr ⟨rfl, (hfB _ _ _ hS_ hSj_ hR_ hw_98).1 c_102⟩, tn, ftp, ftc, by rw [ht]; exact hP9, hD9⟩, hS.F ht⟩) hS.2.2 dX7_fit_106
          · skip
            refine lv_if_ne (tgt := 80) hx hb dX7_fit_60 (by decide) (fun c_60 => absurd (by decide +kernel) c_60) (fun _ => ?_)
            refine lv_aload_n hx hb dX7_fit_63 rfl (lv_at hl 0 rfl) ?_
            refine va_get (D := (dC, dI)) (ci := 7) (v := .ref dr) (C := RX7) (T := TX7) (N := 10) hx hb hts hiX7 hown hK hP 0 rfl rfl 0 (by decide) (hts (.fieldLink RX7 12 "MadeItSo" "drawing" "LMadeItSo$Drawing;") (by decide +kernel)) (fun _ h9 => h9) rfl dX7_fit_64 ?_
            refine lv_iload_n hx hb dX7_fit_67 rfl (lv_at hl 1 rfl) ?_
            have hPc := hP.sub (ws' := []) [] rfl
            refine va_calli (va_runS (As := [.int (nI i)]) (rest := [.ref dr]) ⟨hx, hb, hml, hown, hts⟩ (mz_g_bit l dC dI cI cJ cZ (nI i) s.heap ) (va_cwS 1 hts gX7_fit_X7_bit rfl rfl rfl (by decide +kernel) ⟨Nat.le_of_ble_eq_true rfl, Nat.le_of_ble_eq_true rfl⟩) ⟨fun a U g mk q => mz_blP q, fun U hU hW => ⟨rfl, hU, hPc, va_K.moved hW.alike hK, mz_nw hW hN⟩⟩ rfl rfl hl.1 rfl (lv_room (Nat.le_of_ble_eq_true rfl)) dX7_fit_68 ⟨Nat.le_of_ble_eq_true rfl, Nat.le_of_ble_eq_true rfl⟩) hS (fun q _ h => h.elim) (fun q h => h.elim) (fun r_68 u t H1 locs ht hvm hw_68 hB hz1 hk1 hS => ?_)
            have hE : s.heap = H1 := hB.symm.trans ht
            subst hE
            obtain rfl : r_68 = (1 <<< ((nI i) &&& 31)) := hw_68
            refine lv_iload_n hx hb dX7_fit_71 rfl (lv_at hl 2 rfl) ?_
            have hPc := hP.sub (ws' := []) [] rfl
            refine va_calli (va_runS (As := [.int (nI j)]) (rest := [.int (1 <<< ((nI i) &&& 31)), .ref dr]) ⟨hx, hb, hml, hown, hts⟩ (mz_g_bit l dC dI cI cJ cZ (nI j) s.heap ) (va_cwS 1 hts gX7_fit_X7_bit rfl rfl rfl (by decide +kernel) ⟨Nat.le_of_ble_eq_true rfl, Nat.le_of_ble_eq_true rfl⟩) ⟨fun a U g mk q => mz_blP q, fun U hU hW => ⟨rfl, hU, hPc, va_K.moved hW.alike hK, mz_nw hW hN⟩⟩ rfl rfl hl.1 rfl (lv_room (Nat.le_of_ble_eq_true rfl)) dX7_fit_72 ⟨Nat.le_of_ble_eq_true rfl, Nat.le_of_ble_eq_true rfl⟩) hS (fun q _ h => h.elim) (fun q h => h.elim) (fun r_72 u t H1 locs ht hvm hw_72 hB hz1 hk1 hS => ?_)
            have hE : s.heap = H1 := hB.symm.trans ht
            subst hE
            obtain rfl : r_72 = (1 <<< ((nI j) &&& 31)) := hw_72
            refine lv_iload_n hx hb dX7_fit_75 rfl (lv_at hl 3 rfl) ?_
            have hPc := hP.sub (ws' := [(dr, .inr (2, [.ref dp, .ref dc, .int (nI n)])), (dp, .inl (cI, 8, .inl fp)), (dc, .inl (cI, 8, .inl fc))]) [1, 2, 3] rfl
            refine va_calli (va_runV (As := [.int (1 <<< ((nI i) &&& 31)), .int (1 <<< ((nI j) &&& 31)), .int p3]) (rest := []) ⟨hx, hb, hml, hown, hts⟩ (mz_s_barred l dC dI cI cJ cZ dr dp dc n fp fc (1 <<< ((nI i) &&& 31)) (1 <<< ((nI j) &&& 31)) p3 s.heap (by first | assumption | omega) (by first | assumption | omega)) (cwV 3 hts gX7_fit_X2_barred rfl rfl rfl (by decide +kernel) ⟨Nat.le_of_ble_eq_true rfl, Nat.le_of_ble_eq_true rfl⟩) ⟨fun a U g mk q => mz_blP q, va_recv hK hPc (ci := 2) (q0 := 0) rfl rfl, fun U hU hW => ⟨rfl, hU, hPc, va_K.moved hW.alike hK, mz_nw hW hN⟩⟩ rfl rfl hl.1 rfl (lv_room (Nat.le_of_ble_eq_true rfl)) dX7_fit_76 ⟨Nat.le_of_ble_eq_true rfl, Nat.le_of_ble_eq_true rfl⟩) hS (fun q _ h => h.elim) (fun q h => h.elim) (fun r_76 u t H1 locs ht hvm hw_76 hB hz1 hk1 hS => ?_)
            have hE : s.heap = H1 := hB.symm.trans ht
            subst hE
            rcases (show (r_76 = 1 ∧ ∃ M C F : Int32, mz_lst fp p3 M ∧ mz_brl fp fc (1 <<< ((nI i) &&& 31)) p3 M C F ∧  (C ||| F) &&& (1 <<< ((nI j) &&& 31)) = 0) ∨ (r_76 = 0 ∧ ∃ M C F : Int32, mz_lst fp p3 M ∧ mz_brl fp fc (1 <<< ((nI i) &&& 31)) p3 M C F ∧ ¬ (C ||| F) &&& (1 <<< ((nI j) &&& 31)) = 0) from hw_76) with ⟨rfl, hc_76⟩ | ⟨rfl, hc_76⟩
            · skip
              have hP9 := hP.sub (ws' := [(mx, .inr (7, [.ref dr, .ref th, .ref bk, .ref wt, .ref tt, .ref lh, .ref la, .int sh, .long ab, .long be])), (dr, .inr (2, [.ref dp, .ref dc, .int (nI n)])), (dp, .inl (cI, 8, .inl fp)), (dc, .inl (cI, 8, .inl fc)), (th, .inr (2, [.ref tp, .ref tc, .int tn])), (tp, .inl (cI, 8, .inl ftp)), (tc, .inl (cI, 8, .inl ftc))]) [0, 1, 2, 3, 4, 5, 6] rfl
              have hD9 := hD.sub (ws' := [(mx, .inr (7, [.ref dr, .ref th, .ref bk, .ref wt, .ref tt, .ref lh, .ref la, .int sh, .long ab, .long be])), (dr, .inr (2, [.ref dp, .ref dc, .int (nI n)])), (dp, .inl (cI, 8, .inl fp)), (dc, .inl (cI, 8, .inl fc)), (th, .inr (2, [.ref tp, .ref tc, .int tn])), (tp, .inl (cI, 8, .inl ftp)), (tc, .inl (cI, 8, .inl ftc))]) [0, 1, 2, 3, 4, 5, 6] (by decide) rfl
              refine W.widen (k := 0) (n := 0) (Nat.le_of_ble_eq_true rfl) (Nat.le_of_ble_eq_true rfl) ?_
              exact W.zret (v := 1) hx hb hr (mz_nz (by decide +kernel)) (fun t ht hW => ⟨⟨1, (), rfl, Or.inl ⟨rfl, (by obtain ⟨M_, C_, F_, h1_, h2_, h3_⟩ := hc_76; exact (hfA _ M_ C_ F_ hw_53 ht_57 h1_ h2_).mp h3_)⟩, tn, ftp, ftc, by rw [ht]; exact hP9, hD9⟩, hS.F ht⟩) hS.2.2 dX7_fit_79
            · skip
              have hP9 := hP.sub (ws' := [(mx, .inr (7, [.ref dr, .ref th, .ref bk, .ref wt, .ref tt, .ref lh, .ref la, .int sh, .long ab, .long be])), (dr, .inr (2, [.ref dp, .ref dc, .int (nI n)])), (dp, .inl (cI, 8, .inl fp)), (dc, .inl (cI, 8, .inl fc)), (th, .inr (2, [.ref tp, .ref tc, .int tn])), (tp, .inl (cI, 8, .inl ftp)), (tc, .inl (cI, 8, .inl ftc))]) [0, 1, 2, 3, 4, 5, 6] rfl
              have hD9 := hD.sub (ws' := [(mx, .inr (7, [.ref dr, .ref th, .ref bk, .ref wt, .ref tt, .ref lh, .ref la, .int sh, .long ab, .long be])), (dr, .inr (2, [.ref dp, .ref dc, .int (nI n)])), (dp, .inl (cI, 8, .inl fp)), (dc, .inl (cI, 8, .inl fc)), (th, .inr (2, [.ref tp, .ref tc, .int tn])), (tp, .inl (cI, 8, .inl ftp)), (tc, .inl (cI, 8, .inl ftc))]) [0, 1, 2, 3, 4, 5, 6] (by decide) rfl
              refine W.widen (k := 0) (n := 0) (Nat.le_of_ble_eq_true rfl) (Nat.le_of_ble_eq_true rfl) ?_
              exact W.zret (v := 0) hx hb hr (mz_nz (by decide +kernel)) (fun t ht hW => ⟨⟨0, (), rfl, Or.inr ⟨rfl, (by obtain ⟨M_, C_, F_, h1_, h2_, h3_⟩ := hc_76; exact fun q9 => h3_ ((hfA _ M_ C_ F_ hw_53 ht_57 h1_ h2_).mpr q9))⟩, tn, ftp, ftc, by rw [ht]; exact hP9, hD9⟩, hS.F ht⟩) hS.2.2 dX7_fit_79
        · skip
          exact absurd hzs c_43
  · skip
    refine lv_if_eq (tgt := 33) hx hb dX7_fit_14 (by decide) (fun _ => ?_) (fun c_14 => absurd (by decide +kernel) c_14)
    first | exact absurd hZ hc_11 | exact absurd (ht_19.symm.trans hzi) (by decide) | exact absurd (ht_27.symm.trans hzj) (by decide)
set_option maxHeartbeats 1000000 in
set_option maxRecDepth 100000 in
theorem mz_u_x_fit_out (l : Launch) (dC : Nat → ClassId) (dI : Nat → Nat → Nat) (cI cJ cZ : ClassId) (mx : Nat) (dr : Nat) (th : Nat) (bk : Nat) (wt : Nat) (tt : Nat) (lh : Nat) (la : Nat) (sh : Int32) (ab : Int64) (be : Int64) (dp : Nat) (dc : Nat) (n : Nat) (p1 : Int32) (p2 : Int32) (p3 : Int32) (Hq : Heap) (hn : n ≤ 8) (hNF : ¬ ∃ i j : Nat, i < n ∧ j < n ∧ (¬ i = j) ∧ p1 = nI i ∧ p2 = nI j ∧ mz_hp n p3 ∧ p3 &&& (sh ^^^ (-1)) = 0 ∧ mz_t p3 i = false ∧ mz_t p3 j = false) : Met l yX7_fit wsX7_fit ({ frames := 2, cells := 0, slots := 0, locals := 43 }) (va_Pc [.ref mx, .int p1, .int p2, .int p3] (fun U => U.heap = Hq ∧ va_P (dC, dI) vwCl [(mx, .inr (7, [.ref dr, .ref th, .ref bk, .ref wt, .ref tt, .ref lh, .ref la, .int sh, .long ab, .long be])), (dr, .inr (2, [.ref dp, .ref dc, .int (nI n)]))] Hq ∧ va_K (dC, dI) vwCl [(cI, FieldType.int), (cJ, FieldType.long), (cZ, FieldType.boolean)] U ∧ mz_N U)) (va_Qi (fun (r : Int32) (_ : Unit) => r = 0) (fun _ t => t.heap = Hq) (fun _ : Nat => False)) 0 0 (fun _ : Nat => False) := by
  refine Met.ofW (cc := cX7_fit) (maxL := 5) (ret := (some .boolean)) (by decide) rfl ?_
  intro p e s m args below meth c s₁ B hml hv
  obtain ⟨rfl, hH, hP, hK, hN⟩ := hv
  subst hH
  have hx := B.exec
  have hb := B.bytes
  have hr := B.returns
  have hts := atoms_spec (ws := wsX7_fit) B.pre
  have hown : s.vm.findClass RX7 = some m.cls := findClass_of_methodNamed B.named
  have hlocks := B.notSynchronized
  have hS : va_S (fun _ : Nat => False) s.heap s.heap [] := va_S.rf
  have hiX7 : ∀ w ∈ u_ws RX7 TX7 10, w ∈ wsX7_fit := by decide +kernel
  have hl := lv_entry ([.ref mx, .int p1, .int p2, .int p3]) (n := 5) (Nat.le_of_ble_eq_true rfl)
  rw [lg_entry_eq]
  generalize (lg_sl ([.ref mx, .int p1, .int p2, .int p3]) ++ List.replicate (5 - (lg_sl ([.ref mx, .int p1, .int p2, .int p3])).length) Slot.unset).toArray = ls at hl ⊢
  have hl : lv_has ls 5 [(0, .ref mx), (1, .int p1), (2, .int p2), (3, .int p3)] := hl
  refine lv_aload_n hx hb dX7_fit_0 rfl (lv_at hl 0 rfl) ?_
  refine lv_iload_n hx hb dX7_fit_1 rfl (lv_at hl 1 rfl) ?_
  refine lv_iload_n hx hb dX7_fit_2 rfl (lv_at hl 2 rfl) ?_
  have hPc := hP.sub (ws' := [(mx, .inr (7, [.ref dr, .ref th, .ref bk, .ref wt, .ref tt, .ref lh, .ref la, .int sh, .long ab, .long be])), (dr, .inr (2, [.ref dp, .ref dc, .int (nI n)]))]) [0, 1] rfl
  refine va_calli (va_runV (As := [.int p1, .int p2]) (rest := []) ⟨hx, hb, hml, hown, hts⟩ (mz_u_x_areTwo l dC dI cI cJ cZ mx dr th bk wt tt lh la sh ab be dp dc n p1 p2 s.heap (by first | assumption | omega)) (cwV 2 hts gX7_fit_X7_areTwo rfl rfl rfl (by decide +kernel) ⟨Nat.le_of_ble_eq_true rfl, Nat.le_of_ble_eq_true rfl⟩) ⟨fun a U g mk q => mz_blP q, va_recv hK hPc (ci := 7) (q0 := 0) rfl rfl, fun U hU hW => ⟨rfl, hU, hPc, va_K.moved hW.alike hK, mz_nw hW hN⟩⟩ rfl rfl hl.1 rfl (lv_room (Nat.le_of_ble_eq_true rfl)) dX7_fit_3 ⟨Nat.le_of_ble_eq_true rfl, Nat.le_of_ble_eq_true rfl⟩) hS (fun q _ h => h.elim) (fun q h => h.elim) (fun r_3 u t H1 locs ht hvm hw_3 hB hz1 hk1 hS => ?_)
  have hE : s.heap = H1 := hB.symm.trans ht
  subst hE
  rcases (show (r_3 = 1 ∧ ∃ i j : Nat, i < n ∧ j < n ∧ (¬ i = j) ∧ p1 = nI i ∧ p2 = nI j) ∨ r_3 = 0 from hw_3) with ⟨rfl, i_3, j_3, hi_3, hj_3, hne_3, he_3, hf_3⟩ | rfl
  · skip
    subst he_3
    subst hf_3
    refine lv_if_eq (tgt := 33) hx hb dX7_fit_6 (by decide) (fun c_6 => absurd c_6 (by decide +kernel)) (fun _ => ?_)
    refine lv_aload_n hx hb dX7_fit_9 rfl (lv_at hl 0 rfl) ?_
    refine lv_iload_n hx hb dX7_fit_10 rfl (lv_at hl 3 rfl) ?_
    have hPc := hP.sub (ws' := [(mx, .inr (7, [.ref dr, .ref th, .ref bk, .ref wt, .ref tt, .ref lh, .ref la, .int sh, .long ab, .long be])), (dr, .inr (2, [.ref dp, .ref dc, .int (nI n)]))]) [0, 1] rfl
    refine va_calli (va_runV (As := [.int p3]) (rest := []) ⟨hx, hb, hml, hown, hts⟩ (mz_h_x_isHeap l dC dI cI cJ cZ mx dr th bk wt tt lh la sh ab be dp dc n p3 s.heap (by first | assumption | omega)) (cwV 1 hts gX7_fit_X7_isHeap rfl rfl rfl (by decide +kernel) ⟨Nat.le_of_ble_eq_true rfl, Nat.le_of_ble_eq_true rfl⟩) ⟨fun a U g mk q => mz_blP q, va_recv hK hPc (ci := 7) (q0 := 0) rfl rfl, fun U hU hW => ⟨rfl, hU, hPc, va_K.moved hW.alike hK, mz_nw hW hN⟩⟩ rfl rfl hl.1 rfl (lv_room (Nat.le_of_ble_eq_true rfl)) dX7_fit_11 ⟨Nat.le_of_ble_eq_true rfl, Nat.le_of_ble_eq_true rfl⟩) hS (fun q _ h => h.elim) (fun q h => h.elim) (fun r_11 u t H1 locs ht hvm hw_11 hB hz1 hk1 hS => ?_)
    have hE : s.heap = H1 := hB.symm.trans ht
    subst hE
    rcases (show (r_11 = 1 ∧ mz_hp n p3) ∨ (r_11 = 0 ∧ ¬ mz_hp n p3) from hw_11) with ⟨rfl, hc_11⟩ | ⟨rfl, hc_11⟩
    · skip
      refine lv_if_eq (tgt := 33) hx hb dX7_fit_14 (by decide) (fun c_14 => absurd c_14 (by decide +kernel)) (fun _ => ?_)
      refine lv_iload_n hx hb dX7_fit_17 rfl (lv_at hl 3 rfl) ?_
      refine lv_iload_n hx hb dX7_fit_18 rfl (lv_at hl 1 rfl) ?_
      have hPc := hP.sub (ws' := []) [] rfl
      refine va_calli (va_runS (As := [.int p3, .int (nI i_3)]) (rest := []) ⟨hx, hb, hml, hown, hts⟩ (mz_e_inHeap l dC dI cI cJ cZ p3 i_3 s.heap (by first | assumption | omega)) (va_cwS 2 hts gX7_fit_X7_inHeap rfl rfl rfl (by decide +kernel) ⟨Nat.le_of_ble_eq_true rfl, Nat.le_of_ble_eq_true rfl⟩) ⟨fun a U g mk q => mz_blP q, fun U hU hW => ⟨rfl, hU, hPc, va_K.moved hW.alike hK, mz_nw hW hN⟩⟩ rfl rfl hl.1 rfl (lv_room (Nat.le_of_ble_eq_true rfl)) dX7_fit_19 ⟨Nat.le_of_ble_eq_true rfl, Nat.le_of_ble_eq_true rfl⟩) hS (fun q _ h => h.elim) (fun q h => h.elim) (fun r_19 u t H1 locs ht hvm hw_19 hB hz1 hk1 hS => ?_)
      have hE : s.heap = H1 := hB.symm.trans ht
      subst hE
      rcases (show (r_19 = 1 ∧ mz_t p3 i_3 = true) ∨ (r_19 = 0 ∧ mz_t p3 i_3 = false) from hw_19) with ⟨rfl, ht_19⟩ | ⟨rfl, ht_19⟩
      · skip
        refine lv_if_ne (tgt := 33) hx hb dX7_fit_22 (by decide) (fun _ => ?_) (fun c_22 => absurd c_22 (by decide +kernel))
        refine lv_iconst (v := 0) hx hb dX7_fit_33 (by decide +kernel) ?_
        refine W.widen (k := 0) (n := 0) (Nat.le_of_ble_eq_true rfl) (Nat.le_of_ble_eq_true rfl) ?_
        exact W.zret (v := 0) hx hb hr (mz_nz (by decide +kernel)) (fun t ht hW => ⟨⟨0, (), rfl, rfl, ht⟩, hS.F ht⟩) hS.2.2 dX7_fit_34
      · skip
        refine lv_if_ne (tgt := 33) hx hb dX7_fit_22 (by decide) (fun c_22 => absurd (by decide +kernel) c_22) (fun _ => ?_)
        refine lv_iload_n hx hb dX7_fit_25 rfl (lv_at hl 3 rfl) ?_
        refine lv_iload_n hx hb dX7_fit_26 rfl (lv_at hl 2 rfl) ?_
        have hPc := hP.sub (ws' := []) [] rfl
        refine va_calli (va_runS (As := [.int p3, .int (nI j_3)]) (rest := []) ⟨hx, hb, hml, hown, hts⟩ (mz_e_inHeap l dC dI cI cJ cZ p3 j_3 s.heap (by first | assumption | omega)) (va_cwS 2 hts gX7_fit_X7_inHeap rfl rfl rfl (by decide +kernel) ⟨Nat.le_of_ble_eq_true rfl, Nat.le_of_ble_eq_true rfl⟩) ⟨fun a U g mk q => mz_blP q, fun U hU hW => ⟨rfl, hU, hPc, va_K.moved hW.alike hK, mz_nw hW hN⟩⟩ rfl rfl hl.1 rfl (lv_room (Nat.le_of_ble_eq_true rfl)) dX7_fit_27 ⟨Nat.le_of_ble_eq_true rfl, Nat.le_of_ble_eq_true rfl⟩) hS (fun q _ h => h.elim) (fun q h => h.elim) (fun r_27 u t H1 locs ht hvm hw_27 hB hz1 hk1 hS => ?_)
        have hE : s.heap = H1 := hB.symm.trans ht
        subst hE
        rcases (show (r_27 = 1 ∧ mz_t p3 j_3 = true) ∨ (r_27 = 0 ∧ mz_t p3 j_3 = false) from hw_27) with ⟨rfl, ht_27⟩ | ⟨rfl, ht_27⟩
        · skip
          refine lv_if_eq (tgt := 35) hx hb dX7_fit_30 (by decide) (fun c_30 => absurd c_30 (by decide +kernel)) (fun _ => ?_)
          refine lv_iconst (v := 0) hx hb dX7_fit_33 (by decide +kernel) ?_
          refine W.widen (k := 0) (n := 0) (Nat.le_of_ble_eq_true rfl) (Nat.le_of_ble_eq_true rfl) ?_
          exact W.zret (v := 0) hx hb hr (mz_nz (by decide +kernel)) (fun t ht hW => ⟨⟨0, (), rfl, rfl, ht⟩, hS.F ht⟩) hS.2.2 dX7_fit_34
        · skip
          refine lv_if_eq (tgt := 35) hx hb dX7_fit_30 (by decide) (fun _ => ?_) (fun c_30 => absurd (by decide +kernel) c_30)
          refine lv_iload_n hx hb dX7_fit_35 rfl (lv_at hl 3 rfl) ?_
          refine lv_aload_n hx hb dX7_fit_36 rfl (lv_at hl 0 rfl) ?_
          refine va_get (D := (dC, dI)) (ci := 7) (v := .int sh) (C := RX7) (T := TX7) (N := 10) hx hb hts hiX7 hown hK hP 0 rfl rfl 7 (by decide) (hts (.fieldLink RX7 54 "MadeItSo" "seenHeap" "I") (by decide +kernel)) (fun _ h9 => h9) rfl dX7_fit_37 ?_
          refine lv_iconst (v := (-1)) hx hb dX7_fit_40 (by decide +kernel) ?_
          refine lv_ixor hx hb dX7_fit_41 ?_
          refine lv_iand hx hb dX7_fit_42 ?_
          refine lv_if_eq (tgt := 48) hx hb dX7_fit_43 (by decide) (fun c_43 => ?_) (fun c_43 => ?_)
          · skip
            exact absurd ⟨i_3, j_3, hi_3, hj_3, hne_3, rfl, rfl, hc_11, c_43, ht_19, ht_27⟩ hNF
          · skip
            refine lv_iconst (v := 0) hx hb dX7_fit_46 (by decide +kernel) ?_
            refine W.widen (k := 0) (n := 0) (Nat.le_of_ble_eq_true rfl) (Nat.le_of_ble_eq_true rfl) ?_
            exact W.zret (v := 0) hx hb hr (mz_nz (by decide +kernel)) (fun t ht hW => ⟨⟨0, (), rfl, rfl, ht⟩, hS.F ht⟩) hS.2.2 dX7_fit_47
    · skip
      refine lv_if_eq (tgt := 33) hx hb dX7_fit_14 (by decide) (fun _ => ?_) (fun c_14 => absurd (by decide +kernel) c_14)
      refine lv_iconst (v := 0) hx hb dX7_fit_33 (by decide +kernel) ?_
      refine W.widen (k := 0) (n := 0) (Nat.le_of_ble_eq_true rfl) (Nat.le_of_ble_eq_true rfl) ?_
      exact W.zret (v := 0) hx hb hr (mz_nz (by decide +kernel)) (fun t ht hW => ⟨⟨0, (), rfl, rfl, ht⟩, hS.F ht⟩) hS.2.2 dX7_fit_34
  · skip
    refine lv_if_eq (tgt := 33) hx hb dX7_fit_6 (by decide) (fun _ => ?_) (fun c_6 => absurd (by decide +kernel) c_6)
    refine lv_iconst (v := 0) hx hb dX7_fit_33 (by decide +kernel) ?_
    refine W.widen (k := 0) (n := 0) (Nat.le_of_ble_eq_true rfl) (Nat.le_of_ble_eq_true rfl) ?_
    exact W.zret (v := 0) hx hb hr (mz_nz (by decide +kernel)) (fun t ht hW => ⟨⟨0, (), rfl, rfl, ht⟩, hS.F ht⟩) hS.2.2 dX7_fit_34
set_option maxHeartbeats 1000000 in
set_option maxRecDepth 100000 in
theorem mz_u_m_isLeast (l : Launch) (dC : Nat → ClassId) (dI : Nat → Nat → Nat) (cI cJ cZ : ClassId) (mo : Nat) (m1 : Nat) (m2 : Nat) (m3 : Nat) (m6 : Nat) (m7 : Nat) (m8 : Nat) (m9 : Nat) (m10 : Nat) (m11 : Nat) (m12 : Nat) (m13 : Nat) (m14 : Nat) (m15 : Nat) (m16 : Nat) (n : Nat) (ka : Int64) (kb : Int64) (fr : Nat → Int32) (z : Nat) (PQ : Nat → Prop) (Hq : Heap) (hz : z < 256) (htab : mz_tab PQ 256 fr) : Met l yX8_isLeast wsX8_isLeast ({ frames := 0, cells := 0, slots := 0, locals := 0 }) (va_Pc [.ref mo, .int (nI z)] (fun U => U.heap = Hq ∧ va_P (dC, dI) vwCl [(mo, .inr (8, [.int (nI n), .ref m1, .ref m2, .ref m3, .long ka, .long kb, .ref m6, .ref m7, .ref m8, .ref m9, .ref m10, .ref m11, .ref m12, .ref m13, .ref m14, .ref m15, .ref m16])), (m8, .inl (cZ, 256, .inl fr))] Hq ∧ va_K (dC, dI) vwCl [(cI, FieldType.int), (cJ, FieldType.long), (cZ, FieldType.boolean)] U ∧ mz_N U)) (va_Qi (fun (r : Int32) (_ : Unit) => (r = 1 ∧ mz_lp PQ z) ∨ (r = 0 ∧ ¬ mz_lp PQ z)) (fun _ t => t.heap = Hq) (fun _ : Nat => False)) 0 0 (fun _ : Nat => False) := by
  refine Met.ofW (cc := cX8_isLeast) (maxL := 3) (ret := (some .boolean)) (by decide) rfl ?_
  intro p e s m args below meth c s₁ B hml hv
  obtain ⟨rfl, hH, hP, hK, hN⟩ := hv
  subst hH
  have hx := B.exec
  have hb := B.bytes
  have hr := B.returns
  have hts := atoms_spec (ws := wsX8_isLeast) B.pre
  have hown : s.vm.findClass RX8 = some m.cls := findClass_of_methodNamed B.named
  have hlocks := B.notSynchronized
  have hS : va_S (fun _ : Nat => False) s.heap s.heap [] := va_S.rf
  have hiX8 : ∀ w ∈ u_ws RX8 TX8 17, w ∈ wsX8_isLeast := by decide +kernel
  have hl := lv_entry ([.ref mo, .int (nI z)]) (n := 3) (Nat.le_of_ble_eq_true rfl)
  rw [lg_entry_eq]
  generalize (lg_sl ([.ref mo, .int (nI z)]) ++ List.replicate (3 - (lg_sl ([.ref mo, .int (nI z)])).length) Slot.unset).toArray = ls at hl ⊢
  have hl : lv_has ls 3 [(0, .ref mo), (1, .int (nI z))] := hl
  refine lv_aload_n hx hb dX8_isLeast_0 rfl (lv_at hl 0 rfl) ?_
  refine va_get (D := (dC, dI)) (ci := 8) (v := .ref m8) (C := RX8) (T := TX8) (N := 17) hx hb hts hiX8 hown hK hP 0 rfl rfl 8 (by decide) (hts (.fieldLink RX8 30 "MadeItSoModel" "isBarring" "[Z") (by decide +kernel)) (fun _ h9 => h9) rfl dX8_isLeast_1 ?_
  refine lv_iload_n hx hb dX8_isLeast_4 rfl (lv_at hl 1 rfl) ?_
  refine va_zald hx hb hK hP 1 2 rfl rfl (vp_in_nI (by omega) (by omega)) dX8_isLeast_5 ?_
  refine mz_ti (y := (fr z)) (by rw [mz_cl (by omega)]) ?_
  refine lv_if_ne (tgt := 11) hx hb dX8_isLeast_6 (by decide) (fun c_6 => ?_) (fun c_6 => ?_)
  · skip
    refine lv_iconst (v := 0) hx hb dX8_isLeast_11 (by decide +kernel) ?_
    refine lv_istore_n (lv' := [(2, .int 0), (0, .ref mo), (1, .int (nI z))]) hx hb dX8_isLeast_12 rfl hl (by decide) rfl (fun ls hl => ?_)
    refine mz_loopU (fun k H locs ls => ∃ (i_13 : Nat), i_13 ≤ z ∧ (∀ s9, s9 < i_13 → mz_ss (nI s9) (nI z) → ¬ PQ s9) ∧ H = s.heap ∧ va_S (fun _ : Nat => False) s.heap H locs ∧ lv_has ls 3 [(2, .int (nI i_13)), (0, .ref mo), (1, .int (nI z))] ∧ k = z - i_13) ?_ _ _ _ _ ⟨0, by omega, (fun s9 hs9 => absurd hs9 (Nat.not_lt_zero s9)), rfl, hS, lv_sub hl [0, 1, 2] rfl, rfl⟩
    intro k_13 H locs ls hI_13 ih_13
    obtain ⟨i_13, hi_13, hs_13, hH_13, hS, hl, hk_13⟩ := hI_13
    subst hH_13
    refine lv_iload_n hx hb dX8_isLeast_13 rfl (lv_at hl 0 rfl) ?_
    refine lv_iload_n hx hb dX8_isLeast_14 rfl (lv_at hl 2 rfl) ?_
    refine lv_icmp_ge (tgt := 42) hx hb dX8_isLeast_15 (by decide) (fun c_15 => ?_) (fun c_15 => ?_)
    · skip
      have d_15 : z ≤ i_13 := (nI_leI (a := z) (b := i_13) (by omega) (by omega)).mp c_15
      refine lv_iconst (v := 1) hx hb dX8_isLeast_42 (by decide +kernel) ?_
      refine W.widen (k := 0) (n := 0) (Nat.le_of_ble_eq_true rfl) (Nat.le_of_ble_eq_true rfl) ?_
      exact W.zret (v := 1) hx hb hr (mz_nz (by decide +kernel)) (fun t ht hW => ⟨⟨1, (), rfl, Or.inl ⟨rfl, mz_tab_1 htab hz c_6, fun s9 hs9 => hs_13 s9 (by omega)⟩, ht⟩, hS.F ht⟩) hS.2.2 dX8_isLeast_43
    · skip
      have d_15 : ¬ z ≤ i_13 := fun h => c_15 ((nI_leI (a := z) (b := i_13) (by omega) (by omega)).mpr h)
      refine lv_iload_n hx hb dX8_isLeast_18 rfl (lv_at hl 0 rfl) ?_
      refine lv_iload_n hx hb dX8_isLeast_19 rfl (lv_at hl 2 rfl) ?_
      refine lv_iand hx hb dX8_isLeast_20 ?_
      refine lv_iload_n hx hb dX8_isLeast_21 rfl (lv_at hl 0 rfl) ?_
      refine lv_icmp_ne (tgt := 36) hx hb dX8_isLeast_22 (by decide) (fun c_22 => ?_) (fun c_22 => ?_)
      · skip
        refine lv_iinc (v := (nI (i_13 + 1))) (lv' := [(2, .int (nI (i_13 + 1))), (0, .ref mo), (1, .int (nI z))]) hx hb dX8_isLeast_36 hl (k := 0) rfl (nI_1 _) (by decide) rfl (fun ls hl => ?_)
        refine lv_goto (tgt := 13) hx hb dX8_isLeast_39 (by decide) ?_
        exact ih_13 _ (by omega) _ _ _ ⟨(i_13 + 1), by omega, (mz_il_s hs_13 (fun h9 => absurd (mz_ss_and.mpr h9) c_22)), rfl, hS, lv_sub hl [0, 1, 2] rfl, rfl⟩
      · skip
        refine lv_aload_n hx hb dX8_isLeast_25 rfl (lv_at hl 1 rfl) ?_
        refine va_get (D := (dC, dI)) (ci := 8) (v := .ref m8) (C := RX8) (T := TX8) (N := 17) hx hb hts hiX8 hown hK hP 0 rfl rfl 8 (by decide) (hts (.fieldLink RX8 30 "MadeItSoModel" "isBarring" "[Z") (by decide +kernel)) (fun _ h9 => h9) rfl dX8_isLeast_26 ?_
        refine lv_iload_n hx hb dX8_isLeast_29 rfl (lv_at hl 0 rfl) ?_
        refine va_zald hx hb hK hP 1 2 rfl rfl (vp_in_nI (by omega) (by omega)) dX8_isLeast_30 ?_
        refine mz_ti (y := (fr i_13)) (by rw [mz_cl (by omega)]) ?_
        refine lv_if_eq (tgt := 36) hx hb dX8_isLeast_31 (by decide) (fun c_31 => ?_) (fun c_31 => ?_)
        · skip
          refine lv_iinc (v := (nI (i_13 + 1))) (lv' := [(2, .int (nI (i_13 + 1))), (0, .ref mo), (1, .int (nI z))]) hx hb dX8_isLeast_36 hl (k := 0) rfl (nI_1 _) (by decide) rfl (fun ls hl => ?_)
          refine lv_goto (tgt := 13) hx hb dX8_isLeast_39 (by decide) ?_
          exact ih_13 _ (by omega) _ _ _ ⟨(i_13 + 1), by omega, (mz_il_s hs_13 (fun _ => mz_tab_z htab (by omega) c_31)), rfl, hS, lv_sub hl [0, 1, 2] rfl, rfl⟩
        · skip
          refine lv_iconst (v := 0) hx hb dX8_isLeast_34 (by decide +kernel) ?_
          refine W.widen (k := 0) (n := 0) (Nat.le_of_ble_eq_true rfl) (Nat.le_of_ble_eq_true rfl) ?_
          exact W.zret (v := 0) hx hb hr (mz_nz (by decide +kernel)) (fun t ht hW => ⟨⟨0, (), rfl, Or.inr ⟨rfl, fun q => q.2 i_13 (by omega) (mz_ss_and.mp c_22) (mz_tab_1 htab (by omega) c_31)⟩, ht⟩, hS.F ht⟩) hS.2.2 dX8_isLeast_35
  · skip
    refine lv_iconst (v := 0) hx hb dX8_isLeast_9 (by decide +kernel) ?_
    refine W.widen (k := 0) (n := 0) (Nat.le_of_ble_eq_true rfl) (Nat.le_of_ble_eq_true rfl) ?_
    exact W.zret (v := 0) hx hb hr (mz_nz (by decide +kernel)) (fun t ht hW => ⟨⟨0, (), rfl, Or.inr ⟨rfl, fun q => mz_tab_z htab hz c_6 q.1⟩, ht⟩, hS.F ht⟩) hS.2.2 dX8_isLeast_10
set_option maxHeartbeats 1000000 in
set_option maxRecDepth 100000 in
theorem mz_u_m_works (l : Launch) (dC : Nat → ClassId) (dI : Nat → Nat → Nat) (cI cJ cZ : ClassId) (mo : Nat) (m1 : Nat) (m2 : Nat) (m3 : Nat) (m6 : Nat) (m7 : Nat) (m8 : Nat) (m9 : Nat) (m10 : Nat) (m11 : Nat) (m12 : Nat) (m13 : Nat) (m14 : Nat) (m15 : Nat) (m16 : Nat) (n : Nat) (ka : Int64) (kb : Int64) (fs : Nat → Int32) (fp : Nat → Int32) (fw : Nat → Int32) (ft : Nat → Int32) (fr : Nat → Int32) (i : Nat) (j : Nat) (sh : Int32) (sz : Nat) (hn : n ≤ 8) (hi : i < n) (hj : j < n) (hne : ¬ i = j) (hgb : ∀ k, k < n → ∀ j, j < 32 → mz_t (fp k) j = true → j < n) (hsn : mz_sn n sh fs) : Met l yX8_works wsX8_works ({ frames := 5, cells := 0, slots := 0, locals := 136 }) (va_Pc [.ref mo, .int (nI i), .int (nI j)] (fun U => U.heap.size = sz ∧ va_P (dC, dI) vwCl [(mo, .inr (8, [.int (nI n), .ref m1, .ref m2, .ref m3, .long ka, .long kb, .ref m6, .ref m7, .ref m8, .ref m9, .ref m10, .ref m11, .ref m12, .ref m13, .ref m14, .ref m15, .ref m16])), (m1, .inl (cZ, 8, .inl fs)), (m2, .inl (cI, 8, .inl fp)), (m6, .inl (cI, 8, .inl fw)), (m7, .inl (cI, 9, .inl ft)), (m8, .inl (cZ, 256, .inl fr))] U.heap ∧ va_K (dC, dI) vwCl [(cI, FieldType.int), (cJ, FieldType.long), (cZ, FieldType.boolean)] U ∧ va_D (fun _ => True) [(mo, .inr (8, [.int (nI n), .ref m1, .ref m2, .ref m3, .long ka, .long kb, .ref m6, .ref m7, .ref m8, .ref m9, .ref m10, .ref m11, .ref m12, .ref m13, .ref m14, .ref m15, .ref m16])), (m1, .inl (cZ, 8, .inl fs)), (m2, .inl (cI, 8, .inl fp)), (m6, .inl (cI, 8, .inl fw)), (m7, .inl (cI, 9, .inl ft)), (m8, .inl (cZ, 256, .inl fr))] ∧ mz_N U)) (va_Qi (fun (r : Int32) (_ : Unit) => r = 1) (fun _ t => ∃ (gw : Nat → Int32), ∃ (gt : Nat → Int32), ∃ (gr : Nat → Int32), (mz_tab (mz_PB n fp (mz_amg sh i j) i j) 256 gr) ∧ va_P (dC, dI) vwCl [(mo, .inr (8, [.int (nI n), .ref m1, .ref m2, .ref m3, .long ka, .long kb, .ref m6, .ref m7, .ref m8, .ref m9, .ref m10, .ref m11, .ref m12, .ref m13, .ref m14, .ref m15, .ref m16])), (m1, .inl (cZ, 8, .inl fs)), (m2, .inl (cI, 8, .inl fp)), (m6, .inl (cI, 8, .inl gw)), (m7, .inl (cI, 9, .inl gt)), (m8, .inl (cZ, 256, .inl gr))] t.heap ∧ va_D (va_A [(mo, .inr (8, [.int (nI n), .ref m1, .ref m2, .ref m3, .long ka, .long kb, .ref m6, .ref m7, .ref m8, .ref m9, .ref m10, .ref m11, .ref m12, .ref m13, .ref m14, .ref m15, .ref m16])), (m1, .inl (cZ, 8, .inl fs)), (m2, .inl (cI, 8, .inl fp)), (m6, .inl (cI, 8, .inl fw)), (m7, .inl (cI, 9, .inl ft)), (m8, .inl (cZ, 256, .inl fr))] sz) [(mo, .inr (8, [.int (nI n), .ref m1, .ref m2, .ref m3, .long ka, .long kb, .ref m6, .ref m7, .ref m8, .ref m9, .ref m10, .ref m11, .ref m12, .ref m13, .ref m14, .ref m15, .ref m16])), (m1, .inl (cZ, 8, .inl fs)), (m2, .inl (cI, 8, .inl fp)), (m6, .inl (cI, 8, .inl gw)), (m7, .inl (cI, 9, .inl gt)), (m8, .inl (cZ, 256, .inl gr))]) (va_A [(mo, .inr (8, [.int (nI n), .ref m1, .ref m2, .ref m3, .long ka, .long kb, .ref m6, .ref m7, .ref m8, .ref m9, .ref m10, .ref m11, .ref m12, .ref m13, .ref m14, .ref m15, .ref m16])), (m1, .inl (cZ, 8, .inl fs)), (m2, .inl (cI, 8, .inl fp)), (m6, .inl (cI, 8, .inl fw)), (m7, .inl (cI, 9, .inl ft)), (m8, .inl (cZ, 256, .inl fr))] sz)) 0 0 (va_A [(mo, .inr (8, [.int (nI n), .ref m1, .ref m2, .ref m3, .long ka, .long kb, .ref m6, .ref m7, .ref m8, .ref m9, .ref m10, .ref m11, .ref m12, .ref m13, .ref m14, .ref m15, .ref m16])), (m1, .inl (cZ, 8, .inl fs)), (m2, .inl (cI, 8, .inl fp)), (m6, .inl (cI, 8, .inl fw)), (m7, .inl (cI, 9, .inl ft)), (m8, .inl (cZ, 256, .inl fr))] sz) := by
  refine Met.ofW (cc := cX8_works) (maxL := 5) (ret := (some .boolean)) (by decide) rfl ?_
  intro p e s m args below meth c s₁ B hml hv
  obtain ⟨rfl, hsz, hP, hK, hD0, hN⟩ := hv
  subst hsz
  have hx := B.exec
  have hb := B.bytes
  have hr := B.returns
  have hts := atoms_spec (ws := wsX8_works) B.pre
  have hown : s.vm.findClass RX8 = some m.cls := findClass_of_methodNamed B.named
  have hlocks := B.notSynchronized
  have hD := hD0.self (sz := s.heap.size)
  generalize hAe : va_A [(mo, .inr (8, [.int (nI n), .ref m1, .ref m2, .ref m3, .long ka, .long kb, .ref m6, .ref m7, .ref m8, .ref m9, .ref m10, .ref m11, .ref m12, .ref m13, .ref m14, .ref m15, .ref m16])), (m1, .inl (cZ, 8, .inl fs)), (m2, .inl (cI, 8, .inl fp)), (m6, .inl (cI, 8, .inl fw)), (m7, .inl (cI, 9, .inl ft)), (m8, .inl (cZ, 256, .inl fr))] s.heap.size = A at hD ⊢
  have hA : ∀ q : Nat, s.heap.size ≤ q → A q := fun q h => by rw [← hAe]; exact Or.inr h
  have hS : va_S A s.heap s.heap [] := va_S.rf
  have hiX8 : ∀ w ∈ u_ws RX8 TX8 17, w ∈ wsX8_works := by decide +kernel
  have hl := lv_entry ([.ref mo, .int (nI i), .int (nI j)]) (n := 5) (Nat.le_of_ble_eq_true rfl)
  rw [lg_entry_eq]
  generalize (lg_sl ([.ref mo, .int (nI i), .int (nI j)]) ++ List.replicate (5 - (lg_sl ([.ref mo, .int (nI i), .int (nI j)])).length) Slot.unset).toArray = ls at hl ⊢
  have hl : lv_has ls 5 [(0, .ref mo), (1, .int (nI i)), (2, .int (nI j))] := hl
  refine lv_aload_n hx hb dX8_works_0 rfl (lv_at hl 0 rfl) ?_
  refine lv_iload_n hx hb dX8_works_1 rfl (lv_at hl 1 rfl) ?_
  have hPc := hP.sub (ws' := [(mo, .inr (8, [.int (nI n), .ref m1, .ref m2, .ref m3, .long ka, .long kb, .ref m6, .ref m7, .ref m8, .ref m9, .ref m10, .ref m11, .ref m12, .ref m13, .ref m14, .ref m15, .ref m16]))]) [0] rfl
  refine va_calli (va_runV (As := [.int (nI i)]) (rest := []) ⟨hx, hb, hml, hown, hts⟩ (mz_m_isThing_in l dC dI cI cJ cZ mo m1 m2 m3 m6 m7 m8 m9 m10 m11 m12 m13 m14 m15 m16 n ka kb i s.heap (by first | assumption | omega) (by first | assumption | omega)) (cwV 1 hts gX8_works_X8_isThing rfl rfl rfl (by decide +kernel) ⟨Nat.le_of_ble_eq_true rfl, Nat.le_of_ble_eq_true rfl⟩) ⟨fun a U g mk q => mz_blP q, va_recv hK hPc (ci := 8) (q0 := 0) rfl rfl, fun U hU hW => ⟨rfl, hU, hPc, va_K.moved hW.alike hK, mz_nw hW hN⟩⟩ rfl rfl hl.1 rfl (lv_room (Nat.le_of_ble_eq_true rfl)) dX8_works_2 ⟨Nat.le_of_ble_eq_true rfl, Nat.le_of_ble_eq_true rfl⟩) hS (fun q _ h => h.elim) (fun q h => h.elim) (fun r_2 u t H1 locs ht hvm hw_2 hB hz1 hk1 hS => ?_)
  have hE : s.heap = H1 := hB.symm.trans ht
  subst hE
  obtain rfl : r_2 = 1 := hw_2
  refine lv_if_eq (tgt := 21) hx hb dX8_works_5 (by decide) (fun c_5 => absurd c_5 (by decide +kernel)) (fun _ => ?_)
  refine lv_aload_n hx hb dX8_works_8 rfl (lv_at hl 0 rfl) ?_
  refine lv_iload_n hx hb dX8_works_9 rfl (lv_at hl 2 rfl) ?_
  have hPc := hP.sub (ws' := [(mo, .inr (8, [.int (nI n), .ref m1, .ref m2, .ref m3, .long ka, .long kb, .ref m6, .ref m7, .ref m8, .ref m9, .ref m10, .ref m11, .ref m12, .ref m13, .ref m14, .ref m15, .ref m16]))]) [0] rfl
  refine va_calli (va_runV (As := [.int (nI j)]) (rest := []) ⟨hx, hb, hml, hown, hts⟩ (mz_m_isThing_in l dC dI cI cJ cZ mo m1 m2 m3 m6 m7 m8 m9 m10 m11 m12 m13 m14 m15 m16 n ka kb j s.heap (by first | assumption | omega) (by first | assumption | omega)) (cwV 1 hts gX8_works_X8_isThing rfl rfl rfl (by decide +kernel) ⟨Nat.le_of_ble_eq_true rfl, Nat.le_of_ble_eq_true rfl⟩) ⟨fun a U g mk q => mz_blP q, va_recv hK hPc (ci := 8) (q0 := 0) rfl rfl, fun U hU hW => ⟨rfl, hU, hPc, va_K.moved hW.alike hK, mz_nw hW hN⟩⟩ rfl rfl hl.1 rfl (lv_room (Nat.le_of_ble_eq_true rfl)) dX8_works_10 ⟨Nat.le_of_ble_eq_true rfl, Nat.le_of_ble_eq_true rfl⟩) hS (fun q _ h => h.elim) (fun q h => h.elim) (fun r_10 u t H1 locs ht hvm hw_10 hB hz1 hk1 hS => ?_)
  have hE : s.heap = H1 := hB.symm.trans ht
  subst hE
  obtain rfl : r_10 = 1 := hw_10
  refine lv_if_eq (tgt := 21) hx hb dX8_works_13 (by decide) (fun c_13 => absurd c_13 (by decide +kernel)) (fun _ => ?_)
  refine lv_iload_n hx hb dX8_works_16 rfl (lv_at hl 1 rfl) ?_
  refine lv_iload_n hx hb dX8_works_17 rfl (lv_at hl 2 rfl) ?_
  refine lv_icmp_ne (tgt := 23) hx hb dX8_works_18 (by decide) (fun _ => ?_) (fun c_18 => absurd c_18 (fun h => hne ((nI_eq (by omega) (by omega)).mp h)))
  refine lv_aload_n hx hb dX8_works_23 rfl (lv_at hl 0 rfl) ?_
  have hPc := hP.sub (ws' := [(mo, .inr (8, [.int (nI n), .ref m1, .ref m2, .ref m3, .long ka, .long kb, .ref m6, .ref m7, .ref m8, .ref m9, .ref m10, .ref m11, .ref m12, .ref m13, .ref m14, .ref m15, .ref m16])), (m1, .inl (cZ, 8, .inl fs))]) [0, 1] rfl
  refine va_calli (va_runV (As := []) (rest := []) ⟨hx, hb, hml, hown, hts⟩ (mz_f_m_seen l dC dI cI cJ cZ mo m1 m2 m3 m6 m7 m8 m9 m10 m11 m12 m13 m14 m15 m16 n ka kb fs s.heap (by first | assumption | omega)) (cwV 0 hts gX8_works_X8_seen rfl rfl rfl (by decide +kernel) ⟨Nat.le_of_ble_eq_true rfl, Nat.le_of_ble_eq_true rfl⟩) ⟨fun a U g mk q => mz_blP q, va_recv hK hPc (ci := 8) (q0 := 0) rfl rfl, fun U hU hW => ⟨rfl, hU, hPc, va_K.moved hW.alike hK, mz_nw hW hN⟩⟩ rfl rfl hl.1 rfl (lv_room (Nat.le_of_ble_eq_true rfl)) dX8_works_24 ⟨Nat.le_of_ble_eq_true rfl, Nat.le_of_ble_eq_true rfl⟩) hS (fun q _ h => h.elim) (fun q h => h.elim) (fun r_24 u t H1 locs ht hvm hw_24 hB hz1 hk1 hS => ?_)
  have hE : s.heap = H1 := hB.symm.trans ht
  subst hE
  refine mz_ti (y := sh) (mz_sn_one hw_24 hsn) ?_
  refine lv_iconst (v := 1) hx hb dX8_works_27 (by decide +kernel) ?_
  refine lv_iload_n hx hb dX8_works_28 rfl (lv_at hl 1 rfl) ?_
  refine lv_ishl hx hb dX8_works_29 ?_
  refine lv_iconst (v := (-1)) hx hb dX8_works_30 (by decide +kernel) ?_
  refine lv_ixor hx hb dX8_works_31 ?_
  refine lv_iand hx hb dX8_works_32 ?_
  refine lv_iconst (v := 1) hx hb dX8_works_33 (by decide +kernel) ?_
  refine lv_iload_n hx hb dX8_works_34 rfl (lv_at hl 2 rfl) ?_
  refine lv_ishl hx hb dX8_works_35 ?_
  refine lv_iconst (v := (-1)) hx hb dX8_works_36 (by decide +kernel) ?_
  refine lv_ixor hx hb dX8_works_37 ?_
  refine lv_iand hx hb dX8_works_38 ?_
  refine mz_ti (y := (mz_amg sh i j)) rfl ?_
  refine lv_istore_n (lv' := [(3, .int (mz_amg sh i j)), (0, .ref mo), (1, .int (nI i)), (2, .int (nI j))]) hx hb dX8_works_39 rfl hl (by decide) rfl (fun ls hl => ?_)
  refine lv_iconst (v := 0) hx hb dX8_works_40 (by decide +kernel) ?_
  refine lv_istore (lv' := [(4, .int 0), (3, .int (mz_amg sh i j)), (0, .ref mo), (1, .int (nI i)), (2, .int (nI j))]) hx hb dX8_works_41 hl (by decide) rfl (fun ls hl => ?_)
  refine mz_loopU (fun k H locs ls => ∃ (i_43 : Nat), ∃ (fm6_43 : Nat → Int32), ∃ (fm7_43 : Nat → Int32), ∃ (fm8_43 : Nat → Int32), i_43 ≤ 256 ∧ (mz_tab (mz_PB n fp (mz_amg sh i j) i j) i_43 fm8_43) ∧ va_P (dC, dI) vwCl [(mo, .inr (8, [.int (nI n), .ref m1, .ref m2, .ref m3, .long ka, .long kb, .ref m6, .ref m7, .ref m8, .ref m9, .ref m10, .ref m11, .ref m12, .ref m13, .ref m14, .ref m15, .ref m16])), (m1, .inl (cZ, 8, .inl fs)), (m2, .inl (cI, 8, .inl fp)), (m6, .inl (cI, 8, .inl fm6_43)), (m7, .inl (cI, 9, .inl fm7_43)), (m8, .inl (cZ, 256, .inl fm8_43))] H ∧ va_D A [(mo, .inr (8, [.int (nI n), .ref m1, .ref m2, .ref m3, .long ka, .long kb, .ref m6, .ref m7, .ref m8, .ref m9, .ref m10, .ref m11, .ref m12, .ref m13, .ref m14, .ref m15, .ref m16])), (m1, .inl (cZ, 8, .inl fs)), (m2, .inl (cI, 8, .inl fp)), (m6, .inl (cI, 8, .inl fm6_43)), (m7, .inl (cI, 9, .inl fm7_43)), (m8, .inl (cZ, 256, .inl fm8_43))] ∧ va_S A s.heap H locs ∧ lv_has ls 5 [(4, .int (nI i_43)), (3, .int (mz_amg sh i j)), (0, .ref mo), (1, .int (nI i)), (2, .int (nI j))] ∧ k = 256 - i_43) ?_ _ _ _ _ ⟨0, fw, ft, fr, by omega, mz_tab_0, hP, hD, hS, lv_sub hl [0, 1, 2, 3, 4] rfl, rfl⟩
  intro k_43 H locs ls hI_43 ih_43
  obtain ⟨i_43, fm6_43, fm7_43, fm8_43, hi_43, hb_43, hP, hD, hS, hl, hk_43⟩ := hI_43
  refine lv_iload hx hb dX8_works_43 (lv_at hl 0 rfl) ?_
  refine lv_sipush (v := 256) hx hb dX8_works_45 (by decide +kernel) ?_
  refine lv_icmp_ge (tgt := 95) hx hb dX8_works_48 (by decide) (fun c_48 => ?_) (fun c_48 => ?_)
  · skip
    have d_48 : 256 ≤ i_43 := (nI_leI (a := 256) (b := i_43) (by omega) (by omega)).mp c_48
    refine lv_iconst (v := 1) hx hb dX8_works_95 (by decide +kernel) ?_
    have hP9 := hP.sub (ws' := [(mo, .inr (8, [.int (nI n), .ref m1, .ref m2, .ref m3, .long ka, .long kb, .ref m6, .ref m7, .ref m8, .ref m9, .ref m10, .ref m11, .ref m12, .ref m13, .ref m14, .ref m15, .ref m16])), (m1, .inl (cZ, 8, .inl fs)), (m2, .inl (cI, 8, .inl fp)), (m6, .inl (cI, 8, .inl fm6_43)), (m7, .inl (cI, 9, .inl fm7_43)), (m8, .inl (cZ, 256, .inl fm8_43))]) [0, 1, 2, 3, 4, 5] rfl
    have hD9 := hD.sub (ws' := [(mo, .inr (8, [.int (nI n), .ref m1, .ref m2, .ref m3, .long ka, .long kb, .ref m6, .ref m7, .ref m8, .ref m9, .ref m10, .ref m11, .ref m12, .ref m13, .ref m14, .ref m15, .ref m16])), (m1, .inl (cZ, 8, .inl fs)), (m2, .inl (cI, 8, .inl fp)), (m6, .inl (cI, 8, .inl fm6_43)), (m7, .inl (cI, 9, .inl fm7_43)), (m8, .inl (cZ, 256, .inl fm8_43))]) [0, 1, 2, 3, 4, 5] (by decide) rfl
    refine W.widen (k := 0) (n := 0) (Nat.le_of_ble_eq_true rfl) (Nat.le_of_ble_eq_true rfl) ?_
    exact W.zret (v := 1) hx hb hr (mz_nz (by decide +kernel)) (fun t ht hW => ⟨⟨1, (), rfl, rfl, fm6_43, fm7_43, fm8_43, (by obtain rfl : i_43 = 256 := (by omega); exact hb_43), by rw [ht]; exact hP9, hD9⟩, hS.F ht⟩) hS.2.2 dX8_works_96
  · skip
    have d_48 : ¬ 256 ≤ i_43 := fun h => c_48 ((nI_leI (a := 256) (b := i_43) (by omega) (by omega)).mpr h)
    refine lv_aload_n hx hb dX8_works_51 rfl (lv_at hl 2 rfl) ?_
    refine va_get (D := (dC, dI)) (ci := 8) (v := .ref m8) (C := RX8) (T := TX8) (N := 17) hx hb hts hiX8 hown hK hP 0 rfl rfl 8 (by decide) (hts (.fieldLink RX8 30 "MadeItSoModel" "isBarring" "[Z") (by decide +kernel)) (fun _ h9 => h9) rfl dX8_works_52 ?_
    refine lv_iload hx hb dX8_works_55 (lv_at hl 0 rfl) ?_
    refine lv_iload hx hb dX8_works_57 (lv_at hl 0 rfl) ?_
    refine lv_iload_n hx hb dX8_works_59 rfl (lv_at hl 1 rfl) ?_
    refine lv_iconst (v := (-1)) hx hb dX8_works_60 (by decide +kernel) ?_
    refine lv_ixor hx hb dX8_works_61 ?_
    refine lv_iand hx hb dX8_works_62 ?_
    refine lv_if_ne (tgt := 87) hx hb dX8_works_63 (by decide) (fun c_63 => ?_) (fun c_63 => ?_)
    · skip
      refine lv_iconst (v := 0) hx hb dX8_works_87 (by decide +kernel) ?_
      refine va_zast hx hb hK hP hD hS 5 2 rfl rfl (vp_in_nI (by omega) (by omega)) dX8_works_88 (fun H locs hP hD hS => ?_)
      rw [mz_cl (n := i_43) (by omega)] at hP hD
      have hP : va_P (dC, dI) vwCl [(mo, .inr (8, [.int (nI n), .ref m1, .ref m2, .ref m3, .long ka, .long kb, .ref m6, .ref m7, .ref m8, .ref m9, .ref m10, .ref m11, .ref m12, .ref m13, .ref m14, .ref m15, .ref m16])), (m1, .inl (cZ, 8, .inl fs)), (m2, .inl (cI, 8, .inl fp)), (m6, .inl (cI, 8, .inl fm6_43)), (m7, .inl (cI, 9, .inl fm7_43)), (m8, .inl (cZ, 256, .inl (upd fm8_43 i_43 (vp_nar .boolean 0))))] H := hP
      have hD : va_D A [(mo, .inr (8, [.int (nI n), .ref m1, .ref m2, .ref m3, .long ka, .long kb, .ref m6, .ref m7, .ref m8, .ref m9, .ref m10, .ref m11, .ref m12, .ref m13, .ref m14, .ref m15, .ref m16])), (m1, .inl (cZ, 8, .inl fs)), (m2, .inl (cI, 8, .inl fp)), (m6, .inl (cI, 8, .inl fm6_43)), (m7, .inl (cI, 9, .inl fm7_43)), (m8, .inl (cZ, 256, .inl (upd fm8_43 i_43 (vp_nar .boolean 0))))] := hD
      refine lv_iinc (v := (nI (i_43 + 1))) (lv' := [(4, .int (nI (i_43 + 1))), (3, .int (mz_amg sh i j)), (0, .ref mo), (1, .int (nI i)), (2, .int (nI j))]) hx hb dX8_works_89 hl (k := 0) rfl (nI_1 _) (by decide) rfl (fun ls hl => ?_)
      refine lv_goto (tgt := 43) hx hb dX8_works_92 (by decide) ?_
      exact ih_43 _ (by omega) _ _ _ ⟨(i_43 + 1), fm6_43, fm7_43, (upd fm8_43 i_43 (vp_nar .boolean 0)), by omega, (mz_tab_n hb_43 (mz_wk_n1 (by omega) c_63)), hP, hD, hS, lv_sub hl [0, 1, 2, 3, 4] rfl, rfl⟩
    · skip
      refine lv_aload_n hx hb dX8_works_66 rfl (lv_at hl 2 rfl) ?_
      refine lv_iconst (v := 1) hx hb dX8_works_67 (by decide +kernel) ?_
      refine lv_iload_n hx hb dX8_works_68 rfl (lv_at hl 3 rfl) ?_
      refine lv_ishl hx hb dX8_works_69 ?_
      refine lv_iconst (v := 1) hx hb dX8_works_70 (by decide +kernel) ?_
      refine lv_iload_n hx hb dX8_works_71 rfl (lv_at hl 4 rfl) ?_
      refine lv_ishl hx hb dX8_works_72 ?_
      refine lv_iload hx hb dX8_works_73 (lv_at hl 0 rfl) ?_
      refine lv_iconst (v := 0) hx hb dX8_works_75 (by decide +kernel) ?_
      refine lv_iconst (v := 0) hx hb dX8_works_76 (by decide +kernel) ?_
      have hPc := hP.sub (ws' := [(mo, .inr (8, [.int (nI n), .ref m1, .ref m2, .ref m3, .long ka, .long kb, .ref m6, .ref m7, .ref m8, .ref m9, .ref m10, .ref m11, .ref m12, .ref m13, .ref m14, .ref m15, .ref m16])), (m2, .inl (cI, 8, .inl fp)), (m6, .inl (cI, 8, .inl fm6_43)), (m7, .inl (cI, 9, .inl fm7_43))]) [0, 2, 3, 4] rfl
      have hDc := hD.sub (ws' := [(mo, .inr (8, [.int (nI n), .ref m1, .ref m2, .ref m3, .long ka, .long kb, .ref m6, .ref m7, .ref m8, .ref m9, .ref m10, .ref m11, .ref m12, .ref m13, .ref m14, .ref m15, .ref m16])), (m2, .inl (cI, 8, .inl fp)), (m6, .inl (cI, 8, .inl fm6_43)), (m7, .inl (cI, 9, .inl fm7_43))]) [0, 2, 3, 4] (by decide) rfl
      have hFc := va_free (wc := [(mo, .inr (8, [.int (nI n), .ref m1, .ref m2, .ref m3, .long ka, .long kb, .ref m6, .ref m7, .ref m8, .ref m9, .ref m10, .ref m11, .ref m12, .ref m13, .ref m14, .ref m15, .ref m16])), (m2, .inl (cI, 8, .inl fp)), (m6, .inl (cI, 8, .inl fm6_43)), (m7, .inl (cI, 9, .inl fm7_43))]) hD hS hA [0, 2, 3, 4] rfl
      refine va_calli (va_runV (As := [.int (1 <<< ((nI i) &&& 31)), .int (1 <<< ((nI j) &&& 31)), .int (nI i_43), .int 0, .int 0]) (rest := [.int (nI i_43), .ref m8]) ⟨hx, hb, hml, hown, hts⟩ (mz_s_m_barred l dC dI cI cJ cZ mo m1 m2 m3 m6 m7 m8 m9 m10 m11 m12 m13 m14 m15 m16 n ka kb fp fm6_43 fm7_43 (1 <<< ((nI i) &&& 31)) (1 <<< ((nI j) &&& 31)) (nI i_43) 0 0 H.size (by first | assumption | omega) (by rw [mz_pwo_0]; exact hgb) (mz_bi2 (by omega) (by omega) hne)) (cwV 5 hts gX8_works_X8_barred rfl rfl rfl (by decide +kernel) ⟨Nat.le_of_ble_eq_true rfl, Nat.le_of_ble_eq_true rfl⟩) ⟨fun a U g mk q => mz_blI q, va_recv hK hPc (ci := 8) (q0 := 0) rfl rfl, fun U hU hW => ⟨rfl, by rw [hU], by rw [hU]; exact hPc, va_K.moved hW.alike hK, hDc.weaken (fun _ _ _ _ => trivial), mz_nw hW hN⟩⟩ rfl rfl hl.1 rfl (lv_room (Nat.le_of_ble_eq_true rfl)) dX8_works_77 ⟨Nat.le_of_ble_eq_true rfl, Nat.le_of_ble_eq_true rfl⟩) hS (fun q _ h => hFc q h) hFc (fun r_77 u t H1 locs ht hvm hw_77 hB hz1 hk1 hS => ?_)
      obtain ⟨gw_77, gt_77, hP1, hD1⟩ := hB
      rw [ht] at hP1
      obtain ⟨hP, hD⟩ := va_join (wr := [(m1, .inl (cZ, 8, .inl fs)), (m8, .inl (cZ, 256, .inl fm8_43))]) (w1 := [(mo, .inr (8, [.int (nI n), .ref m1, .ref m2, .ref m3, .long ka, .long kb, .ref m6, .ref m7, .ref m8, .ref m9, .ref m10, .ref m11, .ref m12, .ref m13, .ref m14, .ref m15, .ref m16])), (m2, .inl (cI, 8, .inl fp)), (m6, .inl (cI, 8, .inl gw_77)), (m7, .inl (cI, 9, .inl gt_77))]) hP hD [0, 2, 3, 4] [1, 5] rfl rfl (by decide) (by decide) hk1 hFc hP1 hD1
      generalize H1 = H at hP hS ⊢
      have hP : va_P (dC, dI) vwCl [(m1, .inl (cZ, 8, .inl fs)), (m8, .inl (cZ, 256, .inl fm8_43)), (mo, .inr (8, [.int (nI n), .ref m1, .ref m2, .ref m3, .long ka, .long kb, .ref m6, .ref m7, .ref m8, .ref m9, .ref m10, .ref m11, .ref m12, .ref m13, .ref m14, .ref m15, .ref m16])), (m2, .inl (cI, 8, .inl fp)), (m6, .inl (cI, 8, .inl gw_77)), (m7, .inl (cI, 9, .inl gt_77))] H := hP
      have hD : va_D A [(m1, .inl (cZ, 8, .inl fs)), (m8, .inl (cZ, 256, .inl fm8_43)), (mo, .inr (8, [.int (nI n), .ref m1, .ref m2, .ref m3, .long ka, .long kb, .ref m6, .ref m7, .ref m8, .ref m9, .ref m10, .ref m11, .ref m12, .ref m13, .ref m14, .ref m15, .ref m16])), (m2, .inl (cI, 8, .inl fp)), (m6, .inl (cI, 8, .inl gw_77)), (m7, .inl (cI, 9, .inl gt_77))] := hD
      rcases (show (r_77 = 1 ∧ ¬ (∃ ia ka, ia < n ∧ ka < n ∧ mz_t (1 <<< ((nI i) &&& 31)) ia = true ∧ mz_t (1 <<< ((nI j) &&& 31)) ka = true ∧ mz_pth n (mz_pwo fp 0 0) (nI i_43) (mz_Mm n (mz_pwo fp 0 0) (nI i_43)) ia ka)) ∨ (r_77 = 0 ∧ ∃ ia ka, ia < n ∧ ka < n ∧ mz_t (1 <<< ((nI i) &&& 31)) ia = true ∧ mz_t (1 <<< ((nI j) &&& 31)) ka = true ∧ mz_pth n (mz_pwo fp 0 0) (nI i_43) (mz_Mm n (mz_pwo fp 0 0) (nI i_43)) ia ka) from hw_77) with ⟨rfl, hc_77⟩ | ⟨rfl, hc_77⟩
      · skip
        refine lv_if_eq (tgt := 87) hx hb dX8_works_80 (by decide) (fun c_80 => absurd c_80 (by decide +kernel)) (fun _ => ?_)
        refine lv_iconst (v := 1) hx hb dX8_works_83 (by decide +kernel) ?_
        refine lv_goto (tgt := 88) hx hb dX8_works_84 (by decide) ?_
        refine va_zast hx hb hK hP hD hS 1 2 rfl rfl (vp_in_nI (by omega) (by omega)) dX8_works_88 (fun H locs hP hD hS => ?_)
        rw [mz_cl (n := i_43) (by omega)] at hP hD
        have hP : va_P (dC, dI) vwCl [(m1, .inl (cZ, 8, .inl fs)), (m8, .inl (cZ, 256, .inl (upd fm8_43 i_43 (vp_nar .boolean 1)))), (mo, .inr (8, [.int (nI n), .ref m1, .ref m2, .ref m3, .long ka, .long kb, .ref m6, .ref m7, .ref m8, .ref m9, .ref m10, .ref m11, .ref m12, .ref m13, .ref m14, .ref m15, .ref m16])), (m2, .inl (cI, 8, .inl fp)), (m6, .inl (cI, 8, .inl gw_77)), (m7, .inl (cI, 9, .inl gt_77))] H := hP
        have hD : va_D A [(m1, .inl (cZ, 8, .inl fs)), (m8, .inl (cZ, 256, .inl (upd fm8_43 i_43 (vp_nar .boolean 1)))), (mo, .inr (8, [.int (nI n), .ref m1, .ref m2, .ref m3, .long ka, .long kb, .ref m6, .ref m7, .ref m8, .ref m9, .ref m10, .ref m11, .ref m12, .ref m13, .ref m14, .ref m15, .ref m16])), (m2, .inl (cI, 8, .inl fp)), (m6, .inl (cI, 8, .inl gw_77)), (m7, .inl (cI, 9, .inl gt_77))] := hD
        refine lv_iinc (v := (nI (i_43 + 1))) (lv' := [(4, .int (nI (i_43 + 1))), (3, .int (mz_amg sh i j)), (0, .ref mo), (1, .int (nI i)), (2, .int (nI j))]) hx hb dX8_works_89 hl (k := 0) rfl (nI_1 _) (by decide) rfl (fun ls hl => ?_)
        refine lv_goto (tgt := 43) hx hb dX8_works_92 (by decide) ?_
        exact ih_43 _ (by omega) _ _ _ ⟨(i_43 + 1), gw_77, gt_77, (upd fm8_43 i_43 (vp_nar .boolean 1)), by omega, (mz_tab_y hb_43 (mz_wk_y (by omega) c_63 (by have h9 := hc_77; rw [mz_pwo_0] at h9; exact fun q9 => h9 ((mz_yea hn hi hj).mpr q9)))), hP.sub [2, 0, 3, 4, 5, 1] rfl, hD.sub [2, 0, 3, 4, 5, 1] (by decide) rfl, hS, lv_sub hl [0, 1, 2, 3, 4] rfl, rfl⟩
      · skip
        refine lv_if_eq (tgt := 87) hx hb dX8_works_80 (by decide) (fun _ => ?_) (fun c_80 => absurd (by decide +kernel) c_80)
        refine lv_iconst (v := 0) hx hb dX8_works_87 (by decide +kernel) ?_
        refine va_zast hx hb hK hP hD hS 1 2 rfl rfl (vp_in_nI (by omega) (by omega)) dX8_works_88 (fun H locs hP hD hS => ?_)
        rw [mz_cl (n := i_43) (by omega)] at hP hD
        have hP : va_P (dC, dI) vwCl [(m1, .inl (cZ, 8, .inl fs)), (m8, .inl (cZ, 256, .inl (upd fm8_43 i_43 (vp_nar .boolean 0)))), (mo, .inr (8, [.int (nI n), .ref m1, .ref m2, .ref m3, .long ka, .long kb, .ref m6, .ref m7, .ref m8, .ref m9, .ref m10, .ref m11, .ref m12, .ref m13, .ref m14, .ref m15, .ref m16])), (m2, .inl (cI, 8, .inl fp)), (m6, .inl (cI, 8, .inl gw_77)), (m7, .inl (cI, 9, .inl gt_77))] H := hP
        have hD : va_D A [(m1, .inl (cZ, 8, .inl fs)), (m8, .inl (cZ, 256, .inl (upd fm8_43 i_43 (vp_nar .boolean 0)))), (mo, .inr (8, [.int (nI n), .ref m1, .ref m2, .ref m3, .long ka, .long kb, .ref m6, .ref m7, .ref m8, .ref m9, .ref m10, .ref m11, .ref m12, .ref m13, .ref m14, .ref m15, .ref m16])), (m2, .inl (cI, 8, .inl fp)), (m6, .inl (cI, 8, .inl gw_77)), (m7, .inl (cI, 9, .inl gt_77))] := hD
        refine lv_iinc (v := (nI (i_43 + 1))) (lv' := [(4, .int (nI (i_43 + 1))), (3, .int (mz_amg sh i j)), (0, .ref mo), (1, .int (nI i)), (2, .int (nI j))]) hx hb dX8_works_89 hl (k := 0) rfl (nI_1 _) (by decide) rfl (fun ls hl => ?_)
        refine lv_goto (tgt := 43) hx hb dX8_works_92 (by decide) ?_
        exact ih_43 _ (by omega) _ _ _ ⟨(i_43 + 1), gw_77, gt_77, (upd fm8_43 i_43 (vp_nar .boolean 0)), by omega, (mz_tab_n hb_43 (mz_wk_n2 (by have h9 := hc_77; rw [mz_pwo_0] at h9; exact (mz_yea hn hi hj).mp h9))), hP.sub [2, 0, 3, 4, 5, 1] rfl, hD.sub [2, 0, 3, 4, 5, 1] (by decide) rfl, hS, lv_sub hl [0, 1, 2, 3, 4] rfl, rfl⟩
set_option maxHeartbeats 1000000 in
set_option maxRecDepth 100000 in
theorem mz_u_m_works_out (l : Launch) (dC : Nat → ClassId) (dI : Nat → Nat → Nat) (cI cJ cZ : ClassId) (mo : Nat) (m1 : Nat) (m2 : Nat) (m3 : Nat) (m6 : Nat) (m7 : Nat) (m8 : Nat) (m9 : Nat) (m10 : Nat) (m11 : Nat) (m12 : Nat) (m13 : Nat) (m14 : Nat) (m15 : Nat) (m16 : Nat) (n : Nat) (ka : Int64) (kb : Int64) (p1 : Int32) (p2 : Int32) (Hq : Heap) (hn : n ≤ 8) (hn2 : ¬ ∃ i j : Nat, i < n ∧ j < n ∧ (¬ i = j) ∧ p1 = nI i ∧ p2 = nI j) : Met l yX8_works wsX8_works ({ frames := 1, cells := 0, slots := 0, locals := 21 }) (va_Pc [.ref mo, .int p1, .int p2] (fun U => U.heap = Hq ∧ va_P (dC, dI) vwCl [(mo, .inr (8, [.int (nI n), .ref m1, .ref m2, .ref m3, .long ka, .long kb, .ref m6, .ref m7, .ref m8, .ref m9, .ref m10, .ref m11, .ref m12, .ref m13, .ref m14, .ref m15, .ref m16]))] Hq ∧ va_K (dC, dI) vwCl [(cI, FieldType.int), (cJ, FieldType.long), (cZ, FieldType.boolean)] U ∧ mz_N U)) (va_Qi (fun (r : Int32) (_ : Unit) => r = 0) (fun _ t => t.heap = Hq) (fun _ : Nat => False)) 0 0 (fun _ : Nat => False) := by
  refine Met.ofW (cc := cX8_works) (maxL := 5) (ret := (some .boolean)) (by decide) rfl ?_
  intro p e s m args below meth c s₁ B hml hv
  obtain ⟨rfl, hH, hP, hK, hN⟩ := hv
  subst hH
  have hx := B.exec
  have hb := B.bytes
  have hr := B.returns
  have hts := atoms_spec (ws := wsX8_works) B.pre
  have hown : s.vm.findClass RX8 = some m.cls := findClass_of_methodNamed B.named
  have hlocks := B.notSynchronized
  have hS : va_S (fun _ : Nat => False) s.heap s.heap [] := va_S.rf
  have hl := lv_entry ([.ref mo, .int p1, .int p2]) (n := 5) (Nat.le_of_ble_eq_true rfl)
  rw [lg_entry_eq]
  generalize (lg_sl ([.ref mo, .int p1, .int p2]) ++ List.replicate (5 - (lg_sl ([.ref mo, .int p1, .int p2])).length) Slot.unset).toArray = ls at hl ⊢
  have hl : lv_has ls 5 [(0, .ref mo), (1, .int p1), (2, .int p2)] := hl
  refine lv_aload_n hx hb dX8_works_0 rfl (lv_at hl 0 rfl) ?_
  refine lv_iload_n hx hb dX8_works_1 rfl (lv_at hl 1 rfl) ?_
  have hPc := hP.sub (ws' := [(mo, .inr (8, [.int (nI n), .ref m1, .ref m2, .ref m3, .long ka, .long kb, .ref m6, .ref m7, .ref m8, .ref m9, .ref m10, .ref m11, .ref m12, .ref m13, .ref m14, .ref m15, .ref m16]))]) [0] rfl
  refine va_calli (va_runV (As := [.int p1]) (rest := []) ⟨hx, hb, hml, hown, hts⟩ (mz_m_isThing l dC dI cI cJ cZ mo m1 m2 m3 m6 m7 m8 m9 m10 m11 m12 m13 m14 m15 m16 n ka kb p1 s.heap (by first | assumption | omega)) (cwV 1 hts gX8_works_X8_isThing rfl rfl rfl (by decide +kernel) ⟨Nat.le_of_ble_eq_true rfl, Nat.le_of_ble_eq_true rfl⟩) ⟨fun a U g mk q => mz_blP q, va_recv hK hPc (ci := 8) (q0 := 0) rfl rfl, fun U hU hW => ⟨rfl, hU, hPc, va_K.moved hW.alike hK, mz_nw hW hN⟩⟩ rfl rfl hl.1 rfl (lv_room (Nat.le_of_ble_eq_true rfl)) dX8_works_2 ⟨Nat.le_of_ble_eq_true rfl, Nat.le_of_ble_eq_true rfl⟩) hS (fun q _ h => h.elim) (fun q h => h.elim) (fun r_2 u t H1 locs ht hvm hw_2 hB hz1 hk1 hS => ?_)
  have hE : s.heap = H1 := hB.symm.trans ht
  subst hE
  rcases (show (r_2 = 1 ∧ ∃ j : Nat, j < n ∧ p1 = nI j) ∨ r_2 = 0 from hw_2) with ⟨rfl, j_2, hj_2, he_2⟩ | rfl
  · skip
    subst he_2
    refine lv_if_eq (tgt := 21) hx hb dX8_works_5 (by decide) (fun c_5 => absurd c_5 (by decide +kernel)) (fun _ => ?_)
    refine lv_aload_n hx hb dX8_works_8 rfl (lv_at hl 0 rfl) ?_
    refine lv_iload_n hx hb dX8_works_9 rfl (lv_at hl 2 rfl) ?_
    have hPc := hP.sub (ws' := [(mo, .inr (8, [.int (nI n), .ref m1, .ref m2, .ref m3, .long ka, .long kb, .ref m6, .ref m7, .ref m8, .ref m9, .ref m10, .ref m11, .ref m12, .ref m13, .ref m14, .ref m15, .ref m16]))]) [0] rfl
    refine va_calli (va_runV (As := [.int p2]) (rest := []) ⟨hx, hb, hml, hown, hts⟩ (mz_m_isThing l dC dI cI cJ cZ mo m1 m2 m3 m6 m7 m8 m9 m10 m11 m12 m13 m14 m15 m16 n ka kb p2 s.heap (by first | assumption | omega)) (cwV 1 hts gX8_works_X8_isThing rfl rfl rfl (by decide +kernel) ⟨Nat.le_of_ble_eq_true rfl, Nat.le_of_ble_eq_true rfl⟩) ⟨fun a U g mk q => mz_blP q, va_recv hK hPc (ci := 8) (q0 := 0) rfl rfl, fun U hU hW => ⟨rfl, hU, hPc, va_K.moved hW.alike hK, mz_nw hW hN⟩⟩ rfl rfl hl.1 rfl (lv_room (Nat.le_of_ble_eq_true rfl)) dX8_works_10 ⟨Nat.le_of_ble_eq_true rfl, Nat.le_of_ble_eq_true rfl⟩) hS (fun q _ h => h.elim) (fun q h => h.elim) (fun r_10 u t H1 locs ht hvm hw_10 hB hz1 hk1 hS => ?_)
    have hE : s.heap = H1 := hB.symm.trans ht
    subst hE
    rcases (show (r_10 = 1 ∧ ∃ j : Nat, j < n ∧ p2 = nI j) ∨ r_10 = 0 from hw_10) with ⟨rfl, j_10, hj_10, he_10⟩ | rfl
    · skip
      subst he_10
      refine lv_if_eq (tgt := 21) hx hb dX8_works_13 (by decide) (fun c_13 => absurd c_13 (by decide +kernel)) (fun _ => ?_)
      refine lv_iload_n hx hb dX8_works_16 rfl (lv_at hl 1 rfl) ?_
      refine lv_iload_n hx hb dX8_works_17 rfl (lv_at hl 2 rfl) ?_
      refine lv_icmp_ne (tgt := 23) hx hb dX8_works_18 (by decide) (fun c_18 => ?_) (fun c_18 => ?_)
      · skip
        have d_18 : ¬ j_2 = j_10 := fun h => c_18 ((nI_eq (a := j_2) (b := j_10) (by omega) (by omega)).mpr h)
        exact absurd ⟨j_2, j_10, hj_2, hj_10, d_18, rfl, rfl⟩ hn2
      · skip
        have d_18 : j_2 = j_10 := (nI_eq (a := j_2) (b := j_10) (by omega) (by omega)).mp c_18
        refine lv_iconst (v := 0) hx hb dX8_works_21 (by decide +kernel) ?_
        refine W.widen (k := 0) (n := 0) (Nat.le_of_ble_eq_true rfl) (Nat.le_of_ble_eq_true rfl) ?_
        exact W.zret (v := 0) hx hb hr (mz_nz (by decide +kernel)) (fun t ht hW => ⟨⟨0, (), rfl, rfl, ht⟩, hS.F ht⟩) hS.2.2 dX8_works_22
    · skip
      refine lv_if_eq (tgt := 21) hx hb dX8_works_13 (by decide) (fun _ => ?_) (fun c_13 => absurd (by decide +kernel) c_13)
      refine lv_iconst (v := 0) hx hb dX8_works_21 (by decide +kernel) ?_
      refine W.widen (k := 0) (n := 0) (Nat.le_of_ble_eq_true rfl) (Nat.le_of_ble_eq_true rfl) ?_
      exact W.zret (v := 0) hx hb hr (mz_nz (by decide +kernel)) (fun t ht hW => ⟨⟨0, (), rfl, rfl, ht⟩, hS.F ht⟩) hS.2.2 dX8_works_22
  · skip
    refine lv_if_eq (tgt := 21) hx hb dX8_works_5 (by decide) (fun _ => ?_) (fun c_5 => absurd (by decide +kernel) c_5)
    refine lv_iconst (v := 0) hx hb dX8_works_21 (by decide +kernel) ?_
    refine W.widen (k := 0) (n := 0) (Nat.le_of_ble_eq_true rfl) (Nat.le_of_ble_eq_true rfl) ?_
    exact W.zret (v := 0) hx hb hr (mz_nz (by decide +kernel)) (fun t ht hW => ⟨⟨0, (), rfl, rfl, ht⟩, hS.F ht⟩) hS.2.2 dX8_works_22
set_option maxHeartbeats 1000000 in
set_option maxRecDepth 100000 in
theorem mz_u_m_least (l : Launch) (dC : Nat → ClassId) (dI : Nat → Nat → Nat) (cI cJ cZ : ClassId) (mo : Nat) (m1 : Nat) (m2 : Nat) (m3 : Nat) (m6 : Nat) (m7 : Nat) (m8 : Nat) (m9 : Nat) (m10 : Nat) (m11 : Nat) (m12 : Nat) (m13 : Nat) (m14 : Nat) (m15 : Nat) (m16 : Nat) (n : Nat) (ka : Int64) (kb : Int64) (fs : Nat → Int32) (fp : Nat → Int32) (fw : Nat → Int32) (ft : Nat → Int32) (fr : Nat → Int32) (i : Nat) (j : Nat) (sh : Int32) (sz : Nat) (hn : n ≤ 8) (hi : i < n) (hj : j < n) (hne : ¬ i = j) (hgb : ∀ k, k < n → ∀ j, j < 32 → mz_t (fp k) j = true → j < n) (hsn : mz_sn n sh fs) : Met l yX8_least wsX8_least ({ frames := 6, cells := 0, slots := 0, locals := 160 }) (va_Pc [.ref mo, .int (nI i), .int (nI j)] (fun U => U.heap.size = sz ∧ va_P (dC, dI) vwCl [(mo, .inr (8, [.int (nI n), .ref m1, .ref m2, .ref m3, .long ka, .long kb, .ref m6, .ref m7, .ref m8, .ref m9, .ref m10, .ref m11, .ref m12, .ref m13, .ref m14, .ref m15, .ref m16])), (m1, .inl (cZ, 8, .inl fs)), (m2, .inl (cI, 8, .inl fp)), (m6, .inl (cI, 8, .inl fw)), (m7, .inl (cI, 9, .inl ft)), (m8, .inl (cZ, 256, .inl fr))] U.heap ∧ va_K (dC, dI) vwCl [(cI, FieldType.int), (cJ, FieldType.long), (cZ, FieldType.boolean)] U ∧ va_D (fun _ => True) [(mo, .inr (8, [.int (nI n), .ref m1, .ref m2, .ref m3, .long ka, .long kb, .ref m6, .ref m7, .ref m8, .ref m9, .ref m10, .ref m11, .ref m12, .ref m13, .ref m14, .ref m15, .ref m16])), (m1, .inl (cZ, 8, .inl fs)), (m2, .inl (cI, 8, .inl fp)), (m6, .inl (cI, 8, .inl fw)), (m7, .inl (cI, 9, .inl ft)), (m8, .inl (cZ, 256, .inl fr))] ∧ mz_N U)) (va_Qi (fun (r : Int32) (_ : Unit) => r = (nI (mz_ct (mz_lp (mz_PB n fp (mz_amg sh i j) i j)) 256))) (fun _ t => ∃ (gw : Nat → Int32), ∃ (gt : Nat → Int32), ∃ (gr : Nat → Int32), va_P (dC, dI) vwCl [(mo, .inr (8, [.int (nI n), .ref m1, .ref m2, .ref m3, .long ka, .long kb, .ref m6, .ref m7, .ref m8, .ref m9, .ref m10, .ref m11, .ref m12, .ref m13, .ref m14, .ref m15, .ref m16])), (m1, .inl (cZ, 8, .inl fs)), (m2, .inl (cI, 8, .inl fp)), (m6, .inl (cI, 8, .inl gw)), (m7, .inl (cI, 9, .inl gt)), (m8, .inl (cZ, 256, .inl gr))] t.heap ∧ va_D (va_A [(mo, .inr (8, [.int (nI n), .ref m1, .ref m2, .ref m3, .long ka, .long kb, .ref m6, .ref m7, .ref m8, .ref m9, .ref m10, .ref m11, .ref m12, .ref m13, .ref m14, .ref m15, .ref m16])), (m1, .inl (cZ, 8, .inl fs)), (m2, .inl (cI, 8, .inl fp)), (m6, .inl (cI, 8, .inl fw)), (m7, .inl (cI, 9, .inl ft)), (m8, .inl (cZ, 256, .inl fr))] sz) [(mo, .inr (8, [.int (nI n), .ref m1, .ref m2, .ref m3, .long ka, .long kb, .ref m6, .ref m7, .ref m8, .ref m9, .ref m10, .ref m11, .ref m12, .ref m13, .ref m14, .ref m15, .ref m16])), (m1, .inl (cZ, 8, .inl fs)), (m2, .inl (cI, 8, .inl fp)), (m6, .inl (cI, 8, .inl gw)), (m7, .inl (cI, 9, .inl gt)), (m8, .inl (cZ, 256, .inl gr))]) (va_A [(mo, .inr (8, [.int (nI n), .ref m1, .ref m2, .ref m3, .long ka, .long kb, .ref m6, .ref m7, .ref m8, .ref m9, .ref m10, .ref m11, .ref m12, .ref m13, .ref m14, .ref m15, .ref m16])), (m1, .inl (cZ, 8, .inl fs)), (m2, .inl (cI, 8, .inl fp)), (m6, .inl (cI, 8, .inl fw)), (m7, .inl (cI, 9, .inl ft)), (m8, .inl (cZ, 256, .inl fr))] sz)) 0 0 (va_A [(mo, .inr (8, [.int (nI n), .ref m1, .ref m2, .ref m3, .long ka, .long kb, .ref m6, .ref m7, .ref m8, .ref m9, .ref m10, .ref m11, .ref m12, .ref m13, .ref m14, .ref m15, .ref m16])), (m1, .inl (cZ, 8, .inl fs)), (m2, .inl (cI, 8, .inl fp)), (m6, .inl (cI, 8, .inl fw)), (m7, .inl (cI, 9, .inl ft)), (m8, .inl (cZ, 256, .inl fr))] sz) := by
  refine Met.ofW (cc := cX8_least) (maxL := 5) (ret := (some .int)) (by decide) rfl ?_
  intro p e s m args below meth c s₁ B hml hv
  obtain ⟨rfl, hsz, hP, hK, hD0, hN⟩ := hv
  subst hsz
  have hx := B.exec
  have hb := B.bytes
  have hr := B.returns
  have hts := atoms_spec (ws := wsX8_least) B.pre
  have hown : s.vm.findClass RX8 = some m.cls := findClass_of_methodNamed B.named
  have hlocks := B.notSynchronized
  have hD := hD0.self (sz := s.heap.size)
  generalize hAe : va_A [(mo, .inr (8, [.int (nI n), .ref m1, .ref m2, .ref m3, .long ka, .long kb, .ref m6, .ref m7, .ref m8, .ref m9, .ref m10, .ref m11, .ref m12, .ref m13, .ref m14, .ref m15, .ref m16])), (m1, .inl (cZ, 8, .inl fs)), (m2, .inl (cI, 8, .inl fp)), (m6, .inl (cI, 8, .inl fw)), (m7, .inl (cI, 9, .inl ft)), (m8, .inl (cZ, 256, .inl fr))] s.heap.size = A at hD ⊢
  have hA : ∀ q : Nat, s.heap.size ≤ q → A q := fun q h => by rw [← hAe]; exact Or.inr h
  have hS : va_S A s.heap s.heap [] := va_S.rf
  have hl := lv_entry ([.ref mo, .int (nI i), .int (nI j)]) (n := 5) (Nat.le_of_ble_eq_true rfl)
  rw [lg_entry_eq]
  generalize (lg_sl ([.ref mo, .int (nI i), .int (nI j)]) ++ List.replicate (5 - (lg_sl ([.ref mo, .int (nI i), .int (nI j)])).length) Slot.unset).toArray = ls at hl ⊢
  have hl : lv_has ls 5 [(0, .ref mo), (1, .int (nI i)), (2, .int (nI j))] := hl
  refine lv_aload_n hx hb dX8_least_0 rfl (lv_at hl 0 rfl) ?_
  refine lv_iload_n hx hb dX8_least_1 rfl (lv_at hl 1 rfl) ?_
  refine lv_iload_n hx hb dX8_least_2 rfl (lv_at hl 2 rfl) ?_
  have hPc := hP.sub (ws' := [(mo, .inr (8, [.int (nI n), .ref m1, .ref m2, .ref m3, .long ka, .long kb, .ref m6, .ref m7, .ref m8, .ref m9, .ref m10, .ref m11, .ref m12, .ref m13, .ref m14, .ref m15, .ref m16])), (m1, .inl (cZ, 8, .inl fs)), (m2, .inl (cI, 8, .inl fp)), (m6, .inl (cI, 8, .inl fw)), (m7, .inl (cI, 9, .inl ft)), (m8, .inl (cZ, 256, .inl fr))]) [0, 1, 2, 3, 4, 5] rfl
  have hDc := hD.sub (ws' := [(mo, .inr (8, [.int (nI n), .ref m1, .ref m2, .ref m3, .long ka, .long kb, .ref m6, .ref m7, .ref m8, .ref m9, .ref m10, .ref m11, .ref m12, .ref m13, .ref m14, .ref m15, .ref m16])), (m1, .inl (cZ, 8, .inl fs)), (m2, .inl (cI, 8, .inl fp)), (m6, .inl (cI, 8, .inl fw)), (m7, .inl (cI, 9, .inl ft)), (m8, .inl (cZ, 256, .inl fr))]) [0, 1, 2, 3, 4, 5] (by decide) rfl
  have hFc := va_free (wc := [(mo, .inr (8, [.int (nI n), .ref m1, .ref m2, .ref m3, .long ka, .long kb, .ref m6, .ref m7, .ref m8, .ref m9, .ref m10, .ref m11, .ref m12, .ref m13, .ref m14, .ref m15, .ref m16])), (m1, .inl (cZ, 8, .inl fs)), (m2, .inl (cI, 8, .inl fp)), (m6, .inl (cI, 8, .inl fw)), (m7, .inl (cI, 9, .inl ft)), (m8, .inl (cZ, 256, .inl fr))]) hD hS hA [0, 1, 2, 3, 4, 5] rfl
  refine va_calli (va_runV (As := [.int (nI i), .int (nI j)]) (rest := []) ⟨hx, hb, hml, hown, hts⟩ (mz_u_m_works l dC dI cI cJ cZ mo m1 m2 m3 m6 m7 m8 m9 m10 m11 m12 m13 m14 m15 m16 n ka kb fs fp fw ft fr i j sh s.heap.size (by first | assumption | omega) (by first | assumption | omega) (by first | assumption | omega) (by first | assumption | omega) (by first | assumption | omega) (by first | assumption | omega)) (cwV 2 hts gX8_least_X8_works rfl rfl rfl (by decide +kernel) ⟨Nat.le_of_ble_eq_true rfl, Nat.le_of_ble_eq_true rfl⟩) ⟨fun a U g mk q => mz_blI q, va_recv hK hPc (ci := 8) (q0 := 0) rfl rfl, fun U hU hW => ⟨rfl, by rw [hU], by rw [hU]; exact hPc, va_K.moved hW.alike hK, hDc.weaken (fun _ _ _ _ => trivial), mz_nw hW hN⟩⟩ rfl rfl hl.1 rfl (lv_room (Nat.le_of_ble_eq_true rfl)) dX8_least_3 ⟨Nat.le_of_ble_eq_true rfl, Nat.le_of_ble_eq_true rfl⟩) hS (fun q _ h => hFc q h) hFc (fun r_3 u t H1 locs ht hvm hw_3 hB hz1 hk1 hS => ?_)
  obtain ⟨gw_3, gt_3, gr_3, hx0_3, hP1, hD1⟩ := hB
  rw [ht] at hP1
  obtain ⟨hP, hD⟩ := va_join (wr := []) (w1 := [(mo, .inr (8, [.int (nI n), .ref m1, .ref m2, .ref m3, .long ka, .long kb, .ref m6, .ref m7, .ref m8, .ref m9, .ref m10, .ref m11, .ref m12, .ref m13, .ref m14, .ref m15, .ref m16])), (m1, .inl (cZ, 8, .inl fs)), (m2, .inl (cI, 8, .inl fp)), (m6, .inl (cI, 8, .inl gw_3)), (m7, .inl (cI, 9, .inl gt_3)), (m8, .inl (cZ, 256, .inl gr_3))]) hP hD [0, 1, 2, 3, 4, 5] [] rfl rfl (by decide) (by decide) hk1 hFc hP1 hD1
  generalize H1 = H at hP hS ⊢
  have hP : va_P (dC, dI) vwCl [(mo, .inr (8, [.int (nI n), .ref m1, .ref m2, .ref m3, .long ka, .long kb, .ref m6, .ref m7, .ref m8, .ref m9, .ref m10, .ref m11, .ref m12, .ref m13, .ref m14, .ref m15, .ref m16])), (m1, .inl (cZ, 8, .inl fs)), (m2, .inl (cI, 8, .inl fp)), (m6, .inl (cI, 8, .inl gw_3)), (m7, .inl (cI, 9, .inl gt_3)), (m8, .inl (cZ, 256, .inl gr_3))] H := hP
  have hD : va_D A [(mo, .inr (8, [.int (nI n), .ref m1, .ref m2, .ref m3, .long ka, .long kb, .ref m6, .ref m7, .ref m8, .ref m9, .ref m10, .ref m11, .ref m12, .ref m13, .ref m14, .ref m15, .ref m16])), (m1, .inl (cZ, 8, .inl fs)), (m2, .inl (cI, 8, .inl fp)), (m6, .inl (cI, 8, .inl gw_3)), (m7, .inl (cI, 9, .inl gt_3)), (m8, .inl (cZ, 256, .inl gr_3))] := hD
  obtain rfl : r_3 = 1 := hw_3
  refine lv_if_ne (tgt := 11) hx hb dX8_least_6 (by decide) (fun _ => ?_) (fun c_6 => absurd c_6 (by decide +kernel))
  refine lv_iconst (v := 0) hx hb dX8_least_11 (by decide +kernel) ?_
  refine lv_istore_n (lv' := [(3, .int 0), (0, .ref mo), (1, .int (nI i)), (2, .int (nI j))]) hx hb dX8_least_12 rfl hl (by decide) rfl (fun ls hl => ?_)
  refine lv_iconst (v := 0) hx hb dX8_least_13 (by decide +kernel) ?_
  refine lv_istore (lv' := [(4, .int 0), (3, .int 0), (0, .ref mo), (1, .int (nI i)), (2, .int (nI j))]) hx hb dX8_least_14 hl (by decide) rfl (fun ls hl => ?_)
  refine mz_loopU (fun k H locs ls => ∃ (i_16 : Nat), ∃ (x3_16 : Int32), i_16 ≤ 256 ∧ (x3_16 = nI (mz_ct (mz_lp (mz_PB n fp (mz_amg sh i j) i j)) i_16)) ∧ va_P (dC, dI) vwCl [(mo, .inr (8, [.int (nI n), .ref m1, .ref m2, .ref m3, .long ka, .long kb, .ref m6, .ref m7, .ref m8, .ref m9, .ref m10, .ref m11, .ref m12, .ref m13, .ref m14, .ref m15, .ref m16])), (m1, .inl (cZ, 8, .inl fs)), (m2, .inl (cI, 8, .inl fp)), (m6, .inl (cI, 8, .inl gw_3)), (m7, .inl (cI, 9, .inl gt_3)), (m8, .inl (cZ, 256, .inl gr_3))] H ∧ va_D A [(mo, .inr (8, [.int (nI n), .ref m1, .ref m2, .ref m3, .long ka, .long kb, .ref m6, .ref m7, .ref m8, .ref m9, .ref m10, .ref m11, .ref m12, .ref m13, .ref m14, .ref m15, .ref m16])), (m1, .inl (cZ, 8, .inl fs)), (m2, .inl (cI, 8, .inl fp)), (m6, .inl (cI, 8, .inl gw_3)), (m7, .inl (cI, 9, .inl gt_3)), (m8, .inl (cZ, 256, .inl gr_3))] ∧ va_S A s.heap H locs ∧ lv_has ls 5 [(4, .int (nI i_16)), (3, .int x3_16), (0, .ref mo), (1, .int (nI i)), (2, .int (nI j))] ∧ k = 256 - i_16) ?_ _ _ _ _ ⟨0, 0, by omega, rfl, hP, hD, hS, lv_sub hl [0, 1, 2, 3, 4] rfl, rfl⟩
  intro k_16 H locs ls hI_16 ih_16
  obtain ⟨i_16, x3_16, hi_16, hc_16, hP, hD, hS, hl, hk_16⟩ := hI_16
  subst hc_16
  refine lv_iload hx hb dX8_least_16 (lv_at hl 0 rfl) ?_
  refine lv_sipush (v := 256) hx hb dX8_least_18 (by decide +kernel) ?_
  refine lv_icmp_ge (tgt := 47) hx hb dX8_least_21 (by decide) (fun c_21 => ?_) (fun c_21 => ?_)
  · skip
    have d_21 : 256 ≤ i_16 := (nI_leI (a := 256) (b := i_16) (by omega) (by omega)).mp c_21
    refine lv_iload_n hx hb dX8_least_47 rfl (lv_at hl 1 rfl) ?_
    have hP9 := hP.sub (ws' := [(mo, .inr (8, [.int (nI n), .ref m1, .ref m2, .ref m3, .long ka, .long kb, .ref m6, .ref m7, .ref m8, .ref m9, .ref m10, .ref m11, .ref m12, .ref m13, .ref m14, .ref m15, .ref m16])), (m1, .inl (cZ, 8, .inl fs)), (m2, .inl (cI, 8, .inl fp)), (m6, .inl (cI, 8, .inl gw_3)), (m7, .inl (cI, 9, .inl gt_3)), (m8, .inl (cZ, 256, .inl gr_3))]) [0, 1, 2, 3, 4, 5] rfl
    have hD9 := hD.sub (ws' := [(mo, .inr (8, [.int (nI n), .ref m1, .ref m2, .ref m3, .long ka, .long kb, .ref m6, .ref m7, .ref m8, .ref m9, .ref m10, .ref m11, .ref m12, .ref m13, .ref m14, .ref m15, .ref m16])), (m1, .inl (cZ, 8, .inl fs)), (m2, .inl (cI, 8, .inl fp)), (m6, .inl (cI, 8, .inl gw_3)), (m7, .inl (cI, 9, .inl gt_3)), (m8, .inl (cZ, 256, .inl gr_3))]) [0, 1, 2, 3, 4, 5] (by decide) rfl
    refine W.widen (k := 0) (n := 0) (Nat.le_of_ble_eq_true rfl) (Nat.le_of_ble_eq_true rfl) ?_
    exact W.iret (v := (nI (mz_ct (mz_lp (mz_PB n fp (mz_amg sh i j) i j)) i_16))) hx hb hr (fun t ht hW => ⟨⟨(nI (mz_ct (mz_lp (mz_PB n fp (mz_amg sh i j) i j)) i_16)), (), rfl, (by rw [show i_16 = 256 by omega]), gw_3, gt_3, gr_3, by rw [ht]; exact hP9, hD9⟩, hS.F ht⟩) hS.2.2 dX8_least_48
  · skip
    have d_21 : ¬ 256 ≤ i_16 := fun h => c_21 ((nI_leI (a := 256) (b := i_16) (by omega) (by omega)).mpr h)
    refine lv_iload_n hx hb dX8_least_24 rfl (lv_at hl 1 rfl) ?_
    refine lv_aload_n hx hb dX8_least_25 rfl (lv_at hl 2 rfl) ?_
    refine lv_iload hx hb dX8_least_26 (lv_at hl 0 rfl) ?_
    have hPc := hP.sub (ws' := [(mo, .inr (8, [.int (nI n), .ref m1, .ref m2, .ref m3, .long ka, .long kb, .ref m6, .ref m7, .ref m8, .ref m9, .ref m10, .ref m11, .ref m12, .ref m13, .ref m14, .ref m15, .ref m16])), (m8, .inl (cZ, 256, .inl gr_3))]) [0, 5] rfl
    refine va_calli (va_runV (As := [.int (nI i_16)]) (rest := [.int (nI (mz_ct (mz_lp (mz_PB n fp (mz_amg sh i j) i j)) i_16))]) ⟨hx, hb, hml, hown, hts⟩ (mz_u_m_isLeast l dC dI cI cJ cZ mo m1 m2 m3 m6 m7 m8 m9 m10 m11 m12 m13 m14 m15 m16 n ka kb gr_3 i_16 (mz_PB n fp (mz_amg sh i j) i j) H (by first | assumption | omega) (by first | assumption | omega)) (cwV 1 hts gX8_least_X8_isLeast rfl rfl rfl (by decide +kernel) ⟨Nat.le_of_ble_eq_true rfl, Nat.le_of_ble_eq_true rfl⟩) ⟨fun a U g mk q => mz_blP q, va_recv hK hPc (ci := 8) (q0 := 0) rfl rfl, fun U hU hW => ⟨rfl, hU, hPc, va_K.moved hW.alike hK, mz_nw hW hN⟩⟩ rfl rfl hl.1 rfl (lv_room (Nat.le_of_ble_eq_true rfl)) dX8_least_28 ⟨Nat.le_of_ble_eq_true rfl, Nat.le_of_ble_eq_true rfl⟩) hS (fun q _ h => h.elim) (fun q h => h.elim) (fun r_28 u t H1 locs ht hvm hw_28 hB hz1 hk1 hS => ?_)
    have hE : H = H1 := hB.symm.trans ht
    subst hE
    rcases (show (r_28 = 1 ∧ mz_lp (mz_PB n fp (mz_amg sh i j) i j) i_16) ∨ (r_28 = 0 ∧ ¬ mz_lp (mz_PB n fp (mz_amg sh i j) i j) i_16) from hw_28) with ⟨rfl, hc_28⟩ | ⟨rfl, hc_28⟩
    · skip
      refine lv_if_eq (tgt := 38) hx hb dX8_least_31 (by decide) (fun c_31 => absurd c_31 (by decide +kernel)) (fun _ => ?_)
      refine lv_iconst (v := 1) hx hb dX8_least_34 (by decide +kernel) ?_
      refine lv_goto (tgt := 39) hx hb dX8_least_35 (by decide) ?_
      refine lv_iadd hx hb dX8_least_39 ?_
      refine mz_ti (y := (nI (mz_ct (mz_lp (mz_PB n fp (mz_amg sh i j) i j)) i_16 + 1))) (nI_add _ _) ?_
      refine lv_istore_n (lv' := [(3, .int (nI (mz_ct (mz_lp (mz_PB n fp (mz_amg sh i j) i j)) i_16 + 1))), (4, .int (nI i_16)), (0, .ref mo), (1, .int (nI i)), (2, .int (nI j))]) hx hb dX8_least_40 rfl hl (by decide) rfl (fun ls hl => ?_)
      refine lv_iinc (v := (nI (i_16 + 1))) (lv' := [(4, .int (nI (i_16 + 1))), (3, .int (nI (mz_ct (mz_lp (mz_PB n fp (mz_amg sh i j) i j)) i_16 + 1))), (0, .ref mo), (1, .int (nI i)), (2, .int (nI j))]) hx hb dX8_least_41 hl (k := 1) rfl (nI_1 _) (by decide) rfl (fun ls hl => ?_)
      refine lv_goto (tgt := 16) hx hb dX8_least_44 (by decide) ?_
      exact ih_16 _ (by omega) _ _ _ ⟨(i_16 + 1), (nI (mz_ct (mz_lp (mz_PB n fp (mz_amg sh i j) i j)) i_16 + 1)), by omega, (by rw [mz_ct_y hc_28]), hP, hD, hS, lv_sub hl [0, 1, 2, 3, 4] rfl, rfl⟩
    · skip
      refine lv_if_eq (tgt := 38) hx hb dX8_least_31 (by decide) (fun _ => ?_) (fun c_31 => absurd (by decide +kernel) c_31)
      refine lv_iconst (v := 0) hx hb dX8_least_38 (by decide +kernel) ?_
      refine lv_iadd hx hb dX8_least_39 ?_
      refine mz_ti (y := (nI (mz_ct (mz_lp (mz_PB n fp (mz_amg sh i j) i j)) i_16 + 0))) (nI_add _ _) ?_
      refine lv_istore_n (lv' := [(3, .int (nI (mz_ct (mz_lp (mz_PB n fp (mz_amg sh i j) i j)) i_16 + 0))), (4, .int (nI i_16)), (0, .ref mo), (1, .int (nI i)), (2, .int (nI j))]) hx hb dX8_least_40 rfl hl (by decide) rfl (fun ls hl => ?_)
      refine lv_iinc (v := (nI (i_16 + 1))) (lv' := [(4, .int (nI (i_16 + 1))), (3, .int (nI (mz_ct (mz_lp (mz_PB n fp (mz_amg sh i j) i j)) i_16 + 0))), (0, .ref mo), (1, .int (nI i)), (2, .int (nI j))]) hx hb dX8_least_41 hl (k := 1) rfl (nI_1 _) (by decide) rfl (fun ls hl => ?_)
      refine lv_goto (tgt := 16) hx hb dX8_least_44 (by decide) ?_
      exact ih_16 _ (by omega) _ _ _ ⟨(i_16 + 1), (nI (mz_ct (mz_lp (mz_PB n fp (mz_amg sh i j) i j)) i_16 + 0)), by omega, (by simp only [mz_ct_n hc_28, Nat.add_zero]), hP, hD, hS, lv_sub hl [0, 1, 2, 3, 4] rfl, rfl⟩
set_option maxHeartbeats 1000000 in
set_option maxRecDepth 100000 in
theorem mz_u_m_least_out (l : Launch) (dC : Nat → ClassId) (dI : Nat → Nat → Nat) (cI cJ cZ : ClassId) (mo : Nat) (m1 : Nat) (m2 : Nat) (m3 : Nat) (m6 : Nat) (m7 : Nat) (m8 : Nat) (m9 : Nat) (m10 : Nat) (m11 : Nat) (m12 : Nat) (m13 : Nat) (m14 : Nat) (m15 : Nat) (m16 : Nat) (n : Nat) (ka : Int64) (kb : Int64) (p1 : Int32) (p2 : Int32) (Hq : Heap) (hn : n ≤ 8) (hn2 : ¬ ∃ i j : Nat, i < n ∧ j < n ∧ (¬ i = j) ∧ p1 = nI i ∧ p2 = nI j) : Met l yX8_least wsX8_least ({ frames := 2, cells := 0, slots := 0, locals := 45 }) (va_Pc [.ref mo, .int p1, .int p2] (fun U => U.heap = Hq ∧ va_P (dC, dI) vwCl [(mo, .inr (8, [.int (nI n), .ref m1, .ref m2, .ref m3, .long ka, .long kb, .ref m6, .ref m7, .ref m8, .ref m9, .ref m10, .ref m11, .ref m12, .ref m13, .ref m14, .ref m15, .ref m16]))] Hq ∧ va_K (dC, dI) vwCl [(cI, FieldType.int), (cJ, FieldType.long), (cZ, FieldType.boolean)] U ∧ mz_N U)) (va_Qi (fun (r : Int32) (_ : Unit) => r = (-1)) (fun _ t => t.heap = Hq) (fun _ : Nat => False)) 0 0 (fun _ : Nat => False) := by
  refine Met.ofW (cc := cX8_least) (maxL := 5) (ret := (some .int)) (by decide) rfl ?_
  intro p e s m args below meth c s₁ B hml hv
  obtain ⟨rfl, hH, hP, hK, hN⟩ := hv
  subst hH
  have hx := B.exec
  have hb := B.bytes
  have hr := B.returns
  have hts := atoms_spec (ws := wsX8_least) B.pre
  have hown : s.vm.findClass RX8 = some m.cls := findClass_of_methodNamed B.named
  have hlocks := B.notSynchronized
  have hS : va_S (fun _ : Nat => False) s.heap s.heap [] := va_S.rf
  have hl := lv_entry ([.ref mo, .int p1, .int p2]) (n := 5) (Nat.le_of_ble_eq_true rfl)
  rw [lg_entry_eq]
  generalize (lg_sl ([.ref mo, .int p1, .int p2]) ++ List.replicate (5 - (lg_sl ([.ref mo, .int p1, .int p2])).length) Slot.unset).toArray = ls at hl ⊢
  have hl : lv_has ls 5 [(0, .ref mo), (1, .int p1), (2, .int p2)] := hl
  refine lv_aload_n hx hb dX8_least_0 rfl (lv_at hl 0 rfl) ?_
  refine lv_iload_n hx hb dX8_least_1 rfl (lv_at hl 1 rfl) ?_
  refine lv_iload_n hx hb dX8_least_2 rfl (lv_at hl 2 rfl) ?_
  have hPc := hP.sub (ws' := [(mo, .inr (8, [.int (nI n), .ref m1, .ref m2, .ref m3, .long ka, .long kb, .ref m6, .ref m7, .ref m8, .ref m9, .ref m10, .ref m11, .ref m12, .ref m13, .ref m14, .ref m15, .ref m16]))]) [0] rfl
  refine va_calli (va_runV (As := [.int p1, .int p2]) (rest := []) ⟨hx, hb, hml, hown, hts⟩ (mz_u_m_works_out l dC dI cI cJ cZ mo m1 m2 m3 m6 m7 m8 m9 m10 m11 m12 m13 m14 m15 m16 n ka kb p1 p2 s.heap (by first | assumption | omega) (by first | assumption | omega)) (cwV 2 hts gX8_least_X8_works rfl rfl rfl (by decide +kernel) ⟨Nat.le_of_ble_eq_true rfl, Nat.le_of_ble_eq_true rfl⟩) ⟨fun a U g mk q => mz_blP q, va_recv hK hPc (ci := 8) (q0 := 0) rfl rfl, fun U hU hW => ⟨rfl, hU, hPc, va_K.moved hW.alike hK, mz_nw hW hN⟩⟩ rfl rfl hl.1 rfl (lv_room (Nat.le_of_ble_eq_true rfl)) dX8_least_3 ⟨Nat.le_of_ble_eq_true rfl, Nat.le_of_ble_eq_true rfl⟩) hS (fun q _ h => h.elim) (fun q h => h.elim) (fun r_3 u t H1 locs ht hvm hw_3 hB hz1 hk1 hS => ?_)
  have hE : s.heap = H1 := hB.symm.trans ht
  subst hE
  obtain rfl : r_3 = 0 := hw_3
  refine lv_if_ne (tgt := 11) hx hb dX8_least_6 (by decide) (fun c_6 => absurd (by decide +kernel) c_6) (fun _ => ?_)
  refine lv_iconst (v := (-1)) hx hb dX8_least_9 (by decide +kernel) ?_
  refine W.widen (k := 0) (n := 0) (Nat.le_of_ble_eq_true rfl) (Nat.le_of_ble_eq_true rfl) ?_
  exact W.iret (v := (-1)) hx hb hr (fun t ht hW => ⟨⟨(-1), (), rfl, rfl, ht⟩, hS.F ht⟩) hS.2.2 dX8_least_10
set_option maxHeartbeats 1000000 in
set_option maxRecDepth 100000 in
theorem mz_u_m_leastAt (l : Launch) (dC : Nat → ClassId) (dI : Nat → Nat → Nat) (cI cJ cZ : ClassId) (mo : Nat) (m1 : Nat) (m2 : Nat) (m3 : Nat) (m6 : Nat) (m7 : Nat) (m8 : Nat) (m9 : Nat) (m10 : Nat) (m11 : Nat) (m12 : Nat) (m13 : Nat) (m14 : Nat) (m15 : Nat) (m16 : Nat) (n : Nat) (ka : Int64) (kb : Int64) (fs : Nat → Int32) (fp : Nat → Int32) (fw : Nat → Int32) (ft : Nat → Int32) (fr : Nat → Int32) (i : Nat) (j : Nat) (p3 : Int32) (sh : Int32) (sz : Nat) (hn : n ≤ 8) (hi : i < n) (hj : j < n) (hne : ¬ i = j) (hgb : ∀ k, k < n → ∀ j, j < 32 → mz_t (fp k) j = true → j < n) (hsn : mz_sn n sh fs) : Met l yX8_leastAt wsX8_leastAt ({ frames := 6, cells := 0, slots := 0, locals := 160 }) (va_Pc [.ref mo, .int (nI i), .int (nI j), .int p3] (fun U => U.heap.size = sz ∧ va_P (dC, dI) vwCl [(mo, .inr (8, [.int (nI n), .ref m1, .ref m2, .ref m3, .long ka, .long kb, .ref m6, .ref m7, .ref m8, .ref m9, .ref m10, .ref m11, .ref m12, .ref m13, .ref m14, .ref m15, .ref m16])), (m1, .inl (cZ, 8, .inl fs)), (m2, .inl (cI, 8, .inl fp)), (m6, .inl (cI, 8, .inl fw)), (m7, .inl (cI, 9, .inl ft)), (m8, .inl (cZ, 256, .inl fr))] U.heap ∧ va_K (dC, dI) vwCl [(cI, FieldType.int), (cJ, FieldType.long), (cZ, FieldType.boolean)] U ∧ va_D (fun _ => True) [(mo, .inr (8, [.int (nI n), .ref m1, .ref m2, .ref m3, .long ka, .long kb, .ref m6, .ref m7, .ref m8, .ref m9, .ref m10, .ref m11, .ref m12, .ref m13, .ref m14, .ref m15, .ref m16])), (m1, .inl (cZ, 8, .inl fs)), (m2, .inl (cI, 8, .inl fp)), (m6, .inl (cI, 8, .inl fw)), (m7, .inl (cI, 9, .inl ft)), (m8, .inl (cZ, 256, .inl fr))] ∧ mz_N U)) (va_Qi (fun (r : Int32) (_ : Unit) => mz_la (mz_PB n fp (mz_amg sh i j) i j) p3 r) (fun _ t => ∃ (gw : Nat → Int32), ∃ (gt : Nat → Int32), ∃ (gr : Nat → Int32), va_P (dC, dI) vwCl [(mo, .inr (8, [.int (nI n), .ref m1, .ref m2, .ref m3, .long ka, .long kb, .ref m6, .ref m7, .ref m8, .ref m9, .ref m10, .ref m11, .ref m12, .ref m13, .ref m14, .ref m15, .ref m16])), (m1, .inl (cZ, 8, .inl fs)), (m2, .inl (cI, 8, .inl fp)), (m6, .inl (cI, 8, .inl gw)), (m7, .inl (cI, 9, .inl gt)), (m8, .inl (cZ, 256, .inl gr))] t.heap ∧ va_D (va_A [(mo, .inr (8, [.int (nI n), .ref m1, .ref m2, .ref m3, .long ka, .long kb, .ref m6, .ref m7, .ref m8, .ref m9, .ref m10, .ref m11, .ref m12, .ref m13, .ref m14, .ref m15, .ref m16])), (m1, .inl (cZ, 8, .inl fs)), (m2, .inl (cI, 8, .inl fp)), (m6, .inl (cI, 8, .inl fw)), (m7, .inl (cI, 9, .inl ft)), (m8, .inl (cZ, 256, .inl fr))] sz) [(mo, .inr (8, [.int (nI n), .ref m1, .ref m2, .ref m3, .long ka, .long kb, .ref m6, .ref m7, .ref m8, .ref m9, .ref m10, .ref m11, .ref m12, .ref m13, .ref m14, .ref m15, .ref m16])), (m1, .inl (cZ, 8, .inl fs)), (m2, .inl (cI, 8, .inl fp)), (m6, .inl (cI, 8, .inl gw)), (m7, .inl (cI, 9, .inl gt)), (m8, .inl (cZ, 256, .inl gr))]) (va_A [(mo, .inr (8, [.int (nI n), .ref m1, .ref m2, .ref m3, .long ka, .long kb, .ref m6, .ref m7, .ref m8, .ref m9, .ref m10, .ref m11, .ref m12, .ref m13, .ref m14, .ref m15, .ref m16])), (m1, .inl (cZ, 8, .inl fs)), (m2, .inl (cI, 8, .inl fp)), (m6, .inl (cI, 8, .inl fw)), (m7, .inl (cI, 9, .inl ft)), (m8, .inl (cZ, 256, .inl fr))] sz)) 0 0 (va_A [(mo, .inr (8, [.int (nI n), .ref m1, .ref m2, .ref m3, .long ka, .long kb, .ref m6, .ref m7, .ref m8, .ref m9, .ref m10, .ref m11, .ref m12, .ref m13, .ref m14, .ref m15, .ref m16])), (m1, .inl (cZ, 8, .inl fs)), (m2, .inl (cI, 8, .inl fp)), (m6, .inl (cI, 8, .inl fw)), (m7, .inl (cI, 9, .inl ft)), (m8, .inl (cZ, 256, .inl fr))] sz) := by
  refine Met.ofW (cc := cX8_leastAt) (maxL := 6) (ret := (some .int)) (by decide) rfl ?_
  intro p e s m args below meth c s₁ B hml hv
  obtain ⟨rfl, hsz, hP, hK, hD0, hN⟩ := hv
  subst hsz
  have hx := B.exec
  have hb := B.bytes
  have hr := B.returns
  have hts := atoms_spec (ws := wsX8_leastAt) B.pre
  have hown : s.vm.findClass RX8 = some m.cls := findClass_of_methodNamed B.named
  have hlocks := B.notSynchronized
  have hD := hD0.self (sz := s.heap.size)
  generalize hAe : va_A [(mo, .inr (8, [.int (nI n), .ref m1, .ref m2, .ref m3, .long ka, .long kb, .ref m6, .ref m7, .ref m8, .ref m9, .ref m10, .ref m11, .ref m12, .ref m13, .ref m14, .ref m15, .ref m16])), (m1, .inl (cZ, 8, .inl fs)), (m2, .inl (cI, 8, .inl fp)), (m6, .inl (cI, 8, .inl fw)), (m7, .inl (cI, 9, .inl ft)), (m8, .inl (cZ, 256, .inl fr))] s.heap.size = A at hD ⊢
  have hA : ∀ q : Nat, s.heap.size ≤ q → A q := fun q h => by rw [← hAe]; exact Or.inr h
  have hS : va_S A s.heap s.heap [] := va_S.rf
  have hl := lv_entry ([.ref mo, .int (nI i), .int (nI j), .int p3]) (n := 6) (Nat.le_of_ble_eq_true rfl)
  rw [lg_entry_eq]
  generalize (lg_sl ([.ref mo, .int (nI i), .int (nI j), .int p3]) ++ List.replicate (6 - (lg_sl ([.ref mo, .int (nI i), .int (nI j), .int p3])).length) Slot.unset).toArray = ls at hl ⊢
  have hl : lv_has ls 6 [(0, .ref mo), (1, .int (nI i)), (2, .int (nI j)), (3, .int p3)] := hl
  refine lv_iload_n hx hb dX8_leastAt_0 rfl (lv_at hl 3 rfl) ?_
  refine lv_if_lt (tgt := 13) hx hb dX8_leastAt_1 (by decide) (fun c_1 => ?_) (fun c_1 => ?_)
  · skip
    refine lv_iconst (v := (-1)) hx hb dX8_leastAt_13 (by decide +kernel) ?_
    have hP9 := hP.sub (ws' := [(mo, .inr (8, [.int (nI n), .ref m1, .ref m2, .ref m3, .long ka, .long kb, .ref m6, .ref m7, .ref m8, .ref m9, .ref m10, .ref m11, .ref m12, .ref m13, .ref m14, .ref m15, .ref m16])), (m1, .inl (cZ, 8, .inl fs)), (m2, .inl (cI, 8, .inl fp)), (m6, .inl (cI, 8, .inl fw)), (m7, .inl (cI, 9, .inl ft)), (m8, .inl (cZ, 256, .inl fr))]) [0, 1, 2, 3, 4, 5] rfl
    have hD9 := hD.sub (ws' := [(mo, .inr (8, [.int (nI n), .ref m1, .ref m2, .ref m3, .long ka, .long kb, .ref m6, .ref m7, .ref m8, .ref m9, .ref m10, .ref m11, .ref m12, .ref m13, .ref m14, .ref m15, .ref m16])), (m1, .inl (cZ, 8, .inl fs)), (m2, .inl (cI, 8, .inl fp)), (m6, .inl (cI, 8, .inl fw)), (m7, .inl (cI, 9, .inl ft)), (m8, .inl (cZ, 256, .inl fr))]) [0, 1, 2, 3, 4, 5] (by decide) rfl
    refine W.widen (k := 0) (n := 0) (Nat.le_of_ble_eq_true rfl) (Nat.le_of_ble_eq_true rfl) ?_
    exact W.iret (v := (-1)) hx hb hr (fun t ht hW => ⟨⟨(-1), (), rfl, (mz_la_neg c_1), fw, ft, fr, by rw [ht]; exact hP9, hD9⟩, hS.F ht⟩) hS.2.2 dX8_leastAt_14
  · skip
    refine lv_aload_n hx hb dX8_leastAt_4 rfl (lv_at hl 0 rfl) ?_
    refine lv_iload_n hx hb dX8_leastAt_5 rfl (lv_at hl 1 rfl) ?_
    refine lv_iload_n hx hb dX8_leastAt_6 rfl (lv_at hl 2 rfl) ?_
    have hPc := hP.sub (ws' := [(mo, .inr (8, [.int (nI n), .ref m1, .ref m2, .ref m3, .long ka, .long kb, .ref m6, .ref m7, .ref m8, .ref m9, .ref m10, .ref m11, .ref m12, .ref m13, .ref m14, .ref m15, .ref m16])), (m1, .inl (cZ, 8, .inl fs)), (m2, .inl (cI, 8, .inl fp)), (m6, .inl (cI, 8, .inl fw)), (m7, .inl (cI, 9, .inl ft)), (m8, .inl (cZ, 256, .inl fr))]) [0, 1, 2, 3, 4, 5] rfl
    have hDc := hD.sub (ws' := [(mo, .inr (8, [.int (nI n), .ref m1, .ref m2, .ref m3, .long ka, .long kb, .ref m6, .ref m7, .ref m8, .ref m9, .ref m10, .ref m11, .ref m12, .ref m13, .ref m14, .ref m15, .ref m16])), (m1, .inl (cZ, 8, .inl fs)), (m2, .inl (cI, 8, .inl fp)), (m6, .inl (cI, 8, .inl fw)), (m7, .inl (cI, 9, .inl ft)), (m8, .inl (cZ, 256, .inl fr))]) [0, 1, 2, 3, 4, 5] (by decide) rfl
    have hFc := va_free (wc := [(mo, .inr (8, [.int (nI n), .ref m1, .ref m2, .ref m3, .long ka, .long kb, .ref m6, .ref m7, .ref m8, .ref m9, .ref m10, .ref m11, .ref m12, .ref m13, .ref m14, .ref m15, .ref m16])), (m1, .inl (cZ, 8, .inl fs)), (m2, .inl (cI, 8, .inl fp)), (m6, .inl (cI, 8, .inl fw)), (m7, .inl (cI, 9, .inl ft)), (m8, .inl (cZ, 256, .inl fr))]) hD hS hA [0, 1, 2, 3, 4, 5] rfl
    refine va_calli (va_runV (As := [.int (nI i), .int (nI j)]) (rest := []) ⟨hx, hb, hml, hown, hts⟩ (mz_u_m_works l dC dI cI cJ cZ mo m1 m2 m3 m6 m7 m8 m9 m10 m11 m12 m13 m14 m15 m16 n ka kb fs fp fw ft fr i j sh s.heap.size (by first | assumption | omega) (by first | assumption | omega) (by first | assumption | omega) (by first | assumption | omega) (by first | assumption | omega) (by first | assumption | omega)) (cwV 2 hts gX8_leastAt_X8_works rfl rfl rfl (by decide +kernel) ⟨Nat.le_of_ble_eq_true rfl, Nat.le_of_ble_eq_true rfl⟩) ⟨fun a U g mk q => mz_blI q, va_recv hK hPc (ci := 8) (q0 := 0) rfl rfl, fun U hU hW => ⟨rfl, by rw [hU], by rw [hU]; exact hPc, va_K.moved hW.alike hK, hDc.weaken (fun _ _ _ _ => trivial), mz_nw hW hN⟩⟩ rfl rfl hl.1 rfl (lv_room (Nat.le_of_ble_eq_true rfl)) dX8_leastAt_7 ⟨Nat.le_of_ble_eq_true rfl, Nat.le_of_ble_eq_true rfl⟩) hS (fun q _ h => hFc q h) hFc (fun r_7 u t H1 locs ht hvm hw_7 hB hz1 hk1 hS => ?_)
    obtain ⟨gw_7, gt_7, gr_7, hx0_7, hP1, hD1⟩ := hB
    rw [ht] at hP1
    obtain ⟨hP, hD⟩ := va_join (wr := []) (w1 := [(mo, .inr (8, [.int (nI n), .ref m1, .ref m2, .ref m3, .long ka, .long kb, .ref m6, .ref m7, .ref m8, .ref m9, .ref m10, .ref m11, .ref m12, .ref m13, .ref m14, .ref m15, .ref m16])), (m1, .inl (cZ, 8, .inl fs)), (m2, .inl (cI, 8, .inl fp)), (m6, .inl (cI, 8, .inl gw_7)), (m7, .inl (cI, 9, .inl gt_7)), (m8, .inl (cZ, 256, .inl gr_7))]) hP hD [0, 1, 2, 3, 4, 5] [] rfl rfl (by decide) (by decide) hk1 hFc hP1 hD1
    generalize H1 = H at hP hS ⊢
    have hP : va_P (dC, dI) vwCl [(mo, .inr (8, [.int (nI n), .ref m1, .ref m2, .ref m3, .long ka, .long kb, .ref m6, .ref m7, .ref m8, .ref m9, .ref m10, .ref m11, .ref m12, .ref m13, .ref m14, .ref m15, .ref m16])), (m1, .inl (cZ, 8, .inl fs)), (m2, .inl (cI, 8, .inl fp)), (m6, .inl (cI, 8, .inl gw_7)), (m7, .inl (cI, 9, .inl gt_7)), (m8, .inl (cZ, 256, .inl gr_7))] H := hP
    have hD : va_D A [(mo, .inr (8, [.int (nI n), .ref m1, .ref m2, .ref m3, .long ka, .long kb, .ref m6, .ref m7, .ref m8, .ref m9, .ref m10, .ref m11, .ref m12, .ref m13, .ref m14, .ref m15, .ref m16])), (m1, .inl (cZ, 8, .inl fs)), (m2, .inl (cI, 8, .inl fp)), (m6, .inl (cI, 8, .inl gw_7)), (m7, .inl (cI, 9, .inl gt_7)), (m8, .inl (cZ, 256, .inl gr_7))] := hD
    obtain rfl : r_7 = 1 := hw_7
    refine lv_if_ne (tgt := 15) hx hb dX8_leastAt_10 (by decide) (fun _ => ?_) (fun c_10 => absurd c_10 (by decide +kernel))
    refine lv_iload_n hx hb dX8_leastAt_15 rfl (lv_at hl 3 rfl) ?_
    refine lv_istore (lv' := [(4, .int p3), (0, .ref mo), (1, .int (nI i)), (2, .int (nI j)), (3, .int p3)]) hx hb dX8_leastAt_16 hl (by decide) rfl (fun ls hl => ?_)
    refine lv_iconst (v := 0) hx hb dX8_leastAt_18 (by decide +kernel) ?_
    refine lv_istore (lv' := [(5, .int 0), (4, .int p3), (0, .ref mo), (1, .int (nI i)), (2, .int (nI j)), (3, .int p3)]) hx hb dX8_leastAt_19 hl (by decide) rfl (fun ls hl => ?_)
    refine mz_loopU (fun k H locs ls => ∃ (i_21 : Nat), ∃ (x4_21 : Int32), i_21 ≤ 256 ∧ (x4_21 + nI (mz_ct (mz_lp (mz_PB n fp (mz_amg sh i j) i j)) i_21) = p3) ∧ (∀ z, z < i_21 → mz_lp (mz_PB n fp (mz_amg sh i j) i j) z → ¬ nI (mz_ct (mz_lp (mz_PB n fp (mz_amg sh i j) i j)) z) = p3) ∧ va_P (dC, dI) vwCl [(mo, .inr (8, [.int (nI n), .ref m1, .ref m2, .ref m3, .long ka, .long kb, .ref m6, .ref m7, .ref m8, .ref m9, .ref m10, .ref m11, .ref m12, .ref m13, .ref m14, .ref m15, .ref m16])), (m1, .inl (cZ, 8, .inl fs)), (m2, .inl (cI, 8, .inl fp)), (m6, .inl (cI, 8, .inl gw_7)), (m7, .inl (cI, 9, .inl gt_7)), (m8, .inl (cZ, 256, .inl gr_7))] H ∧ va_D A [(mo, .inr (8, [.int (nI n), .ref m1, .ref m2, .ref m3, .long ka, .long kb, .ref m6, .ref m7, .ref m8, .ref m9, .ref m10, .ref m11, .ref m12, .ref m13, .ref m14, .ref m15, .ref m16])), (m1, .inl (cZ, 8, .inl fs)), (m2, .inl (cI, 8, .inl fp)), (m6, .inl (cI, 8, .inl gw_7)), (m7, .inl (cI, 9, .inl gt_7)), (m8, .inl (cZ, 256, .inl gr_7))] ∧ va_S A s.heap H locs ∧ lv_has ls 6 [(5, .int (nI i_21)), (4, .int x4_21), (0, .ref mo), (1, .int (nI i)), (2, .int (nI j)), (3, .int p3)] ∧ k = 256 - i_21) ?_ _ _ _ _ ⟨0, p3, by omega, (by show p3 + nI 0 = p3; rw [show nI 0 = 0 by decide, Int32.add_zero]), (fun z hz => absurd hz (Nat.not_lt_zero z)), hP, hD, hS, lv_sub hl [0, 1, 2, 3, 4, 5] rfl, rfl⟩
    intro k_21 H locs ls hI_21 ih_21
    obtain ⟨i_21, x4_21, hi_21, hl_21, hb_21, hP, hD, hS, hl, hk_21⟩ := hI_21
    refine lv_iload hx hb dX8_leastAt_21 (lv_at hl 0 rfl) ?_
    refine lv_sipush (v := 256) hx hb dX8_leastAt_23 (by decide +kernel) ?_
    refine lv_icmp_ge (tgt := 58) hx hb dX8_leastAt_26 (by decide) (fun c_26 => ?_) (fun c_26 => ?_)
    · skip
      have d_26 : 256 ≤ i_21 := (nI_leI (a := 256) (b := i_21) (by omega) (by omega)).mp c_26
      refine lv_iconst (v := (-1)) hx hb dX8_leastAt_58 (by decide +kernel) ?_
      have hP9 := hP.sub (ws' := [(mo, .inr (8, [.int (nI n), .ref m1, .ref m2, .ref m3, .long ka, .long kb, .ref m6, .ref m7, .ref m8, .ref m9, .ref m10, .ref m11, .ref m12, .ref m13, .ref m14, .ref m15, .ref m16])), (m1, .inl (cZ, 8, .inl fs)), (m2, .inl (cI, 8, .inl fp)), (m6, .inl (cI, 8, .inl gw_7)), (m7, .inl (cI, 9, .inl gt_7)), (m8, .inl (cZ, 256, .inl gr_7))]) [0, 1, 2, 3, 4, 5] rfl
      have hD9 := hD.sub (ws' := [(mo, .inr (8, [.int (nI n), .ref m1, .ref m2, .ref m3, .long ka, .long kb, .ref m6, .ref m7, .ref m8, .ref m9, .ref m10, .ref m11, .ref m12, .ref m13, .ref m14, .ref m15, .ref m16])), (m1, .inl (cZ, 8, .inl fs)), (m2, .inl (cI, 8, .inl fp)), (m6, .inl (cI, 8, .inl gw_7)), (m7, .inl (cI, 9, .inl gt_7)), (m8, .inl (cZ, 256, .inl gr_7))]) [0, 1, 2, 3, 4, 5] (by decide) rfl
      refine W.widen (k := 0) (n := 0) (Nat.le_of_ble_eq_true rfl) (Nat.le_of_ble_eq_true rfl) ?_
      exact W.iret (v := (-1)) hx hb hr (fun t ht hW => ⟨⟨(-1), (), rfl, Or.inr ⟨rfl, fun z hz => hb_21 z (by omega)⟩, gw_7, gt_7, gr_7, by rw [ht]; exact hP9, hD9⟩, hS.F ht⟩) hS.2.2 dX8_leastAt_59
    · skip
      have d_26 : ¬ 256 ≤ i_21 := fun h => c_26 ((nI_leI (a := 256) (b := i_21) (by omega) (by omega)).mpr h)
      refine lv_aload_n hx hb dX8_leastAt_29 rfl (lv_at hl 2 rfl) ?_
      refine lv_iload hx hb dX8_leastAt_30 (lv_at hl 0 rfl) ?_
      have hPc := hP.sub (ws' := [(mo, .inr (8, [.int (nI n), .ref m1, .ref m2, .ref m3, .long ka, .long kb, .ref m6, .ref m7, .ref m8, .ref m9, .ref m10, .ref m11, .ref m12, .ref m13, .ref m14, .ref m15, .ref m16])), (m8, .inl (cZ, 256, .inl gr_7))]) [0, 5] rfl
      refine va_calli (va_runV (As := [.int (nI i_21)]) (rest := []) ⟨hx, hb, hml, hown, hts⟩ (mz_u_m_isLeast l dC dI cI cJ cZ mo m1 m2 m3 m6 m7 m8 m9 m10 m11 m12 m13 m14 m15 m16 n ka kb gr_7 i_21 (mz_PB n fp (mz_amg sh i j) i j) H (by first | assumption | omega) (by first | assumption | omega)) (cwV 1 hts gX8_leastAt_X8_isLeast rfl rfl rfl (by decide +kernel) ⟨Nat.le_of_ble_eq_true rfl, Nat.le_of_ble_eq_true rfl⟩) ⟨fun a U g mk q => mz_blP q, va_recv hK hPc (ci := 8) (q0 := 0) rfl rfl, fun U hU hW => ⟨rfl, hU, hPc, va_K.moved hW.alike hK, mz_nw hW hN⟩⟩ rfl rfl hl.1 rfl (lv_room (Nat.le_of_ble_eq_true rfl)) dX8_leastAt_32 ⟨Nat.le_of_ble_eq_true rfl, Nat.le_of_ble_eq_true rfl⟩) hS (fun q _ h => h.elim) (fun q h => h.elim) (fun r_32 u t H1 locs ht hvm hw_32 hB hz1 hk1 hS => ?_)
      have hE : H = H1 := hB.symm.trans ht
      subst hE
      rcases (show (r_32 = 1 ∧ mz_lp (mz_PB n fp (mz_amg sh i j) i j) i_21) ∨ (r_32 = 0 ∧ ¬ mz_lp (mz_PB n fp (mz_amg sh i j) i j) i_21) from hw_32) with ⟨rfl, hc_32⟩ | ⟨rfl, hc_32⟩
      · skip
        refine lv_if_ne (tgt := 41) hx hb dX8_leastAt_35 (by decide) (fun _ => ?_) (fun c_35 => absurd c_35 (by decide +kernel))
        refine lv_iload hx hb dX8_leastAt_41 (lv_at hl 1 rfl) ?_
        refine lv_if_ne (tgt := 49) hx hb dX8_leastAt_43 (by decide) (fun c_43 => ?_) (fun c_43 => ?_)
        · skip
          obtain ⟨v_49, ev_49⟩ : ∃ y : Int32, y = x4_21 + Int32.ofInt (-1) := ⟨_, rfl⟩
          refine lv_iinc (v := v_49) (lv' := [(4, .int v_49), (5, .int (nI i_21)), (0, .ref mo), (1, .int (nI i)), (2, .int (nI j)), (3, .int p3)]) hx hb dX8_leastAt_49 hl (k := 1) rfl ev_49.symm (by decide) rfl (fun ls hl => ?_)
          refine lv_iinc (v := (nI (i_21 + 1))) (lv' := [(5, .int (nI (i_21 + 1))), (4, .int v_49), (0, .ref mo), (1, .int (nI i)), (2, .int (nI j)), (3, .int p3)]) hx hb dX8_leastAt_52 hl (k := 1) rfl (nI_1 _) (by decide) rfl (fun ls hl => ?_)
          refine lv_goto (tgt := 21) hx hb dX8_leastAt_55 (by decide) ?_
          exact ih_21 _ (by omega) _ _ _ ⟨(i_21 + 1), v_49, by omega, (by rw [ev_49]; exact mz_la_y hl_21 hc_32), (mz_la_b hl_21 c_43 hb_21), hP, hD, hS, lv_sub hl [0, 1, 2, 3, 4, 5] rfl, rfl⟩
        · skip
          refine lv_iload hx hb dX8_leastAt_46 (lv_at hl 0 rfl) ?_
          have hP9 := hP.sub (ws' := [(mo, .inr (8, [.int (nI n), .ref m1, .ref m2, .ref m3, .long ka, .long kb, .ref m6, .ref m7, .ref m8, .ref m9, .ref m10, .ref m11, .ref m12, .ref m13, .ref m14, .ref m15, .ref m16])), (m1, .inl (cZ, 8, .inl fs)), (m2, .inl (cI, 8, .inl fp)), (m6, .inl (cI, 8, .inl gw_7)), (m7, .inl (cI, 9, .inl gt_7)), (m8, .inl (cZ, 256, .inl gr_7))]) [0, 1, 2, 3, 4, 5] rfl
          have hD9 := hD.sub (ws' := [(mo, .inr (8, [.int (nI n), .ref m1, .ref m2, .ref m3, .long ka, .long kb, .ref m6, .ref m7, .ref m8, .ref m9, .ref m10, .ref m11, .ref m12, .ref m13, .ref m14, .ref m15, .ref m16])), (m1, .inl (cZ, 8, .inl fs)), (m2, .inl (cI, 8, .inl fp)), (m6, .inl (cI, 8, .inl gw_7)), (m7, .inl (cI, 9, .inl gt_7)), (m8, .inl (cZ, 256, .inl gr_7))]) [0, 1, 2, 3, 4, 5] (by decide) rfl
          refine W.widen (k := 0) (n := 0) (Nat.le_of_ble_eq_true rfl) (Nat.le_of_ble_eq_true rfl) ?_
          exact W.iret (v := (nI i_21)) hx hb hr (fun t ht hW => ⟨⟨(nI i_21), (), rfl, (mz_la_r (by omega) hl_21 c_43 hc_32), gw_7, gt_7, gr_7, by rw [ht]; exact hP9, hD9⟩, hS.F ht⟩) hS.2.2 dX8_leastAt_48
      · skip
        refine lv_if_ne (tgt := 41) hx hb dX8_leastAt_35 (by decide) (fun c_35 => absurd (by decide +kernel) c_35) (fun _ => ?_)
        refine lv_goto (tgt := 52) hx hb dX8_leastAt_38 (by decide) ?_
        refine lv_iinc (v := (nI (i_21 + 1))) (lv' := [(5, .int (nI (i_21 + 1))), (4, .int x4_21), (0, .ref mo), (1, .int (nI i)), (2, .int (nI j)), (3, .int p3)]) hx hb dX8_leastAt_52 hl (k := 0) rfl (nI_1 _) (by decide) rfl (fun ls hl => ?_)
        refine lv_goto (tgt := 21) hx hb dX8_leastAt_55 (by decide) ?_
        exact ih_21 _ (by omega) _ _ _ ⟨(i_21 + 1), x4_21, by omega, (mz_la_n hl_21 hc_32), (mz_la_bn hc_32 hb_21), hP, hD, hS, lv_sub hl [0, 1, 2, 3, 4, 5] rfl, rfl⟩
set_option maxHeartbeats 1000000 in
set_option maxRecDepth 100000 in
theorem mz_u_m_leastAt_out (l : Launch) (dC : Nat → ClassId) (dI : Nat → Nat → Nat) (cI cJ cZ : ClassId) (mo : Nat) (m1 : Nat) (m2 : Nat) (m3 : Nat) (m6 : Nat) (m7 : Nat) (m8 : Nat) (m9 : Nat) (m10 : Nat) (m11 : Nat) (m12 : Nat) (m13 : Nat) (m14 : Nat) (m15 : Nat) (m16 : Nat) (n : Nat) (ka : Int64) (kb : Int64) (p1 : Int32) (p2 : Int32) (p3 : Int32) (Hq : Heap) (hn : n ≤ 8) (hn2 : ¬ ∃ i j : Nat, i < n ∧ j < n ∧ (¬ i = j) ∧ p1 = nI i ∧ p2 = nI j) : Met l yX8_leastAt wsX8_leastAt ({ frames := 2, cells := 0, slots := 0, locals := 45 }) (va_Pc [.ref mo, .int p1, .int p2, .int p3] (fun U => U.heap = Hq ∧ va_P (dC, dI) vwCl [(mo, .inr (8, [.int (nI n), .ref m1, .ref m2, .ref m3, .long ka, .long kb, .ref m6, .ref m7, .ref m8, .ref m9, .ref m10, .ref m11, .ref m12, .ref m13, .ref m14, .ref m15, .ref m16]))] Hq ∧ va_K (dC, dI) vwCl [(cI, FieldType.int), (cJ, FieldType.long), (cZ, FieldType.boolean)] U ∧ mz_N U)) (va_Qi (fun (r : Int32) (_ : Unit) => r = (-1)) (fun _ t => t.heap = Hq) (fun _ : Nat => False)) 0 0 (fun _ : Nat => False) := by
  refine Met.ofW (cc := cX8_leastAt) (maxL := 6) (ret := (some .int)) (by decide) rfl ?_
  intro p e s m args below meth c s₁ B hml hv
  obtain ⟨rfl, hH, hP, hK, hN⟩ := hv
  subst hH
  have hx := B.exec
  have hb := B.bytes
  have hr := B.returns
  have hts := atoms_spec (ws := wsX8_leastAt) B.pre
  have hown : s.vm.findClass RX8 = some m.cls := findClass_of_methodNamed B.named
  have hlocks := B.notSynchronized
  have hS : va_S (fun _ : Nat => False) s.heap s.heap [] := va_S.rf
  have hl := lv_entry ([.ref mo, .int p1, .int p2, .int p3]) (n := 6) (Nat.le_of_ble_eq_true rfl)
  rw [lg_entry_eq]
  generalize (lg_sl ([.ref mo, .int p1, .int p2, .int p3]) ++ List.replicate (6 - (lg_sl ([.ref mo, .int p1, .int p2, .int p3])).length) Slot.unset).toArray = ls at hl ⊢
  have hl : lv_has ls 6 [(0, .ref mo), (1, .int p1), (2, .int p2), (3, .int p3)] := hl
  refine lv_iload_n hx hb dX8_leastAt_0 rfl (lv_at hl 3 rfl) ?_
  refine lv_if_lt (tgt := 13) hx hb dX8_leastAt_1 (by decide) (fun c_1 => ?_) (fun c_1 => ?_)
  · skip
    refine lv_iconst (v := (-1)) hx hb dX8_leastAt_13 (by decide +kernel) ?_
    refine W.widen (k := 0) (n := 0) (Nat.le_of_ble_eq_true rfl) (Nat.le_of_ble_eq_true rfl) ?_
    exact W.iret (v := (-1)) hx hb hr (fun t ht hW => ⟨⟨(-1), (), rfl, rfl, ht⟩, hS.F ht⟩) hS.2.2 dX8_leastAt_14
  · skip
    refine lv_aload_n hx hb dX8_leastAt_4 rfl (lv_at hl 0 rfl) ?_
    refine lv_iload_n hx hb dX8_leastAt_5 rfl (lv_at hl 1 rfl) ?_
    refine lv_iload_n hx hb dX8_leastAt_6 rfl (lv_at hl 2 rfl) ?_
    have hPc := hP.sub (ws' := [(mo, .inr (8, [.int (nI n), .ref m1, .ref m2, .ref m3, .long ka, .long kb, .ref m6, .ref m7, .ref m8, .ref m9, .ref m10, .ref m11, .ref m12, .ref m13, .ref m14, .ref m15, .ref m16]))]) [0] rfl
    refine va_calli (va_runV (As := [.int p1, .int p2]) (rest := []) ⟨hx, hb, hml, hown, hts⟩ (mz_u_m_works_out l dC dI cI cJ cZ mo m1 m2 m3 m6 m7 m8 m9 m10 m11 m12 m13 m14 m15 m16 n ka kb p1 p2 s.heap (by first | assumption | omega) (by first | assumption | omega)) (cwV 2 hts gX8_leastAt_X8_works rfl rfl rfl (by decide +kernel) ⟨Nat.le_of_ble_eq_true rfl, Nat.le_of_ble_eq_true rfl⟩) ⟨fun a U g mk q => mz_blP q, va_recv hK hPc (ci := 8) (q0 := 0) rfl rfl, fun U hU hW => ⟨rfl, hU, hPc, va_K.moved hW.alike hK, mz_nw hW hN⟩⟩ rfl rfl hl.1 rfl (lv_room (Nat.le_of_ble_eq_true rfl)) dX8_leastAt_7 ⟨Nat.le_of_ble_eq_true rfl, Nat.le_of_ble_eq_true rfl⟩) hS (fun q _ h => h.elim) (fun q h => h.elim) (fun r_7 u t H1 locs ht hvm hw_7 hB hz1 hk1 hS => ?_)
    have hE : s.heap = H1 := hB.symm.trans ht
    subst hE
    obtain rfl : r_7 = 0 := hw_7
    refine lv_if_ne (tgt := 15) hx hb dX8_leastAt_10 (by decide) (fun c_10 => absurd (by decide +kernel) c_10) (fun _ => ?_)
    refine lv_iconst (v := (-1)) hx hb dX8_leastAt_13 (by decide +kernel) ?_
    refine W.widen (k := 0) (n := 0) (Nat.le_of_ble_eq_true rfl) (Nat.le_of_ble_eq_true rfl) ?_
    exact W.iret (v := (-1)) hx hb hr (fun t ht hW => ⟨⟨(-1), (), rfl, rfl, ht⟩, hS.F ht⟩) hS.2.2 dX8_leastAt_14
set_option maxHeartbeats 1000000 in
set_option maxRecDepth 100000 in
theorem mz_u_m_fit (l : Launch) (dC : Nat → ClassId) (dI : Nat → Nat → Nat) (cI cJ cZ : ClassId) (mo : Nat) (m1 : Nat) (m2 : Nat) (m3 : Nat) (m6 : Nat) (m7 : Nat) (m8 : Nat) (m9 : Nat) (m10 : Nat) (m11 : Nat) (m12 : Nat) (m13 : Nat) (m14 : Nat) (m15 : Nat) (m16 : Nat) (n : Nat) (ka : Int64) (kb : Int64) (fs : Nat → Int32) (fp : Nat → Int32) (fw : Nat → Int32) (ft : Nat → Int32) (i : Nat) (j : Nat) (p3 : Int32) (sh : Int32) (sz : Nat) (hn : n ≤ 8) (hi : i < n) (hj : j < n) (hne : ¬ i = j) (hgb : ∀ k, k < n → ∀ j, j < 32 → mz_t (fp k) j = true → j < n) (hsn : mz_sn n sh fs) (hZ : mz_hp n p3) (hzs : p3 &&& (sh ^^^ (-1)) = 0) (hzi : mz_t p3 i = false) (hzj : mz_t p3 j = false) : Met l yX8_fit wsX8_fit ({ frames := 5, cells := 0, slots := 0, locals := 136 }) (va_Pc [.ref mo, .int (nI i), .int (nI j), .int p3] (fun U => U.heap.size = sz ∧ va_P (dC, dI) vwCl [(mo, .inr (8, [.int (nI n), .ref m1, .ref m2, .ref m3, .long ka, .long kb, .ref m6, .ref m7, .ref m8, .ref m9, .ref m10, .ref m11, .ref m12, .ref m13, .ref m14, .ref m15, .ref m16])), (m1, .inl (cZ, 8, .inl fs)), (m2, .inl (cI, 8, .inl fp)), (m6, .inl (cI, 8, .inl fw)), (m7, .inl (cI, 9, .inl ft))] U.heap ∧ va_K (dC, dI) vwCl [(cI, FieldType.int), (cJ, FieldType.long), (cZ, FieldType.boolean)] U ∧ va_D (fun _ => True) [(mo, .inr (8, [.int (nI n), .ref m1, .ref m2, .ref m3, .long ka, .long kb, .ref m6, .ref m7, .ref m8, .ref m9, .ref m10, .ref m11, .ref m12, .ref m13, .ref m14, .ref m15, .ref m16])), (m1, .inl (cZ, 8, .inl fs)), (m2, .inl (cI, 8, .inl fp)), (m6, .inl (cI, 8, .inl fw)), (m7, .inl (cI, 9, .inl ft))] ∧ mz_N U)) (va_Qi (fun (r : Int32) (_ : Unit) => (r = 1 ∧ (mz_ft n fp i j p3)) ∨ (r = 0 ∧ ¬ (mz_ft n fp i j p3))) (fun _ t => ∃ (gw : Nat → Int32), ∃ (gt : Nat → Int32), va_P (dC, dI) vwCl [(mo, .inr (8, [.int (nI n), .ref m1, .ref m2, .ref m3, .long ka, .long kb, .ref m6, .ref m7, .ref m8, .ref m9, .ref m10, .ref m11, .ref m12, .ref m13, .ref m14, .ref m15, .ref m16])), (m1, .inl (cZ, 8, .inl fs)), (m2, .inl (cI, 8, .inl fp)), (m6, .inl (cI, 8, .inl gw)), (m7, .inl (cI, 9, .inl gt))] t.heap ∧ va_D (va_A [(mo, .inr (8, [.int (nI n), .ref m1, .ref m2, .ref m3, .long ka, .long kb, .ref m6, .ref m7, .ref m8, .ref m9, .ref m10, .ref m11, .ref m12, .ref m13, .ref m14, .ref m15, .ref m16])), (m1, .inl (cZ, 8, .inl fs)), (m2, .inl (cI, 8, .inl fp)), (m6, .inl (cI, 8, .inl fw)), (m7, .inl (cI, 9, .inl ft))] sz) [(mo, .inr (8, [.int (nI n), .ref m1, .ref m2, .ref m3, .long ka, .long kb, .ref m6, .ref m7, .ref m8, .ref m9, .ref m10, .ref m11, .ref m12, .ref m13, .ref m14, .ref m15, .ref m16])), (m1, .inl (cZ, 8, .inl fs)), (m2, .inl (cI, 8, .inl fp)), (m6, .inl (cI, 8, .inl gw)), (m7, .inl (cI, 9, .inl gt))]) (va_A [(mo, .inr (8, [.int (nI n), .ref m1, .ref m2, .ref m3, .long ka, .long kb, .ref m6, .ref m7, .ref m8, .ref m9, .ref m10, .ref m11, .ref m12, .ref m13, .ref m14, .ref m15, .ref m16])), (m1, .inl (cZ, 8, .inl fs)), (m2, .inl (cI, 8, .inl fp)), (m6, .inl (cI, 8, .inl fw)), (m7, .inl (cI, 9, .inl ft))] sz)) 0 0 (va_A [(mo, .inr (8, [.int (nI n), .ref m1, .ref m2, .ref m3, .long ka, .long kb, .ref m6, .ref m7, .ref m8, .ref m9, .ref m10, .ref m11, .ref m12, .ref m13, .ref m14, .ref m15, .ref m16])), (m1, .inl (cZ, 8, .inl fs)), (m2, .inl (cI, 8, .inl fp)), (m6, .inl (cI, 8, .inl fw)), (m7, .inl (cI, 9, .inl ft))] sz) := by
  refine Met.ofW (cc := cX8_fit) (maxL := 7) (ret := (some .boolean)) (by decide) rfl ?_
  intro p e s m args below meth c s₁ B hml hv
  obtain ⟨rfl, hsz, hP, hK, hD0, hN⟩ := hv
  subst hsz
  have hx := B.exec
  have hb := B.bytes
  have hr := B.returns
  have hts := atoms_spec (ws := wsX8_fit) B.pre
  have hown : s.vm.findClass RX8 = some m.cls := findClass_of_methodNamed B.named
  have hlocks := B.notSynchronized
  have hD := hD0.self (sz := s.heap.size)
  generalize hAe : va_A [(mo, .inr (8, [.int (nI n), .ref m1, .ref m2, .ref m3, .long ka, .long kb, .ref m6, .ref m7, .ref m8, .ref m9, .ref m10, .ref m11, .ref m12, .ref m13, .ref m14, .ref m15, .ref m16])), (m1, .inl (cZ, 8, .inl fs)), (m2, .inl (cI, 8, .inl fp)), (m6, .inl (cI, 8, .inl fw)), (m7, .inl (cI, 9, .inl ft))] s.heap.size = A at hD ⊢
  have hA : ∀ q : Nat, s.heap.size ≤ q → A q := fun q h => by rw [← hAe]; exact Or.inr h
  have hS : va_S A s.heap s.heap [] := va_S.rf
  have hiX8 : ∀ w ∈ u_ws RX8 TX8 17, w ∈ wsX8_fit := by decide +kernel
  have hl := lv_entry ([.ref mo, .int (nI i), .int (nI j), .int p3]) (n := 7) (Nat.le_of_ble_eq_true rfl)
  rw [lg_entry_eq]
  generalize (lg_sl ([.ref mo, .int (nI i), .int (nI j), .int p3]) ++ List.replicate (7 - (lg_sl ([.ref mo, .int (nI i), .int (nI j), .int p3])).length) Slot.unset).toArray = ls at hl ⊢
  have hl : lv_has ls 7 [(0, .ref mo), (1, .int (nI i)), (2, .int (nI j)), (3, .int p3)] := hl
  refine lv_aload_n hx hb dX8_fit_0 rfl (lv_at hl 0 rfl) ?_
  refine lv_iload_n hx hb dX8_fit_1 rfl (lv_at hl 1 rfl) ?_
  have hPc := hP.sub (ws' := [(mo, .inr (8, [.int (nI n), .ref m1, .ref m2, .ref m3, .long ka, .long kb, .ref m6, .ref m7, .ref m8, .ref m9, .ref m10, .ref m11, .ref m12, .ref m13, .ref m14, .ref m15, .ref m16]))]) [0] rfl
  refine va_calli (va_runV (As := [.int (nI i)]) (rest := []) ⟨hx, hb, hml, hown, hts⟩ (mz_m_isThing_in l dC dI cI cJ cZ mo m1 m2 m3 m6 m7 m8 m9 m10 m11 m12 m13 m14 m15 m16 n ka kb i s.heap (by first | assumption | omega) (by first | assumption | omega)) (cwV 1 hts gX8_fit_X8_isThing rfl rfl rfl (by decide +kernel) ⟨Nat.le_of_ble_eq_true rfl, Nat.le_of_ble_eq_true rfl⟩) ⟨fun a U g mk q => mz_blP q, va_recv hK hPc (ci := 8) (q0 := 0) rfl rfl, fun U hU hW => ⟨rfl, hU, hPc, va_K.moved hW.alike hK, mz_nw hW hN⟩⟩ rfl rfl hl.1 rfl (lv_room (Nat.le_of_ble_eq_true rfl)) dX8_fit_2 ⟨Nat.le_of_ble_eq_true rfl, Nat.le_of_ble_eq_true rfl⟩) hS (fun q _ h => h.elim) (fun q h => h.elim) (fun r_2 u t H1 locs ht hvm hw_2 hB hz1 hk1 hS => ?_)
  have hE : s.heap = H1 := hB.symm.trans ht
  subst hE
  obtain rfl : r_2 = 1 := hw_2
  refine lv_if_eq (tgt := 58) hx hb dX8_fit_5 (by decide) (fun c_5 => absurd c_5 (by decide +kernel)) (fun _ => ?_)
  refine lv_aload_n hx hb dX8_fit_8 rfl (lv_at hl 0 rfl) ?_
  refine lv_iload_n hx hb dX8_fit_9 rfl (lv_at hl 2 rfl) ?_
  have hPc := hP.sub (ws' := [(mo, .inr (8, [.int (nI n), .ref m1, .ref m2, .ref m3, .long ka, .long kb, .ref m6, .ref m7, .ref m8, .ref m9, .ref m10, .ref m11, .ref m12, .ref m13, .ref m14, .ref m15, .ref m16]))]) [0] rfl
  refine va_calli (va_runV (As := [.int (nI j)]) (rest := []) ⟨hx, hb, hml, hown, hts⟩ (mz_m_isThing_in l dC dI cI cJ cZ mo m1 m2 m3 m6 m7 m8 m9 m10 m11 m12 m13 m14 m15 m16 n ka kb j s.heap (by first | assumption | omega) (by first | assumption | omega)) (cwV 1 hts gX8_fit_X8_isThing rfl rfl rfl (by decide +kernel) ⟨Nat.le_of_ble_eq_true rfl, Nat.le_of_ble_eq_true rfl⟩) ⟨fun a U g mk q => mz_blP q, va_recv hK hPc (ci := 8) (q0 := 0) rfl rfl, fun U hU hW => ⟨rfl, hU, hPc, va_K.moved hW.alike hK, mz_nw hW hN⟩⟩ rfl rfl hl.1 rfl (lv_room (Nat.le_of_ble_eq_true rfl)) dX8_fit_10 ⟨Nat.le_of_ble_eq_true rfl, Nat.le_of_ble_eq_true rfl⟩) hS (fun q _ h => h.elim) (fun q h => h.elim) (fun r_10 u t H1 locs ht hvm hw_10 hB hz1 hk1 hS => ?_)
  have hE : s.heap = H1 := hB.symm.trans ht
  subst hE
  obtain rfl : r_10 = 1 := hw_10
  refine lv_if_eq (tgt := 58) hx hb dX8_fit_13 (by decide) (fun c_13 => absurd c_13 (by decide +kernel)) (fun _ => ?_)
  refine lv_iload_n hx hb dX8_fit_16 rfl (lv_at hl 1 rfl) ?_
  refine lv_iload_n hx hb dX8_fit_17 rfl (lv_at hl 2 rfl) ?_
  refine lv_icmp_eq (tgt := 58) hx hb dX8_fit_18 (by decide) (fun c_18 => absurd c_18 (fun h => hne ((nI_eq (by omega) (by omega)).mp h))) (fun _ => ?_)
  refine lv_aload_n hx hb dX8_fit_21 rfl (lv_at hl 0 rfl) ?_
  refine lv_iload_n hx hb dX8_fit_22 rfl (lv_at hl 3 rfl) ?_
  have hPc := hP.sub (ws' := [(mo, .inr (8, [.int (nI n), .ref m1, .ref m2, .ref m3, .long ka, .long kb, .ref m6, .ref m7, .ref m8, .ref m9, .ref m10, .ref m11, .ref m12, .ref m13, .ref m14, .ref m15, .ref m16]))]) [0] rfl
  refine va_calli (va_runV (As := [.int p3]) (rest := []) ⟨hx, hb, hml, hown, hts⟩ (mz_h_m_isHeap l dC dI cI cJ cZ mo m1 m2 m3 m6 m7 m8 m9 m10 m11 m12 m13 m14 m15 m16 n ka kb p3 s.heap (by first | assumption | omega)) (cwV 1 hts gX8_fit_X8_isHeap rfl rfl rfl (by decide +kernel) ⟨Nat.le_of_ble_eq_true rfl, Nat.le_of_ble_eq_true rfl⟩) ⟨fun a U g mk q => mz_blP q, va_recv hK hPc (ci := 8) (q0 := 0) rfl rfl, fun U hU hW => ⟨rfl, hU, hPc, va_K.moved hW.alike hK, mz_nw hW hN⟩⟩ rfl rfl hl.1 rfl (lv_room (Nat.le_of_ble_eq_true rfl)) dX8_fit_23 ⟨Nat.le_of_ble_eq_true rfl, Nat.le_of_ble_eq_true rfl⟩) hS (fun q _ h => h.elim) (fun q h => h.elim) (fun r_23 u t H1 locs ht hvm hw_23 hB hz1 hk1 hS => ?_)
  have hE : s.heap = H1 := hB.symm.trans ht
  subst hE
  rcases (show (r_23 = 1 ∧ mz_hp n p3) ∨ (r_23 = 0 ∧ ¬ mz_hp n p3) from hw_23) with ⟨rfl, hc_23⟩ | ⟨rfl, hc_23⟩
  · skip
    refine lv_if_eq (tgt := 58) hx hb dX8_fit_26 (by decide) (fun c_26 => absurd c_26 (by decide +kernel)) (fun _ => ?_)
    refine lv_iload_n hx hb dX8_fit_29 rfl (lv_at hl 3 rfl) ?_
    refine lv_aload_n hx hb dX8_fit_30 rfl (lv_at hl 0 rfl) ?_
    have hPc := hP.sub (ws' := [(mo, .inr (8, [.int (nI n), .ref m1, .ref m2, .ref m3, .long ka, .long kb, .ref m6, .ref m7, .ref m8, .ref m9, .ref m10, .ref m11, .ref m12, .ref m13, .ref m14, .ref m15, .ref m16])), (m1, .inl (cZ, 8, .inl fs))]) [0, 1] rfl
    refine va_calli (va_runV (As := []) (rest := [.int p3]) ⟨hx, hb, hml, hown, hts⟩ (mz_f_m_seen l dC dI cI cJ cZ mo m1 m2 m3 m6 m7 m8 m9 m10 m11 m12 m13 m14 m15 m16 n ka kb fs s.heap (by first | assumption | omega)) (cwV 0 hts gX8_fit_X8_seen rfl rfl rfl (by decide +kernel) ⟨Nat.le_of_ble_eq_true rfl, Nat.le_of_ble_eq_true rfl⟩) ⟨fun a U g mk q => mz_blP q, va_recv hK hPc (ci := 8) (q0 := 0) rfl rfl, fun U hU hW => ⟨rfl, hU, hPc, va_K.moved hW.alike hK, mz_nw hW hN⟩⟩ rfl rfl hl.1 rfl (lv_room (Nat.le_of_ble_eq_true rfl)) dX8_fit_31 ⟨Nat.le_of_ble_eq_true rfl, Nat.le_of_ble_eq_true rfl⟩) hS (fun q _ h => h.elim) (fun q h => h.elim) (fun r_31 u t H1 locs ht hvm hw_31 hB hz1 hk1 hS => ?_)
    have hE : s.heap = H1 := hB.symm.trans ht
    subst hE
    refine mz_ti (y := sh) (mz_sn_one hw_31 hsn) ?_
    refine lv_iconst (v := (-1)) hx hb dX8_fit_34 (by decide +kernel) ?_
    refine lv_ixor hx hb dX8_fit_35 ?_
    refine lv_iand hx hb dX8_fit_36 ?_
    refine lv_if_ne (tgt := 58) hx hb dX8_fit_37 (by decide) (fun c_37 => ?_) (fun c_37 => ?_)
    · skip
      first | exact absurd hZ hc_23 | exact absurd hzs c_37 | (have h9 := mz_t_y (j := i) (by omega) c_46; rw [hzi] at h9; cases h9) | (have h9 := mz_t_y (j := j) (by omega) c_55; rw [hzj] at h9; cases h9)
    · skip
      refine lv_iload_n hx hb dX8_fit_40 rfl (lv_at hl 3 rfl) ?_
      refine lv_iload_n hx hb dX8_fit_41 rfl (lv_at hl 1 rfl) ?_
      refine lv_ishr hx hb dX8_fit_42 ?_
      refine lv_iconst (v := 1) hx hb dX8_fit_43 (by decide +kernel) ?_
      refine lv_iand hx hb dX8_fit_44 ?_
      refine lv_iconst (v := 1) hx hb dX8_fit_45 (by decide +kernel) ?_
      refine lv_icmp_eq (tgt := 58) hx hb dX8_fit_46 (by decide) (fun c_46 => ?_) (fun c_46 => ?_)
      · skip
        first | exact absurd hZ hc_23 | exact absurd hzs c_37 | (have h9 := mz_t_y (j := i) (by omega) c_46; rw [hzi] at h9; cases h9) | (have h9 := mz_t_y (j := j) (by omega) c_55; rw [hzj] at h9; cases h9)
      · skip
        refine lv_iload_n hx hb dX8_fit_49 rfl (lv_at hl 3 rfl) ?_
        refine lv_iload_n hx hb dX8_fit_50 rfl (lv_at hl 2 rfl) ?_
        refine lv_ishr hx hb dX8_fit_51 ?_
        refine lv_iconst (v := 1) hx hb dX8_fit_52 (by decide +kernel) ?_
        refine lv_iand hx hb dX8_fit_53 ?_
        refine lv_iconst (v := 1) hx hb dX8_fit_54 (by decide +kernel) ?_
        refine lv_icmp_ne (tgt := 60) hx hb dX8_fit_55 (by decide) (fun c_55 => ?_) (fun c_55 => ?_)
        · skip
          refine lv_aload_n hx hb dX8_fit_60 rfl (lv_at hl 0 rfl) ?_
          refine lv_iload_n hx hb dX8_fit_61 rfl (lv_at hl 1 rfl) ?_
          refine lv_iconst (v := 0) hx hb dX8_fit_62 (by decide +kernel) ?_
          have hPc := hP.sub (ws' := [(mo, .inr (8, [.int (nI n), .ref m1, .ref m2, .ref m3, .long ka, .long kb, .ref m6, .ref m7, .ref m8, .ref m9, .ref m10, .ref m11, .ref m12, .ref m13, .ref m14, .ref m15, .ref m16])), (m2, .inl (cI, 8, .inl fp))]) [0, 2] rfl
          refine va_calli (va_runV (As := [.int (nI i), .int 0]) (rest := []) ⟨hx, hb, hml, hown, hts⟩ (mz_f_m_belowOf l dC dI cI cJ cZ mo m1 m2 m3 m6 m7 m8 m9 m10 m11 m12 m13 m14 m15 m16 n ka kb fp i s.heap (by first | assumption | omega) (by first | assumption | omega)) (cwV 2 hts gX8_fit_X8_belowOf rfl rfl rfl (by decide +kernel) ⟨Nat.le_of_ble_eq_true rfl, Nat.le_of_ble_eq_true rfl⟩) ⟨fun a U g mk q => mz_blP q, va_recv hK hPc (ci := 8) (q0 := 0) rfl rfl, fun U hU hW => ⟨rfl, hU, hPc, va_K.moved hW.alike hK, mz_nw hW hN⟩⟩ rfl rfl hl.1 rfl (lv_room (Nat.le_of_ble_eq_true rfl)) dX8_fit_63 ⟨Nat.le_of_ble_eq_true rfl, Nat.le_of_ble_eq_true rfl⟩) hS (fun q _ h => h.elim) (fun q h => h.elim) (fun r_63 u t H1 locs ht hvm hw_63 hB hz1 hk1 hS => ?_)
          have hE : s.heap = H1 := hB.symm.trans ht
          subst hE
          refine lv_istore (lv' := [(4, .int r_63), (0, .ref mo), (1, .int (nI i)), (2, .int (nI j)), (3, .int p3)]) hx hb dX8_fit_66 hl (by decide) rfl (fun ls hl => ?_)
          refine lv_iload hx hb dX8_fit_68 (lv_at hl 0 rfl) ?_
          refine lv_iload_n hx hb dX8_fit_70 rfl (lv_at hl 3 rfl) ?_
          refine lv_ishr hx hb dX8_fit_71 ?_
          refine lv_iconst (v := 1) hx hb dX8_fit_72 (by decide +kernel) ?_
          refine lv_iand hx hb dX8_fit_73 ?_
          refine lv_if_ne (tgt := 91) hx hb dX8_fit_74 (by decide) (fun c_74 => ?_) (fun c_74 => ?_)
          · skip
            refine lv_iconst (v := 1) hx hb dX8_fit_91 (by decide +kernel) ?_
            refine lv_iload_n hx hb dX8_fit_92 rfl (lv_at hl 3 rfl) ?_
            refine lv_ishl hx hb dX8_fit_93 ?_
            refine lv_istore (lv' := [(5, .int (1 <<< ((nI j) &&& 31))), (4, .int r_63), (0, .ref mo), (1, .int (nI i)), (2, .int (nI j)), (3, .int p3)]) hx hb dX8_fit_94 hl (by decide) rfl (fun ls hl => ?_)
            refine lv_iconst (v := 0) hx hb dX8_fit_96 (by decide +kernel) ?_
            refine lv_istore (lv' := [(6, .int 0), (5, .int (1 <<< ((nI j) &&& 31))), (4, .int r_63), (0, .ref mo), (1, .int (nI i)), (2, .int (nI j)), (3, .int p3)]) hx hb dX8_fit_97 hl (by decide) rfl (fun ls hl => ?_)
            refine mz_loopU (fun k H locs ls => ∃ (i_99 : Nat), ∃ (x5_99 : Int32), i_99 ≤ n ∧ (mz_rd n fp i j i_99 x5_99) ∧ va_P (dC, dI) vwCl [(mo, .inr (8, [.int (nI n), .ref m1, .ref m2, .ref m3, .long ka, .long kb, .ref m6, .ref m7, .ref m8, .ref m9, .ref m10, .ref m11, .ref m12, .ref m13, .ref m14, .ref m15, .ref m16])), (m1, .inl (cZ, 8, .inl fs)), (m2, .inl (cI, 8, .inl fp)), (m6, .inl (cI, 8, .inl fw)), (m7, .inl (cI, 9, .inl ft))] H ∧ va_D A [(mo, .inr (8, [.int (nI n), .ref m1, .ref m2, .ref m3, .long ka, .long kb, .ref m6, .ref m7, .ref m8, .ref m9, .ref m10, .ref m11, .ref m12, .ref m13, .ref m14, .ref m15, .ref m16])), (m1, .inl (cZ, 8, .inl fs)), (m2, .inl (cI, 8, .inl fp)), (m6, .inl (cI, 8, .inl fw)), (m7, .inl (cI, 9, .inl ft))] ∧ va_S A s.heap H locs ∧ lv_has ls 7 [(6, .int (nI i_99)), (5, .int x5_99), (4, .int r_63), (0, .ref mo), (1, .int (nI i)), (2, .int (nI j)), (3, .int p3)] ∧ k = n - i_99) ?_ _ _ _ _ ⟨0, (1 <<< ((nI j) &&& 31)), by omega, (mz_rd_0 (by omega)), hP, hD, hS, lv_sub hl [0, 1, 2, 3, 4, 5, 6] rfl, rfl⟩
            intro k_99 H locs ls hI_99 ih_99
            obtain ⟨i_99, x5_99, hi_99, hr_99, hP, hD, hS, hl, hk_99⟩ := hI_99
            refine lv_iload hx hb dX8_fit_99 (lv_at hl 0 rfl) ?_
            refine lv_aload_n hx hb dX8_fit_101 rfl (lv_at hl 3 rfl) ?_
            refine va_get (D := (dC, dI)) (ci := 8) (v := .int (nI n)) (C := RX8) (T := TX8) (N := 17) hx hb hts hiX8 hown hK hP 0 rfl rfl 0 (by decide) (hts (.fieldLink RX8 58 "MadeItSoModel" "many" "I") (by decide +kernel)) (fun _ h9 => h9) rfl dX8_fit_102 ?_
            refine lv_icmp_ge (tgt := 149) hx hb dX8_fit_105 (by decide) (fun c_105 => ?_) (fun c_105 => ?_)
            · skip
              have d_105 : n ≤ i_99 := (nI_leI (a := n) (b := i_99) (by omega) (by omega)).mp c_105
              refine lv_iconst (v := 0) hx hb dX8_fit_149 (by decide +kernel) ?_
              refine lv_istore (lv' := [(6, .int 0), (5, .int x5_99), (4, .int r_63), (0, .ref mo), (1, .int (nI i)), (2, .int (nI j)), (3, .int p3)]) hx hb dX8_fit_150 hl (by decide) rfl (fun ls hl => ?_)
              refine mz_loopU (fun k H locs ls => ∃ (i_152 : Nat), i_152 ≤ n ∧ (∀ t9, t9 < i_152 → mz_t x5_99 t9 = true → mz_zf n fp p3 t9) ∧ va_P (dC, dI) vwCl [(mo, .inr (8, [.int (nI n), .ref m1, .ref m2, .ref m3, .long ka, .long kb, .ref m6, .ref m7, .ref m8, .ref m9, .ref m10, .ref m11, .ref m12, .ref m13, .ref m14, .ref m15, .ref m16])), (m1, .inl (cZ, 8, .inl fs)), (m2, .inl (cI, 8, .inl fp)), (m6, .inl (cI, 8, .inl fw)), (m7, .inl (cI, 9, .inl ft))] H ∧ va_D A [(mo, .inr (8, [.int (nI n), .ref m1, .ref m2, .ref m3, .long ka, .long kb, .ref m6, .ref m7, .ref m8, .ref m9, .ref m10, .ref m11, .ref m12, .ref m13, .ref m14, .ref m15, .ref m16])), (m1, .inl (cZ, 8, .inl fs)), (m2, .inl (cI, 8, .inl fp)), (m6, .inl (cI, 8, .inl fw)), (m7, .inl (cI, 9, .inl ft))] ∧ va_S A s.heap H locs ∧ lv_has ls 7 [(6, .int (nI i_152)), (5, .int x5_99), (4, .int r_63), (0, .ref mo), (1, .int (nI i)), (2, .int (nI j)), (3, .int p3)] ∧ k = n - i_152) ?_ _ _ _ _ ⟨0, by omega, (fun t9 ht9 => absurd ht9 (Nat.not_lt_zero t9)), hP, hD, hS, lv_sub hl [0, 1, 2, 3, 4, 5, 6] rfl, rfl⟩
              intro k_152 H locs ls hI_152 ih_152
              obtain ⟨i_152, hi_152, hz_152, hP, hD, hS, hl, hk_152⟩ := hI_152
              refine lv_iload hx hb dX8_fit_152 (lv_at hl 0 rfl) ?_
              refine lv_aload_n hx hb dX8_fit_154 rfl (lv_at hl 3 rfl) ?_
              refine va_get (D := (dC, dI)) (ci := 8) (v := .int (nI n)) (C := RX8) (T := TX8) (N := 17) hx hb hts hiX8 hown hK hP 0 rfl rfl 0 (by decide) (hts (.fieldLink RX8 58 "MadeItSoModel" "many" "I") (by decide +kernel)) (fun _ h9 => h9) rfl dX8_fit_155 ?_
              refine lv_icmp_ge (tgt := 197) hx hb dX8_fit_158 (by decide) (fun c_158 => ?_) (fun c_158 => ?_)
              · skip
                have d_158 : n ≤ i_152 := (nI_leI (a := n) (b := i_152) (by omega) (by omega)).mp c_158
                refine lv_aload_n hx hb dX8_fit_197 rfl (lv_at hl 3 rfl) ?_
                refine lv_iconst (v := 1) hx hb dX8_fit_198 (by decide +kernel) ?_
                refine lv_iload_n hx hb dX8_fit_199 rfl (lv_at hl 4 rfl) ?_
                refine lv_ishl hx hb dX8_fit_200 ?_
                refine lv_iconst (v := 1) hx hb dX8_fit_201 (by decide +kernel) ?_
                refine lv_iload_n hx hb dX8_fit_202 rfl (lv_at hl 5 rfl) ?_
                refine lv_ishl hx hb dX8_fit_203 ?_
                refine lv_iload_n hx hb dX8_fit_204 rfl (lv_at hl 6 rfl) ?_
                refine lv_iload_n hx hb dX8_fit_205 rfl (lv_at hl 4 rfl) ?_
                refine lv_iload hx hb dX8_fit_206 (lv_at hl 1 rfl) ?_
                have hPc := hP.sub (ws' := [(mo, .inr (8, [.int (nI n), .ref m1, .ref m2, .ref m3, .long ka, .long kb, .ref m6, .ref m7, .ref m8, .ref m9, .ref m10, .ref m11, .ref m12, .ref m13, .ref m14, .ref m15, .ref m16])), (m2, .inl (cI, 8, .inl fp)), (m6, .inl (cI, 8, .inl fw)), (m7, .inl (cI, 9, .inl ft))]) [0, 2, 3, 4] rfl
                have hDc := hD.sub (ws' := [(mo, .inr (8, [.int (nI n), .ref m1, .ref m2, .ref m3, .long ka, .long kb, .ref m6, .ref m7, .ref m8, .ref m9, .ref m10, .ref m11, .ref m12, .ref m13, .ref m14, .ref m15, .ref m16])), (m2, .inl (cI, 8, .inl fp)), (m6, .inl (cI, 8, .inl fw)), (m7, .inl (cI, 9, .inl ft))]) [0, 2, 3, 4] (by decide) rfl
                have hFc := va_free (wc := [(mo, .inr (8, [.int (nI n), .ref m1, .ref m2, .ref m3, .long ka, .long kb, .ref m6, .ref m7, .ref m8, .ref m9, .ref m10, .ref m11, .ref m12, .ref m13, .ref m14, .ref m15, .ref m16])), (m2, .inl (cI, 8, .inl fp)), (m6, .inl (cI, 8, .inl fw)), (m7, .inl (cI, 9, .inl ft))]) hD hS hA [0, 2, 3, 4] rfl
                refine va_calli (va_runV (As := [.int (1 <<< ((nI i) &&& 31)), .int (1 <<< ((nI j) &&& 31)), .int p3, .int (nI i), .int x5_99]) (rest := []) ⟨hx, hb, hml, hown, hts⟩ (mz_s_m_barred l dC dI cI cJ cZ mo m1 m2 m3 m6 m7 m8 m9 m10 m11 m12 m13 m14 m15 m16 n ka kb fp fw ft (1 <<< ((nI i) &&& 31)) (1 <<< ((nI j) &&& 31)) p3 (nI i) x5_99 H.size (by first | assumption | omega) (fun k9 hk9 j9 hj9 hx9 => hgb k9 hk9 j9 hj9 (by rw [mz_pwo_t (by omega) hj9, Bool.and_eq_true] at hx9; exact hx9.1)) (mz_bi2 (by omega) (by omega) hne)) (cwV 5 hts gX8_fit_X8_barred rfl rfl rfl (by decide +kernel) ⟨Nat.le_of_ble_eq_true rfl, Nat.le_of_ble_eq_true rfl⟩) ⟨fun a U g mk q => mz_blI q, va_recv hK hPc (ci := 8) (q0 := 0) rfl rfl, fun U hU hW => ⟨rfl, by rw [hU], by rw [hU]; exact hPc, va_K.moved hW.alike hK, hDc.weaken (fun _ _ _ _ => trivial), mz_nw hW hN⟩⟩ rfl rfl hl.1 rfl (lv_room (Nat.le_of_ble_eq_true rfl)) dX8_fit_208 ⟨Nat.le_of_ble_eq_true rfl, Nat.le_of_ble_eq_true rfl⟩) hS (fun q _ h => hFc q h) hFc (fun r_208 u t H1 locs ht hvm hw_208 hB hz1 hk1 hS => ?_)
                obtain ⟨gw_208, gt_208, hP1, hD1⟩ := hB
                rw [ht] at hP1
                obtain ⟨hP, hD⟩ := va_join (wr := [(m1, .inl (cZ, 8, .inl fs))]) (w1 := [(mo, .inr (8, [.int (nI n), .ref m1, .ref m2, .ref m3, .long ka, .long kb, .ref m6, .ref m7, .ref m8, .ref m9, .ref m10, .ref m11, .ref m12, .ref m13, .ref m14, .ref m15, .ref m16])), (m2, .inl (cI, 8, .inl fp)), (m6, .inl (cI, 8, .inl gw_208)), (m7, .inl (cI, 9, .inl gt_208))]) hP hD [0, 2, 3, 4] [1] rfl rfl (by decide) (by decide) hk1 hFc hP1 hD1
                generalize H1 = H at hP hS ⊢
                have hP : va_P (dC, dI) vwCl [(m1, .inl (cZ, 8, .inl fs)), (mo, .inr (8, [.int (nI n), .ref m1, .ref m2, .ref m3, .long ka, .long kb, .ref m6, .ref m7, .ref m8, .ref m9, .ref m10, .ref m11, .ref m12, .ref m13, .ref m14, .ref m15, .ref m16])), (m2, .inl (cI, 8, .inl fp)), (m6, .inl (cI, 8, .inl gw_208)), (m7, .inl (cI, 9, .inl gt_208))] H := hP
                have hD : va_D A [(m1, .inl (cZ, 8, .inl fs)), (mo, .inr (8, [.int (nI n), .ref m1, .ref m2, .ref m3, .long ka, .long kb, .ref m6, .ref m7, .ref m8, .ref m9, .ref m10, .ref m11, .ref m12, .ref m13, .ref m14, .ref m15, .ref m16])), (m2, .inl (cI, 8, .inl fp)), (m6, .inl (cI, 8, .inl gw_208)), (m7, .inl (cI, 9, .inl gt_208))] := hD
                rcases (show (r_208 = 1 ∧ ¬ (∃ ia ka, ia < n ∧ ka < n ∧ mz_t (1 <<< ((nI i) &&& 31)) ia = true ∧ mz_t (1 <<< ((nI j) &&& 31)) ka = true ∧ mz_pth n (mz_pwo fp (nI i) x5_99) p3 (mz_Mm n (mz_pwo fp (nI i) x5_99) p3) ia ka)) ∨ (r_208 = 0 ∧ ∃ ia ka, ia < n ∧ ka < n ∧ mz_t (1 <<< ((nI i) &&& 31)) ia = true ∧ mz_t (1 <<< ((nI j) &&& 31)) ka = true ∧ mz_pth n (mz_pwo fp (nI i) x5_99) p3 (mz_Mm n (mz_pwo fp (nI i) x5_99) p3) ia ka) from hw_208) with ⟨rfl, hc_208⟩ | ⟨rfl, hc_208⟩
                · skip
                  have hP9 := hP.sub (ws' := [(mo, .inr (8, [.int (nI n), .ref m1, .ref m2, .ref m3, .long ka, .long kb, .ref m6, .ref m7, .ref m8, .ref m9, .ref m10, .ref m11, .ref m12, .ref m13, .ref m14, .ref m15, .ref m16])), (m1, .inl (cZ, 8, .inl fs)), (m2, .inl (cI, 8, .inl fp)), (m6, .inl (cI, 8, .inl gw_208)), (m7, .inl (cI, 9, .inl gt_208))]) [1, 0, 2, 3, 4] rfl
                  have hD9 := hD.sub (ws' := [(mo, .inr (8, [.int (nI n), .ref m1, .ref m2, .ref m3, .long ka, .long kb, .ref m6, .ref m7, .ref m8, .ref m9, .ref m10, .ref m11, .ref m12, .ref m13, .ref m14, .ref m15, .ref m16])), (m1, .inl (cZ, 8, .inl fs)), (m2, .inl (cI, 8, .inl fp)), (m6, .inl (cI, 8, .inl gw_208)), (m7, .inl (cI, 9, .inl gt_208))]) [1, 0, 2, 3, 4] (by decide) rfl
                  refine W.widen (k := 0) (n := 0) (Nat.le_of_ble_eq_true rfl) (Nat.le_of_ble_eq_true rfl) ?_
                  exact W.zret (v := 1) hx hb hr (mz_nz (by decide +kernel)) (fun t ht hW => ⟨⟨1, (), rfl, Or.inl ⟨rfl, (mz_ft_B1 hj hw_63.1 (mz_t_y0 (by omega) c_74) (by have h9 := hr_99; rw [show i_99 = n by omega] at h9; exact h9) (fun t9 ht9 => hz_152 t9 (by omega))).mpr (fun q9 => hc_208 ((mz_yea hn hi hj).mpr q9))⟩, gw_208, gt_208, by rw [ht]; exact hP9, hD9⟩, hS.F ht⟩) hS.2.2 dX8_fit_211
                · skip
                  have hP9 := hP.sub (ws' := [(mo, .inr (8, [.int (nI n), .ref m1, .ref m2, .ref m3, .long ka, .long kb, .ref m6, .ref m7, .ref m8, .ref m9, .ref m10, .ref m11, .ref m12, .ref m13, .ref m14, .ref m15, .ref m16])), (m1, .inl (cZ, 8, .inl fs)), (m2, .inl (cI, 8, .inl fp)), (m6, .inl (cI, 8, .inl gw_208)), (m7, .inl (cI, 9, .inl gt_208))]) [1, 0, 2, 3, 4] rfl
                  have hD9 := hD.sub (ws' := [(mo, .inr (8, [.int (nI n), .ref m1, .ref m2, .ref m3, .long ka, .long kb, .ref m6, .ref m7, .ref m8, .ref m9, .ref m10, .ref m11, .ref m12, .ref m13, .ref m14, .ref m15, .ref m16])), (m1, .inl (cZ, 8, .inl fs)), (m2, .inl (cI, 8, .inl fp)), (m6, .inl (cI, 8, .inl gw_208)), (m7, .inl (cI, 9, .inl gt_208))]) [1, 0, 2, 3, 4] (by decide) rfl
                  refine W.widen (k := 0) (n := 0) (Nat.le_of_ble_eq_true rfl) (Nat.le_of_ble_eq_true rfl) ?_
                  exact W.zret (v := 0) hx hb hr (mz_nz (by decide +kernel)) (fun t ht hW => ⟨⟨0, (), rfl, Or.inr ⟨rfl, fun q9 => (mz_ft_B1 hj hw_63.1 (mz_t_y0 (by omega) c_74) (by have h9 := hr_99; rw [show i_99 = n by omega] at h9; exact h9) (fun t9 ht9 => hz_152 t9 (by omega))).mp q9 ((mz_yea hn hi hj).mp hc_208)⟩, gw_208, gt_208, by rw [ht]; exact hP9, hD9⟩, hS.F ht⟩) hS.2.2 dX8_fit_211
              · skip
                have d_158 : ¬ n ≤ i_152 := fun h => c_158 ((nI_leI (a := n) (b := i_152) (by omega) (by omega)).mpr h)
                refine lv_iload hx hb dX8_fit_161 (lv_at hl 1 rfl) ?_
                refine lv_iload hx hb dX8_fit_163 (lv_at hl 0 rfl) ?_
                refine lv_ishr hx hb dX8_fit_165 ?_
                refine lv_iconst (v := 1) hx hb dX8_fit_166 (by decide +kernel) ?_
                refine lv_iand hx hb dX8_fit_167 ?_
                refine lv_iconst (v := 1) hx hb dX8_fit_168 (by decide +kernel) ?_
                refine lv_icmp_ne (tgt := 191) hx hb dX8_fit_169 (by decide) (fun c_169 => ?_) (fun c_169 => ?_)
                · skip
                  refine lv_iinc (v := (nI (i_152 + 1))) (lv' := [(6, .int (nI (i_152 + 1))), (5, .int x5_99), (4, .int r_63), (0, .ref mo), (1, .int (nI i)), (2, .int (nI j)), (3, .int p3)]) hx hb dX8_fit_191 hl (k := 0) rfl (nI_1 _) (by decide) rfl (fun ls hl => ?_)
                  refine lv_goto (tgt := 152) hx hb dX8_fit_194 (by decide) ?_
                  exact ih_152 _ (by omega) _ _ _ ⟨(i_152 + 1), by omega, (mz_zfs hz_152 (fun h9 => by rw [mz_t_n (by omega) c_169] at h9; cases h9)), hP, hD, hS, lv_sub hl [0, 1, 2, 3, 4, 5, 6] rfl, rfl⟩
                · skip
                  refine lv_iload_n hx hb dX8_fit_172 rfl (lv_at hl 6 rfl) ?_
                  refine lv_iconst (v := 1) hx hb dX8_fit_173 (by decide +kernel) ?_
                  refine lv_iload hx hb dX8_fit_174 (lv_at hl 0 rfl) ?_
                  refine lv_ishl hx hb dX8_fit_176 ?_
                  refine lv_aload_n hx hb dX8_fit_177 rfl (lv_at hl 3 rfl) ?_
                  refine lv_iload hx hb dX8_fit_178 (lv_at hl 0 rfl) ?_
                  refine lv_iconst (v := 0) hx hb dX8_fit_180 (by decide +kernel) ?_
                  have hPc := hP.sub (ws' := [(mo, .inr (8, [.int (nI n), .ref m1, .ref m2, .ref m3, .long ka, .long kb, .ref m6, .ref m7, .ref m8, .ref m9, .ref m10, .ref m11, .ref m12, .ref m13, .ref m14, .ref m15, .ref m16])), (m2, .inl (cI, 8, .inl fp))]) [0, 2] rfl
                  refine va_calli (va_runV (As := [.int (nI i_152), .int 0]) (rest := [.int (1 <<< ((nI i_152) &&& 31)), .int p3]) ⟨hx, hb, hml, hown, hts⟩ (mz_f_m_belowOf l dC dI cI cJ cZ mo m1 m2 m3 m6 m7 m8 m9 m10 m11 m12 m13 m14 m15 m16 n ka kb fp i_152 H (by first | assumption | omega) (by first | assumption | omega)) (cwV 2 hts gX8_fit_X8_belowOf rfl rfl rfl (by decide +kernel) ⟨Nat.le_of_ble_eq_true rfl, Nat.le_of_ble_eq_true rfl⟩) ⟨fun a U g mk q => mz_blP q, va_recv hK hPc (ci := 8) (q0 := 0) rfl rfl, fun U hU hW => ⟨rfl, hU, hPc, va_K.moved hW.alike hK, mz_nw hW hN⟩⟩ rfl rfl hl.1 rfl (lv_room (Nat.le_of_ble_eq_true rfl)) dX8_fit_181 ⟨Nat.le_of_ble_eq_true rfl, Nat.le_of_ble_eq_true rfl⟩) hS (fun q _ h => h.elim) (fun q h => h.elim) (fun r_181 u t H1 locs ht hvm hw_181 hB hz1 hk1 hS => ?_)
                  have hE : H = H1 := hB.symm.trans ht
                  subst hE
                  refine lv_ior hx hb dX8_fit_184 ?_
                  refine lv_iand hx hb dX8_fit_185 ?_
                  refine lv_if_eq (tgt := 191) hx hb dX8_fit_186 (by decide) (fun c_186 => ?_) (fun c_186 => ?_)
                  · skip
                    refine lv_iinc (v := (nI (i_152 + 1))) (lv' := [(6, .int (nI (i_152 + 1))), (5, .int x5_99), (4, .int r_63), (0, .ref mo), (1, .int (nI i)), (2, .int (nI j)), (3, .int p3)]) hx hb dX8_fit_191 hl (k := 0) rfl (nI_1 _) (by decide) rfl (fun ls hl => ?_)
                    refine lv_goto (tgt := 152) hx hb dX8_fit_194 (by decide) ?_
                    exact ih_152 _ (by omega) _ _ _ ⟨(i_152 + 1), by omega, (mz_zfs hz_152 (fun _ => mz_zf_y hn (by omega) hw_181.1 c_186)), hP, hD, hS, lv_sub hl [0, 1, 2, 3, 4, 5, 6] rfl, rfl⟩
                  · skip
                    refine lv_iconst (v := 0) hx hb dX8_fit_189 (by decide +kernel) ?_
                    have hP9 := hP.sub (ws' := [(mo, .inr (8, [.int (nI n), .ref m1, .ref m2, .ref m3, .long ka, .long kb, .ref m6, .ref m7, .ref m8, .ref m9, .ref m10, .ref m11, .ref m12, .ref m13, .ref m14, .ref m15, .ref m16])), (m1, .inl (cZ, 8, .inl fs)), (m2, .inl (cI, 8, .inl fp)), (m6, .inl (cI, 8, .inl fw)), (m7, .inl (cI, 9, .inl ft))]) [0, 1, 2, 3, 4] rfl
                    have hD9 := hD.sub (ws' := [(mo, .inr (8, [.int (nI n), .ref m1, .ref m2, .ref m3, .long ka, .long kb, .ref m6, .ref m7, .ref m8, .ref m9, .ref m10, .ref m11, .ref m12, .ref m13, .ref m14, .ref m15, .ref m16])), (m1, .inl (cZ, 8, .inl fs)), (m2, .inl (cI, 8, .inl fp)), (m6, .inl (cI, 8, .inl fw)), (m7, .inl (cI, 9, .inl ft))]) [0, 1, 2, 3, 4] (by decide) rfl
                    refine W.widen (k := 0) (n := 0) (Nat.le_of_ble_eq_true rfl) (Nat.le_of_ble_eq_true rfl) ?_
                    exact W.zret (v := 0) hx hb hr (mz_nz (by decide +kernel)) (fun t ht hW => ⟨⟨0, (), rfl, Or.inr ⟨rfl, mz_ft_B0 (t := i_152) hw_63.1 (mz_t_y0 (by omega) c_74) (by have h9 := hr_99; rw [show i_99 = n by omega] at h9; exact h9) (by omega) (mz_t_y (by omega) c_169) (mz_zf_n hn (by omega) hw_181.1 hZ c_186)⟩, fw, ft, by rw [ht]; exact hP9, hD9⟩, hS.F ht⟩) hS.2.2 dX8_fit_190
            · skip
              have d_105 : ¬ n ≤ i_99 := fun h => c_105 ((nI_leI (a := n) (b := i_99) (by omega) (by omega)).mpr h)
              refine lv_iload hx hb dX8_fit_108 (lv_at hl 2 rfl) ?_
              refine lv_iload hx hb dX8_fit_110 (lv_at hl 0 rfl) ?_
              refine lv_ishr hx hb dX8_fit_112 ?_
              refine lv_iconst (v := 1) hx hb dX8_fit_113 (by decide +kernel) ?_
              refine lv_iand hx hb dX8_fit_114 ?_
              refine lv_iconst (v := 1) hx hb dX8_fit_115 (by decide +kernel) ?_
              refine lv_icmp_ne (tgt := 143) hx hb dX8_fit_116 (by decide) (fun c_116 => ?_) (fun c_116 => ?_)
              · skip
                refine lv_iinc (v := (nI (i_99 + 1))) (lv' := [(6, .int (nI (i_99 + 1))), (5, .int x5_99), (4, .int r_63), (0, .ref mo), (1, .int (nI i)), (2, .int (nI j)), (3, .int p3)]) hx hb dX8_fit_143 hl (k := 0) rfl (nI_1 _) (by decide) rfl (fun ls hl => ?_)
                refine lv_goto (tgt := 99) hx hb dX8_fit_146 (by decide) ?_
                exact ih_99 _ (by omega) _ _ _ ⟨(i_99 + 1), x5_99, by omega, (mz_rd_n (S := 0) hj (by omega) hr_99 hw_63.1 (Or.inl (mz_t_n (by omega) c_116))), hP, hD, hS, lv_sub hl [0, 1, 2, 3, 4, 5, 6] rfl, rfl⟩
              · skip
                refine lv_aload_n hx hb dX8_fit_119 rfl (lv_at hl 3 rfl) ?_
                refine lv_iload hx hb dX8_fit_120 (lv_at hl 0 rfl) ?_
                refine lv_iconst (v := 0) hx hb dX8_fit_122 (by decide +kernel) ?_
                have hPc := hP.sub (ws' := [(mo, .inr (8, [.int (nI n), .ref m1, .ref m2, .ref m3, .long ka, .long kb, .ref m6, .ref m7, .ref m8, .ref m9, .ref m10, .ref m11, .ref m12, .ref m13, .ref m14, .ref m15, .ref m16])), (m2, .inl (cI, 8, .inl fp))]) [0, 2] rfl
                refine va_calli (va_runV (As := [.int (nI i_99), .int 0]) (rest := []) ⟨hx, hb, hml, hown, hts⟩ (mz_f_m_belowOf l dC dI cI cJ cZ mo m1 m2 m3 m6 m7 m8 m9 m10 m11 m12 m13 m14 m15 m16 n ka kb fp i_99 H (by first | assumption | omega) (by first | assumption | omega)) (cwV 2 hts gX8_fit_X8_belowOf rfl rfl rfl (by decide +kernel) ⟨Nat.le_of_ble_eq_true rfl, Nat.le_of_ble_eq_true rfl⟩) ⟨fun a U g mk q => mz_blP q, va_recv hK hPc (ci := 8) (q0 := 0) rfl rfl, fun U hU hW => ⟨rfl, hU, hPc, va_K.moved hW.alike hK, mz_nw hW hN⟩⟩ rfl rfl hl.1 rfl (lv_room (Nat.le_of_ble_eq_true rfl)) dX8_fit_123 ⟨Nat.le_of_ble_eq_true rfl, Nat.le_of_ble_eq_true rfl⟩) hS (fun q _ h => h.elim) (fun q h => h.elim) (fun r_123 u t H1 locs ht hvm hw_123 hB hz1 hk1 hS => ?_)
                have hE : H = H1 := hB.symm.trans ht
                subst hE
                refine lv_iload_n hx hb dX8_fit_126 rfl (lv_at hl 5 rfl) ?_
                refine lv_ishr hx hb dX8_fit_127 ?_
                refine lv_iconst (v := 1) hx hb dX8_fit_128 (by decide +kernel) ?_
                refine lv_iand hx hb dX8_fit_129 ?_
                refine lv_iconst (v := 1) hx hb dX8_fit_130 (by decide +kernel) ?_
                refine lv_icmp_ne (tgt := 143) hx hb dX8_fit_131 (by decide) (fun c_131 => ?_) (fun c_131 => ?_)
                · skip
                  refine lv_iinc (v := (nI (i_99 + 1))) (lv' := [(6, .int (nI (i_99 + 1))), (5, .int x5_99), (4, .int r_63), (0, .ref mo), (1, .int (nI i)), (2, .int (nI j)), (3, .int p3)]) hx hb dX8_fit_143 hl (k := 0) rfl (nI_1 _) (by decide) rfl (fun ls hl => ?_)
                  refine lv_goto (tgt := 99) hx hb dX8_fit_146 (by decide) ?_
                  exact ih_99 _ (by omega) _ _ _ ⟨(i_99 + 1), x5_99, by omega, (mz_rd_n hj (by omega) hr_99 hw_63.1 (Or.inr ⟨hw_123.1, mz_t_n (by omega) c_131⟩)), hP, hD, hS, lv_sub hl [0, 1, 2, 3, 4, 5, 6] rfl, rfl⟩
                · skip
                  refine lv_iload hx hb dX8_fit_134 (lv_at hl 1 rfl) ?_
                  refine lv_iconst (v := 1) hx hb dX8_fit_136 (by decide +kernel) ?_
                  refine lv_iload hx hb dX8_fit_137 (lv_at hl 0 rfl) ?_
                  refine lv_ishl hx hb dX8_fit_139 ?_
                  refine lv_ior hx hb dX8_fit_140 ?_
                  refine lv_istore (lv' := [(5, .int (x5_99 ||| (1 <<< ((nI i_99) &&& 31)))), (6, .int (nI i_99)), (4, .int r_63), (0, .ref mo), (1, .int (nI i)), (2, .int (nI j)), (3, .int p3)]) hx hb dX8_fit_141 hl (by decide) rfl (fun ls hl => ?_)
                  refine lv_iinc (v := (nI (i_99 + 1))) (lv' := [(6, .int (nI (i_99 + 1))), (5, .int (x5_99 ||| (1 <<< ((nI i_99) &&& 31)))), (4, .int r_63), (0, .ref mo), (1, .int (nI i)), (2, .int (nI j)), (3, .int p3)]) hx hb dX8_fit_143 hl (k := 1) rfl (nI_1 _) (by decide) rfl (fun ls hl => ?_)
                  refine lv_goto (tgt := 99) hx hb dX8_fit_146 (by decide) ?_
                  exact ih_99 _ (by omega) _ _ _ ⟨(i_99 + 1), (x5_99 ||| (1 <<< ((nI i_99) &&& 31))), by omega, (mz_rd_y hn (by omega) hr_99 hw_63.1 hw_123.1 (mz_t_y (by omega) c_116) (mz_t_y (by omega) c_131)), hP, hD, hS, lv_sub hl [0, 1, 2, 3, 4, 5, 6] rfl, rfl⟩
          · skip
            refine lv_aload_n hx hb dX8_fit_77 rfl (lv_at hl 1 rfl) ?_
            refine lv_iconst (v := 1) hx hb dX8_fit_78 (by decide +kernel) ?_
            refine lv_iload_n hx hb dX8_fit_79 rfl (lv_at hl 2 rfl) ?_
            refine lv_ishl hx hb dX8_fit_80 ?_
            refine lv_iconst (v := 1) hx hb dX8_fit_81 (by decide +kernel) ?_
            refine lv_iload_n hx hb dX8_fit_82 rfl (lv_at hl 3 rfl) ?_
            refine lv_ishl hx hb dX8_fit_83 ?_
            refine lv_iload_n hx hb dX8_fit_84 rfl (lv_at hl 4 rfl) ?_
            refine lv_iconst (v := 0) hx hb dX8_fit_85 (by decide +kernel) ?_
            refine lv_iconst (v := 0) hx hb dX8_fit_86 (by decide +kernel) ?_
            have hPc := hP.sub (ws' := [(mo, .inr (8, [.int (nI n), .ref m1, .ref m2, .ref m3, .long ka, .long kb, .ref m6, .ref m7, .ref m8, .ref m9, .ref m10, .ref m11, .ref m12, .ref m13, .ref m14, .ref m15, .ref m16])), (m2, .inl (cI, 8, .inl fp)), (m6, .inl (cI, 8, .inl fw)), (m7, .inl (cI, 9, .inl ft))]) [0, 2, 3, 4] rfl
            have hDc := hD.sub (ws' := [(mo, .inr (8, [.int (nI n), .ref m1, .ref m2, .ref m3, .long ka, .long kb, .ref m6, .ref m7, .ref m8, .ref m9, .ref m10, .ref m11, .ref m12, .ref m13, .ref m14, .ref m15, .ref m16])), (m2, .inl (cI, 8, .inl fp)), (m6, .inl (cI, 8, .inl fw)), (m7, .inl (cI, 9, .inl ft))]) [0, 2, 3, 4] (by decide) rfl
            have hFc := va_free (wc := [(mo, .inr (8, [.int (nI n), .ref m1, .ref m2, .ref m3, .long ka, .long kb, .ref m6, .ref m7, .ref m8, .ref m9, .ref m10, .ref m11, .ref m12, .ref m13, .ref m14, .ref m15, .ref m16])), (m2, .inl (cI, 8, .inl fp)), (m6, .inl (cI, 8, .inl fw)), (m7, .inl (cI, 9, .inl ft))]) hD hS hA [0, 2, 3, 4] rfl
            refine va_calli (va_runV (As := [.int (1 <<< ((nI i) &&& 31)), .int (1 <<< ((nI j) &&& 31)), .int p3, .int 0, .int 0]) (rest := []) ⟨hx, hb, hml, hown, hts⟩ (mz_s_m_barred l dC dI cI cJ cZ mo m1 m2 m3 m6 m7 m8 m9 m10 m11 m12 m13 m14 m15 m16 n ka kb fp fw ft (1 <<< ((nI i) &&& 31)) (1 <<< ((nI j) &&& 31)) p3 0 0 s.heap.size (by first | assumption | omega) (by rw [mz_pwo_0]; exact hgb) (mz_bi2 (by omega) (by omega) hne)) (cwV 5 hts gX8_fit_X8_barred rfl rfl rfl (by decide +kernel) ⟨Nat.le_of_ble_eq_true rfl, Nat.le_of_ble_eq_true rfl⟩) ⟨fun a U g mk q => mz_blI q, va_recv hK hPc (ci := 8) (q0 := 0) rfl rfl, fun U hU hW => ⟨rfl, by rw [hU], by rw [hU]; exact hPc, va_K.moved hW.alike hK, hDc.weaken (fun _ _ _ _ => trivial), mz_nw hW hN⟩⟩ rfl rfl hl.1 rfl (lv_room (Nat.le_of_ble_eq_true rfl)) dX8_fit_87 ⟨Nat.le_of_ble_eq_true rfl, Nat.le_of_ble_eq_true rfl⟩) hS (fun q _ h => hFc q h) hFc (fun r_87 u t H1 locs ht hvm hw_87 hB hz1 hk1 hS => ?_)
            obtain ⟨gw_87, gt_87, hP1, hD1⟩ := hB
            rw [ht] at hP1
            obtain ⟨hP, hD⟩ := va_join (wr := [(m1, .inl (cZ, 8, .inl fs))]) (w1 := [(mo, .inr (8, [.int (nI n), .ref m1, .ref m2, .ref m3, .long ka, .long kb, .ref m6, .ref m7, .ref m8, .ref m9, .ref m10, .ref m11, .ref m12, .ref m13, .ref m14, .ref m15, .ref m16])), (m2, .inl (cI, 8, .inl fp)), (m6, .inl (cI, 8, .inl gw_87)), (m7, .inl (cI, 9, .inl gt_87))]) hP hD [0, 2, 3, 4] [1] rfl rfl (by decide) (by decide) hk1 hFc hP1 hD1
            generalize H1 = H at hP hS ⊢
            have hP : va_P (dC, dI) vwCl [(m1, .inl (cZ, 8, .inl fs)), (mo, .inr (8, [.int (nI n), .ref m1, .ref m2, .ref m3, .long ka, .long kb, .ref m6, .ref m7, .ref m8, .ref m9, .ref m10, .ref m11, .ref m12, .ref m13, .ref m14, .ref m15, .ref m16])), (m2, .inl (cI, 8, .inl fp)), (m6, .inl (cI, 8, .inl gw_87)), (m7, .inl (cI, 9, .inl gt_87))] H := hP
            have hD : va_D A [(m1, .inl (cZ, 8, .inl fs)), (mo, .inr (8, [.int (nI n), .ref m1, .ref m2, .ref m3, .long ka, .long kb, .ref m6, .ref m7, .ref m8, .ref m9, .ref m10, .ref m11, .ref m12, .ref m13, .ref m14, .ref m15, .ref m16])), (m2, .inl (cI, 8, .inl fp)), (m6, .inl (cI, 8, .inl gw_87)), (m7, .inl (cI, 9, .inl gt_87))] := hD
            rcases (show (r_87 = 1 ∧ ¬ (∃ ia ka, ia < n ∧ ka < n ∧ mz_t (1 <<< ((nI i) &&& 31)) ia = true ∧ mz_t (1 <<< ((nI j) &&& 31)) ka = true ∧ mz_pth n (mz_pwo fp 0 0) p3 (mz_Mm n (mz_pwo fp 0 0) p3) ia ka)) ∨ (r_87 = 0 ∧ ∃ ia ka, ia < n ∧ ka < n ∧ mz_t (1 <<< ((nI i) &&& 31)) ia = true ∧ mz_t (1 <<< ((nI j) &&& 31)) ka = true ∧ mz_pth n (mz_pwo fp 0 0) p3 (mz_Mm n (mz_pwo fp 0 0) p3) ia ka) from hw_87) with ⟨rfl, hc_87⟩ | ⟨rfl, hc_87⟩
            · skip
              have hP9 := hP.sub (ws' := [(mo, .inr (8, [.int (nI n), .ref m1, .ref m2, .ref m3, .long ka, .long kb, .ref m6, .ref m7, .ref m8, .ref m9, .ref m10, .ref m11, .ref m12, .ref m13, .ref m14, .ref m15, .ref m16])), (m1, .inl (cZ, 8, .inl fs)), (m2, .inl (cI, 8, .inl fp)), (m6, .inl (cI, 8, .inl gw_87)), (m7, .inl (cI, 9, .inl gt_87))]) [1, 0, 2, 3, 4] rfl
              have hD9 := hD.sub (ws' := [(mo, .inr (8, [.int (nI n), .ref m1, .ref m2, .ref m3, .long ka, .long kb, .ref m6, .ref m7, .ref m8, .ref m9, .ref m10, .ref m11, .ref m12, .ref m13, .ref m14, .ref m15, .ref m16])), (m1, .inl (cZ, 8, .inl fs)), (m2, .inl (cI, 8, .inl fp)), (m6, .inl (cI, 8, .inl gw_87)), (m7, .inl (cI, 9, .inl gt_87))]) [1, 0, 2, 3, 4] (by decide) rfl
              refine W.widen (k := 0) (n := 0) (Nat.le_of_ble_eq_true rfl) (Nat.le_of_ble_eq_true rfl) ?_
              exact W.zret (v := 1) hx hb hr (mz_nz (by decide +kernel)) (fun t ht hW => ⟨⟨1, (), rfl, Or.inl ⟨rfl, (mz_ft_A hj hw_63.1 (mz_t_n0 (by omega) c_74)).mpr (by have h9 := hc_87; rw [mz_pwo_0] at h9; exact fun q9 => h9 ((mz_yea hn hi hj).mpr q9))⟩, gw_87, gt_87, by rw [ht]; exact hP9, hD9⟩, hS.F ht⟩) hS.2.2 dX8_fit_90
            · skip
              have hP9 := hP.sub (ws' := [(mo, .inr (8, [.int (nI n), .ref m1, .ref m2, .ref m3, .long ka, .long kb, .ref m6, .ref m7, .ref m8, .ref m9, .ref m10, .ref m11, .ref m12, .ref m13, .ref m14, .ref m15, .ref m16])), (m1, .inl (cZ, 8, .inl fs)), (m2, .inl (cI, 8, .inl fp)), (m6, .inl (cI, 8, .inl gw_87)), (m7, .inl (cI, 9, .inl gt_87))]) [1, 0, 2, 3, 4] rfl
              have hD9 := hD.sub (ws' := [(mo, .inr (8, [.int (nI n), .ref m1, .ref m2, .ref m3, .long ka, .long kb, .ref m6, .ref m7, .ref m8, .ref m9, .ref m10, .ref m11, .ref m12, .ref m13, .ref m14, .ref m15, .ref m16])), (m1, .inl (cZ, 8, .inl fs)), (m2, .inl (cI, 8, .inl fp)), (m6, .inl (cI, 8, .inl gw_87)), (m7, .inl (cI, 9, .inl gt_87))]) [1, 0, 2, 3, 4] (by decide) rfl
              refine W.widen (k := 0) (n := 0) (Nat.le_of_ble_eq_true rfl) (Nat.le_of_ble_eq_true rfl) ?_
              exact W.zret (v := 0) hx hb hr (mz_nz (by decide +kernel)) (fun t ht hW => ⟨⟨0, (), rfl, Or.inr ⟨rfl, fun q9 => (mz_ft_A hj hw_63.1 (mz_t_n0 (by omega) c_74)).mp q9 (by have h9 := hc_87; rw [mz_pwo_0] at h9; exact (mz_yea hn hi hj).mp h9)⟩, gw_87, gt_87, by rw [ht]; exact hP9, hD9⟩, hS.F ht⟩) hS.2.2 dX8_fit_90
        · skip
          first | exact absurd hZ hc_23 | exact absurd hzs c_37 | (have h9 := mz_t_y (j := i) (by omega) c_46; rw [hzi] at h9; cases h9) | (have h9 := mz_t_y (j := j) (by omega) c_55; rw [hzj] at h9; cases h9)
  · skip
    refine lv_if_eq (tgt := 58) hx hb dX8_fit_26 (by decide) (fun _ => ?_) (fun c_26 => absurd (by decide +kernel) c_26)
    first | exact absurd hZ hc_23 | exact absurd hzs c_37 | (have h9 := mz_t_y (j := i) (by omega) c_46; rw [hzi] at h9; cases h9) | (have h9 := mz_t_y (j := j) (by omega) c_55; rw [hzj] at h9; cases h9)
set_option maxHeartbeats 1000000 in
set_option maxRecDepth 100000 in
theorem mz_u_m_fit_out (l : Launch) (dC : Nat → ClassId) (dI : Nat → Nat → Nat) (cI cJ cZ : ClassId) (mo : Nat) (m1 : Nat) (m2 : Nat) (m3 : Nat) (m6 : Nat) (m7 : Nat) (m8 : Nat) (m9 : Nat) (m10 : Nat) (m11 : Nat) (m12 : Nat) (m13 : Nat) (m14 : Nat) (m15 : Nat) (m16 : Nat) (n : Nat) (ka : Int64) (kb : Int64) (fs : Nat → Int32) (p1 : Int32) (p2 : Int32) (p3 : Int32) (sh : Int32) (Hq : Heap) (hn : n ≤ 8) (hsn : mz_sn n sh fs) (hNF : ¬ ∃ i j : Nat, i < n ∧ j < n ∧ (¬ i = j) ∧ p1 = nI i ∧ p2 = nI j ∧ mz_hp n p3 ∧ p3 &&& (sh ^^^ (-1)) = 0 ∧ mz_t p3 i = false ∧ mz_t p3 j = false) : Met l yX8_fit wsX8_fit ({ frames := 1, cells := 0, slots := 0, locals := 22 }) (va_Pc [.ref mo, .int p1, .int p2, .int p3] (fun U => U.heap = Hq ∧ va_P (dC, dI) vwCl [(mo, .inr (8, [.int (nI n), .ref m1, .ref m2, .ref m3, .long ka, .long kb, .ref m6, .ref m7, .ref m8, .ref m9, .ref m10, .ref m11, .ref m12, .ref m13, .ref m14, .ref m15, .ref m16])), (m1, .inl (cZ, 8, .inl fs))] Hq ∧ va_K (dC, dI) vwCl [(cI, FieldType.int), (cJ, FieldType.long), (cZ, FieldType.boolean)] U ∧ mz_N U)) (va_Qi (fun (r : Int32) (_ : Unit) => r = 0) (fun _ t => t.heap = Hq) (fun _ : Nat => False)) 0 0 (fun _ : Nat => False) := by
  refine Met.ofW (cc := cX8_fit) (maxL := 7) (ret := (some .boolean)) (by decide) rfl ?_
  intro p e s m args below meth c s₁ B hml hv
  obtain ⟨rfl, hH, hP, hK, hN⟩ := hv
  subst hH
  have hx := B.exec
  have hb := B.bytes
  have hr := B.returns
  have hts := atoms_spec (ws := wsX8_fit) B.pre
  have hown : s.vm.findClass RX8 = some m.cls := findClass_of_methodNamed B.named
  have hlocks := B.notSynchronized
  have hS : va_S (fun _ : Nat => False) s.heap s.heap [] := va_S.rf
  have hl := lv_entry ([.ref mo, .int p1, .int p2, .int p3]) (n := 7) (Nat.le_of_ble_eq_true rfl)
  rw [lg_entry_eq]
  generalize (lg_sl ([.ref mo, .int p1, .int p2, .int p3]) ++ List.replicate (7 - (lg_sl ([.ref mo, .int p1, .int p2, .int p3])).length) Slot.unset).toArray = ls at hl ⊢
  have hl : lv_has ls 7 [(0, .ref mo), (1, .int p1), (2, .int p2), (3, .int p3)] := hl
  refine lv_aload_n hx hb dX8_fit_0 rfl (lv_at hl 0 rfl) ?_
  refine lv_iload_n hx hb dX8_fit_1 rfl (lv_at hl 1 rfl) ?_
  have hPc := hP.sub (ws' := [(mo, .inr (8, [.int (nI n), .ref m1, .ref m2, .ref m3, .long ka, .long kb, .ref m6, .ref m7, .ref m8, .ref m9, .ref m10, .ref m11, .ref m12, .ref m13, .ref m14, .ref m15, .ref m16]))]) [0] rfl
  refine va_calli (va_runV (As := [.int p1]) (rest := []) ⟨hx, hb, hml, hown, hts⟩ (mz_m_isThing l dC dI cI cJ cZ mo m1 m2 m3 m6 m7 m8 m9 m10 m11 m12 m13 m14 m15 m16 n ka kb p1 s.heap (by first | assumption | omega)) (cwV 1 hts gX8_fit_X8_isThing rfl rfl rfl (by decide +kernel) ⟨Nat.le_of_ble_eq_true rfl, Nat.le_of_ble_eq_true rfl⟩) ⟨fun a U g mk q => mz_blP q, va_recv hK hPc (ci := 8) (q0 := 0) rfl rfl, fun U hU hW => ⟨rfl, hU, hPc, va_K.moved hW.alike hK, mz_nw hW hN⟩⟩ rfl rfl hl.1 rfl (lv_room (Nat.le_of_ble_eq_true rfl)) dX8_fit_2 ⟨Nat.le_of_ble_eq_true rfl, Nat.le_of_ble_eq_true rfl⟩) hS (fun q _ h => h.elim) (fun q h => h.elim) (fun r_2 u t H1 locs ht hvm hw_2 hB hz1 hk1 hS => ?_)
  have hE : s.heap = H1 := hB.symm.trans ht
  subst hE
  rcases (show (r_2 = 1 ∧ ∃ j : Nat, j < n ∧ p1 = nI j) ∨ r_2 = 0 from hw_2) with ⟨rfl, j_2, hj_2, he_2⟩ | rfl
  · skip
    subst he_2
    refine lv_if_eq (tgt := 58) hx hb dX8_fit_5 (by decide) (fun c_5 => absurd c_5 (by decide +kernel)) (fun _ => ?_)
    refine lv_aload_n hx hb dX8_fit_8 rfl (lv_at hl 0 rfl) ?_
    refine lv_iload_n hx hb dX8_fit_9 rfl (lv_at hl 2 rfl) ?_
    have hPc := hP.sub (ws' := [(mo, .inr (8, [.int (nI n), .ref m1, .ref m2, .ref m3, .long ka, .long kb, .ref m6, .ref m7, .ref m8, .ref m9, .ref m10, .ref m11, .ref m12, .ref m13, .ref m14, .ref m15, .ref m16]))]) [0] rfl
    refine va_calli (va_runV (As := [.int p2]) (rest := []) ⟨hx, hb, hml, hown, hts⟩ (mz_m_isThing l dC dI cI cJ cZ mo m1 m2 m3 m6 m7 m8 m9 m10 m11 m12 m13 m14 m15 m16 n ka kb p2 s.heap (by first | assumption | omega)) (cwV 1 hts gX8_fit_X8_isThing rfl rfl rfl (by decide +kernel) ⟨Nat.le_of_ble_eq_true rfl, Nat.le_of_ble_eq_true rfl⟩) ⟨fun a U g mk q => mz_blP q, va_recv hK hPc (ci := 8) (q0 := 0) rfl rfl, fun U hU hW => ⟨rfl, hU, hPc, va_K.moved hW.alike hK, mz_nw hW hN⟩⟩ rfl rfl hl.1 rfl (lv_room (Nat.le_of_ble_eq_true rfl)) dX8_fit_10 ⟨Nat.le_of_ble_eq_true rfl, Nat.le_of_ble_eq_true rfl⟩) hS (fun q _ h => h.elim) (fun q h => h.elim) (fun r_10 u t H1 locs ht hvm hw_10 hB hz1 hk1 hS => ?_)
    have hE : s.heap = H1 := hB.symm.trans ht
    subst hE
    rcases (show (r_10 = 1 ∧ ∃ j : Nat, j < n ∧ p2 = nI j) ∨ r_10 = 0 from hw_10) with ⟨rfl, j_10, hj_10, he_10⟩ | rfl
    · skip
      subst he_10
      refine lv_if_eq (tgt := 58) hx hb dX8_fit_13 (by decide) (fun c_13 => absurd c_13 (by decide +kernel)) (fun _ => ?_)
      refine lv_iload_n hx hb dX8_fit_16 rfl (lv_at hl 1 rfl) ?_
      refine lv_iload_n hx hb dX8_fit_17 rfl (lv_at hl 2 rfl) ?_
      refine lv_icmp_eq (tgt := 58) hx hb dX8_fit_18 (by decide) (fun c_18 => ?_) (fun c_18 => ?_)
      · skip
        have d_18 : j_2 = j_10 := (nI_eq (a := j_2) (b := j_10) (by omega) (by omega)).mp c_18
        refine lv_iconst (v := 0) hx hb dX8_fit_58 (by decide +kernel) ?_
        refine W.widen (k := 0) (n := 0) (Nat.le_of_ble_eq_true rfl) (Nat.le_of_ble_eq_true rfl) ?_
        exact W.zret (v := 0) hx hb hr (mz_nz (by decide +kernel)) (fun t ht hW => ⟨⟨0, (), rfl, rfl, ht⟩, hS.F ht⟩) hS.2.2 dX8_fit_59
      · skip
        have d_18 : ¬ j_2 = j_10 := fun h => c_18 ((nI_eq (a := j_2) (b := j_10) (by omega) (by omega)).mpr h)
        refine lv_aload_n hx hb dX8_fit_21 rfl (lv_at hl 0 rfl) ?_
        refine lv_iload_n hx hb dX8_fit_22 rfl (lv_at hl 3 rfl) ?_
        have hPc := hP.sub (ws' := [(mo, .inr (8, [.int (nI n), .ref m1, .ref m2, .ref m3, .long ka, .long kb, .ref m6, .ref m7, .ref m8, .ref m9, .ref m10, .ref m11, .ref m12, .ref m13, .ref m14, .ref m15, .ref m16]))]) [0] rfl
        refine va_calli (va_runV (As := [.int p3]) (rest := []) ⟨hx, hb, hml, hown, hts⟩ (mz_h_m_isHeap l dC dI cI cJ cZ mo m1 m2 m3 m6 m7 m8 m9 m10 m11 m12 m13 m14 m15 m16 n ka kb p3 s.heap (by first | assumption | omega)) (cwV 1 hts gX8_fit_X8_isHeap rfl rfl rfl (by decide +kernel) ⟨Nat.le_of_ble_eq_true rfl, Nat.le_of_ble_eq_true rfl⟩) ⟨fun a U g mk q => mz_blP q, va_recv hK hPc (ci := 8) (q0 := 0) rfl rfl, fun U hU hW => ⟨rfl, hU, hPc, va_K.moved hW.alike hK, mz_nw hW hN⟩⟩ rfl rfl hl.1 rfl (lv_room (Nat.le_of_ble_eq_true rfl)) dX8_fit_23 ⟨Nat.le_of_ble_eq_true rfl, Nat.le_of_ble_eq_true rfl⟩) hS (fun q _ h => h.elim) (fun q h => h.elim) (fun r_23 u t H1 locs ht hvm hw_23 hB hz1 hk1 hS => ?_)
        have hE : s.heap = H1 := hB.symm.trans ht
        subst hE
        rcases (show (r_23 = 1 ∧ mz_hp n p3) ∨ (r_23 = 0 ∧ ¬ mz_hp n p3) from hw_23) with ⟨rfl, hc_23⟩ | ⟨rfl, hc_23⟩
        · skip
          refine lv_if_eq (tgt := 58) hx hb dX8_fit_26 (by decide) (fun c_26 => absurd c_26 (by decide +kernel)) (fun _ => ?_)
          refine lv_iload_n hx hb dX8_fit_29 rfl (lv_at hl 3 rfl) ?_
          refine lv_aload_n hx hb dX8_fit_30 rfl (lv_at hl 0 rfl) ?_
          have hPc := hP.sub (ws' := [(mo, .inr (8, [.int (nI n), .ref m1, .ref m2, .ref m3, .long ka, .long kb, .ref m6, .ref m7, .ref m8, .ref m9, .ref m10, .ref m11, .ref m12, .ref m13, .ref m14, .ref m15, .ref m16])), (m1, .inl (cZ, 8, .inl fs))]) [0, 1] rfl
          refine va_calli (va_runV (As := []) (rest := [.int p3]) ⟨hx, hb, hml, hown, hts⟩ (mz_f_m_seen l dC dI cI cJ cZ mo m1 m2 m3 m6 m7 m8 m9 m10 m11 m12 m13 m14 m15 m16 n ka kb fs s.heap (by first | assumption | omega)) (cwV 0 hts gX8_fit_X8_seen rfl rfl rfl (by decide +kernel) ⟨Nat.le_of_ble_eq_true rfl, Nat.le_of_ble_eq_true rfl⟩) ⟨fun a U g mk q => mz_blP q, va_recv hK hPc (ci := 8) (q0 := 0) rfl rfl, fun U hU hW => ⟨rfl, hU, hPc, va_K.moved hW.alike hK, mz_nw hW hN⟩⟩ rfl rfl hl.1 rfl (lv_room (Nat.le_of_ble_eq_true rfl)) dX8_fit_31 ⟨Nat.le_of_ble_eq_true rfl, Nat.le_of_ble_eq_true rfl⟩) hS (fun q _ h => h.elim) (fun q h => h.elim) (fun r_31 u t H1 locs ht hvm hw_31 hB hz1 hk1 hS => ?_)
          have hE : s.heap = H1 := hB.symm.trans ht
          subst hE
          refine mz_ti (y := sh) (mz_sn_one hw_31 hsn) ?_
          refine lv_iconst (v := (-1)) hx hb dX8_fit_34 (by decide +kernel) ?_
          refine lv_ixor hx hb dX8_fit_35 ?_
          refine lv_iand hx hb dX8_fit_36 ?_
          refine lv_if_ne (tgt := 58) hx hb dX8_fit_37 (by decide) (fun c_37 => ?_) (fun c_37 => ?_)
          · skip
            refine lv_iconst (v := 0) hx hb dX8_fit_58 (by decide +kernel) ?_
            refine W.widen (k := 0) (n := 0) (Nat.le_of_ble_eq_true rfl) (Nat.le_of_ble_eq_true rfl) ?_
            exact W.zret (v := 0) hx hb hr (mz_nz (by decide +kernel)) (fun t ht hW => ⟨⟨0, (), rfl, rfl, ht⟩, hS.F ht⟩) hS.2.2 dX8_fit_59
          · skip
            refine lv_iload_n hx hb dX8_fit_40 rfl (lv_at hl 3 rfl) ?_
            refine lv_iload_n hx hb dX8_fit_41 rfl (lv_at hl 1 rfl) ?_
            refine lv_ishr hx hb dX8_fit_42 ?_
            refine lv_iconst (v := 1) hx hb dX8_fit_43 (by decide +kernel) ?_
            refine lv_iand hx hb dX8_fit_44 ?_
            refine lv_iconst (v := 1) hx hb dX8_fit_45 (by decide +kernel) ?_
            refine lv_icmp_eq (tgt := 58) hx hb dX8_fit_46 (by decide) (fun c_46 => ?_) (fun c_46 => ?_)
            · skip
              refine lv_iconst (v := 0) hx hb dX8_fit_58 (by decide +kernel) ?_
              refine W.widen (k := 0) (n := 0) (Nat.le_of_ble_eq_true rfl) (Nat.le_of_ble_eq_true rfl) ?_
              exact W.zret (v := 0) hx hb hr (mz_nz (by decide +kernel)) (fun t ht hW => ⟨⟨0, (), rfl, rfl, ht⟩, hS.F ht⟩) hS.2.2 dX8_fit_59
            · skip
              refine lv_iload_n hx hb dX8_fit_49 rfl (lv_at hl 3 rfl) ?_
              refine lv_iload_n hx hb dX8_fit_50 rfl (lv_at hl 2 rfl) ?_
              refine lv_ishr hx hb dX8_fit_51 ?_
              refine lv_iconst (v := 1) hx hb dX8_fit_52 (by decide +kernel) ?_
              refine lv_iand hx hb dX8_fit_53 ?_
              refine lv_iconst (v := 1) hx hb dX8_fit_54 (by decide +kernel) ?_
              refine lv_icmp_ne (tgt := 60) hx hb dX8_fit_55 (by decide) (fun c_55 => ?_) (fun c_55 => ?_)
              · skip
                exact absurd ⟨j_2, j_10, hj_2, hj_10, d_18, rfl, rfl, hc_23, c_37, mz_t_n (by omega) c_46, mz_t_n (by omega) c_55⟩ hNF
              · skip
                refine lv_iconst (v := 0) hx hb dX8_fit_58 (by decide +kernel) ?_
                refine W.widen (k := 0) (n := 0) (Nat.le_of_ble_eq_true rfl) (Nat.le_of_ble_eq_true rfl) ?_
                exact W.zret (v := 0) hx hb hr (mz_nz (by decide +kernel)) (fun t ht hW => ⟨⟨0, (), rfl, rfl, ht⟩, hS.F ht⟩) hS.2.2 dX8_fit_59
        · skip
          refine lv_if_eq (tgt := 58) hx hb dX8_fit_26 (by decide) (fun _ => ?_) (fun c_26 => absurd (by decide +kernel) c_26)
          refine lv_iconst (v := 0) hx hb dX8_fit_58 (by decide +kernel) ?_
          refine W.widen (k := 0) (n := 0) (Nat.le_of_ble_eq_true rfl) (Nat.le_of_ble_eq_true rfl) ?_
          exact W.zret (v := 0) hx hb hr (mz_nz (by decide +kernel)) (fun t ht hW => ⟨⟨0, (), rfl, rfl, ht⟩, hS.F ht⟩) hS.2.2 dX8_fit_59
    · skip
      refine lv_if_eq (tgt := 58) hx hb dX8_fit_13 (by decide) (fun _ => ?_) (fun c_13 => absurd (by decide +kernel) c_13)
      refine lv_iconst (v := 0) hx hb dX8_fit_58 (by decide +kernel) ?_
      refine W.widen (k := 0) (n := 0) (Nat.le_of_ble_eq_true rfl) (Nat.le_of_ble_eq_true rfl) ?_
      exact W.zret (v := 0) hx hb hr (mz_nz (by decide +kernel)) (fun t ht hW => ⟨⟨0, (), rfl, rfl, ht⟩, hS.F ht⟩) hS.2.2 dX8_fit_59
  · skip
    refine lv_if_eq (tgt := 58) hx hb dX8_fit_5 (by decide) (fun _ => ?_) (fun c_5 => absurd (by decide +kernel) c_5)
    refine lv_iconst (v := 0) hx hb dX8_fit_58 (by decide +kernel) ?_
    refine W.widen (k := 0) (n := 0) (Nat.le_of_ble_eq_true rfl) (Nat.le_of_ble_eq_true rfl) ?_
    exact W.zret (v := 0) hx hb hr (mz_nz (by decide +kernel)) (fun t ht hW => ⟨⟨0, (), rfl, rfl, ht⟩, hS.F ht⟩) hS.2.2 dX8_fit_59
