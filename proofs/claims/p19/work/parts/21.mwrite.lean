/-! the reference: what changes the drawing, and draw -/
set_option maxHeartbeats 1000000 in
set_option maxRecDepth 100000 in
theorem mz_m_thing_full (l : Launch) (dC : Nat → ClassId) (dI : Nat → Nat → Nat) (cI cJ cZ : ClassId) (mo : Nat) (m1 : Nat) (m2 : Nat) (m3 : Nat) (m6 : Nat) (m7 : Nat) (m8 : Nat) (m9 : Nat) (m10 : Nat) (m11 : Nat) (m12 : Nat) (m13 : Nat) (m14 : Nat) (m15 : Nat) (m16 : Nat) (ka : Int64) (kb : Int64) (p1 : Int32) (sz : Nat)  : Met l yX8_thing wsX8_thing ({ frames := 0, cells := 0, slots := 0, locals := 0 }) (va_Pc [.ref mo, .int p1] (fun U => U.heap.size = sz ∧ va_P (dC, dI) vwCl [(mo, .inr (8, [.int 8, .ref m1, .ref m2, .ref m3, .long ka, .long kb, .ref m6, .ref m7, .ref m8, .ref m9, .ref m10, .ref m11, .ref m12, .ref m13, .ref m14, .ref m15, .ref m16]))] U.heap ∧ va_K (dC, dI) vwCl [(cI, FieldType.int), (cJ, FieldType.long), (cZ, FieldType.boolean)] U ∧ va_D (fun _ => True) [(mo, .inr (8, [.int 8, .ref m1, .ref m2, .ref m3, .long ka, .long kb, .ref m6, .ref m7, .ref m8, .ref m9, .ref m10, .ref m11, .ref m12, .ref m13, .ref m14, .ref m15, .ref m16]))] ∧ mz_N U)) (va_Qi (fun (r : Int32) (_ : Unit) => r = (-1)) (fun _ t => va_P (dC, dI) vwCl [(mo, .inr (8, [.int 8, .ref m1, .ref m2, .ref m3, .long ka, .long kb, .ref m6, .ref m7, .ref m8, .ref m9, .ref m10, .ref m11, .ref m12, .ref m13, .ref m14, .ref m15, .ref m16]))] t.heap ∧ va_D (va_A [(mo, .inr (8, [.int 8, .ref m1, .ref m2, .ref m3, .long ka, .long kb, .ref m6, .ref m7, .ref m8, .ref m9, .ref m10, .ref m11, .ref m12, .ref m13, .ref m14, .ref m15, .ref m16]))] sz) [(mo, .inr (8, [.int 8, .ref m1, .ref m2, .ref m3, .long ka, .long kb, .ref m6, .ref m7, .ref m8, .ref m9, .ref m10, .ref m11, .ref m12, .ref m13, .ref m14, .ref m15, .ref m16]))]) (va_A [(mo, .inr (8, [.int 8, .ref m1, .ref m2, .ref m3, .long ka, .long kb, .ref m6, .ref m7, .ref m8, .ref m9, .ref m10, .ref m11, .ref m12, .ref m13, .ref m14, .ref m15, .ref m16]))] sz)) 0 0 (va_A [(mo, .inr (8, [.int 8, .ref m1, .ref m2, .ref m3, .long ka, .long kb, .ref m6, .ref m7, .ref m8, .ref m9, .ref m10, .ref m11, .ref m12, .ref m13, .ref m14, .ref m15, .ref m16]))] sz) := by
  refine Met.ofW (cc := cX8_thing) (maxL := 2) (ret := (some .int)) (by decide) rfl ?_
  intro p e s m args below meth c s₁ B hml hv
  obtain ⟨rfl, hsz, hP, hK, hD0, hN⟩ := hv
  subst hsz
  have hx := B.exec
  have hb := B.bytes
  have hr := B.returns
  have hts := atoms_spec (ws := wsX8_thing) B.pre
  have hown : s.vm.findClass RX8 = some m.cls := findClass_of_methodNamed B.named
  have hlocks := B.notSynchronized
  have hD := hD0.self (sz := s.heap.size)
  generalize hAe : va_A [(mo, .inr (8, [.int 8, .ref m1, .ref m2, .ref m3, .long ka, .long kb, .ref m6, .ref m7, .ref m8, .ref m9, .ref m10, .ref m11, .ref m12, .ref m13, .ref m14, .ref m15, .ref m16]))] s.heap.size = A at hD ⊢
  have hA : ∀ q : Nat, s.heap.size ≤ q → A q := fun q h => by rw [← hAe]; exact Or.inr h
  have hS : va_S A s.heap s.heap [] := va_S.rf
  have hiX8 : ∀ w ∈ u_ws RX8 TX8 17, w ∈ wsX8_thing := by decide +kernel
  have hl := lv_entry ([.ref mo, .int p1]) (n := 2) (Nat.le_of_ble_eq_true rfl)
  rw [lg_entry_eq]
  generalize (lg_sl ([.ref mo, .int p1]) ++ List.replicate (2 - (lg_sl ([.ref mo, .int p1])).length) Slot.unset).toArray = ls at hl ⊢
  have hl : lv_has ls 2 [(0, .ref mo), (1, .int p1)] := hl
  refine lv_aload_n hx hb dX8_thing_0 rfl (lv_at hl 0 rfl) ?_
  refine va_get (D := (dC, dI)) (ci := 8) (v := .int 8) (C := RX8) (T := TX8) (N := 17) hx hb hts hiX8 hown hK hP 0 rfl rfl 0 (by decide) (hts (.fieldLink RX8 58 "MadeItSoModel" "many" "I") (by decide +kernel)) (fun _ h9 => h9) rfl dX8_thing_1 ?_
  refine lv_bipush (v := 8) hx hb dX8_thing_4 (by decide +kernel) ?_
  refine lv_icmp_ne (tgt := 11) hx hb dX8_thing_6 (by decide) (fun c_6 => absurd (by decide +kernel) c_6) (fun _ => ?_)
  refine lv_iconst (v := (-1)) hx hb dX8_thing_9 (by decide +kernel) ?_
  have hP9 := hP.sub (ws' := [(mo, .inr (8, [.int 8, .ref m1, .ref m2, .ref m3, .long ka, .long kb, .ref m6, .ref m7, .ref m8, .ref m9, .ref m10, .ref m11, .ref m12, .ref m13, .ref m14, .ref m15, .ref m16]))]) [0] rfl
  have hD9 := hD.sub (ws' := [(mo, .inr (8, [.int 8, .ref m1, .ref m2, .ref m3, .long ka, .long kb, .ref m6, .ref m7, .ref m8, .ref m9, .ref m10, .ref m11, .ref m12, .ref m13, .ref m14, .ref m15, .ref m16]))]) [0] (by decide) rfl
  refine W.widen (k := 0) (n := 0) (Nat.le_of_ble_eq_true rfl) (Nat.le_of_ble_eq_true rfl) ?_
  exact W.iret (v := (-1)) hx hb hr (fun t ht hW => ⟨⟨(-1), (), rfl, rfl, by rw [ht]; exact hP9, hD9⟩, hS.F ht⟩) hS.2.2 dX8_thing_10
set_option maxHeartbeats 1000000 in
set_option maxRecDepth 100000 in
theorem mz_m_thing_more (l : Launch) (dC : Nat → ClassId) (dI : Nat → Nat → Nat) (cI cJ cZ : ClassId) (mo : Nat) (m1 : Nat) (m2 : Nat) (m3 : Nat) (m6 : Nat) (m7 : Nat) (m8 : Nat) (m9 : Nat) (m10 : Nat) (m11 : Nat) (m12 : Nat) (m13 : Nat) (m14 : Nat) (m15 : Nat) (m16 : Nat) (n : Nat) (ka : Int64) (kb : Int64) (fs : Nat → Int32) (fp : Nat → Int32) (fb : Nat → Int32) (p1 : Int32) (sz : Nat) (hn8 : n < 8) (ha : mz_acy n fp) : Met l yX8_thing wsX8_thing ({ frames := 1, cells := 0, slots := 0, locals := 22 }) (va_Pc [.ref mo, .int p1] (fun U => U.heap.size = sz ∧ va_P (dC, dI) vwCl [(mo, .inr (8, [.int (nI n), .ref m1, .ref m2, .ref m3, .long ka, .long kb, .ref m6, .ref m7, .ref m8, .ref m9, .ref m10, .ref m11, .ref m12, .ref m13, .ref m14, .ref m15, .ref m16])), (m1, .inl (cZ, 8, .inl fs)), (m2, .inl (cI, 8, .inl fp)), (m3, .inl (cI, 1024, .inl fb))] U.heap ∧ va_K (dC, dI) vwCl [(cI, FieldType.int), (cJ, FieldType.long), (cZ, FieldType.boolean)] U ∧ va_D (fun _ => True) [(mo, .inr (8, [.int (nI n), .ref m1, .ref m2, .ref m3, .long ka, .long kb, .ref m6, .ref m7, .ref m8, .ref m9, .ref m10, .ref m11, .ref m12, .ref m13, .ref m14, .ref m15, .ref m16])), (m1, .inl (cZ, 8, .inl fs)), (m2, .inl (cI, 8, .inl fp)), (m3, .inl (cI, 1024, .inl fb))] ∧ mz_N U)) (va_Qi (fun (r : Int32) (_ : Unit) => r = (nI n)) (fun _ t => ∃ (gs : Nat → Int32), ∃ (gp : Nat → Int32), ∃ (gb : Nat → Int32), (mz_acy (n + 1) gp) ∧ va_P (dC, dI) vwCl [(mo, .inr (8, [.int (nI ((n + 1))), .ref m1, .ref m2, .ref m3, .long ka, .long kb, .ref m6, .ref m7, .ref m8, .ref m9, .ref m10, .ref m11, .ref m12, .ref m13, .ref m14, .ref m15, .ref m16])), (m1, .inl (cZ, 8, .inl gs)), (m2, .inl (cI, 8, .inl gp)), (m3, .inl (cI, 1024, .inl gb))] t.heap ∧ va_D (va_A [(mo, .inr (8, [.int (nI n), .ref m1, .ref m2, .ref m3, .long ka, .long kb, .ref m6, .ref m7, .ref m8, .ref m9, .ref m10, .ref m11, .ref m12, .ref m13, .ref m14, .ref m15, .ref m16])), (m1, .inl (cZ, 8, .inl fs)), (m2, .inl (cI, 8, .inl fp)), (m3, .inl (cI, 1024, .inl fb))] sz) [(mo, .inr (8, [.int (nI ((n + 1))), .ref m1, .ref m2, .ref m3, .long ka, .long kb, .ref m6, .ref m7, .ref m8, .ref m9, .ref m10, .ref m11, .ref m12, .ref m13, .ref m14, .ref m15, .ref m16])), (m1, .inl (cZ, 8, .inl gs)), (m2, .inl (cI, 8, .inl gp)), (m3, .inl (cI, 1024, .inl gb))]) (va_A [(mo, .inr (8, [.int (nI n), .ref m1, .ref m2, .ref m3, .long ka, .long kb, .ref m6, .ref m7, .ref m8, .ref m9, .ref m10, .ref m11, .ref m12, .ref m13, .ref m14, .ref m15, .ref m16])), (m1, .inl (cZ, 8, .inl fs)), (m2, .inl (cI, 8, .inl fp)), (m3, .inl (cI, 1024, .inl fb))] sz)) 0 0 (va_A [(mo, .inr (8, [.int (nI n), .ref m1, .ref m2, .ref m3, .long ka, .long kb, .ref m6, .ref m7, .ref m8, .ref m9, .ref m10, .ref m11, .ref m12, .ref m13, .ref m14, .ref m15, .ref m16])), (m1, .inl (cZ, 8, .inl fs)), (m2, .inl (cI, 8, .inl fp)), (m3, .inl (cI, 1024, .inl fb))] sz) := by
  refine Met.ofW (cc := cX8_thing) (maxL := 2) (ret := (some .int)) (by decide) rfl ?_
  intro p e s m args below meth c s₁ B hml hv
  obtain ⟨rfl, hsz, hP, hK, hD0, hN⟩ := hv
  subst hsz
  have hx := B.exec
  have hb := B.bytes
  have hr := B.returns
  have hts := atoms_spec (ws := wsX8_thing) B.pre
  have hown : s.vm.findClass RX8 = some m.cls := findClass_of_methodNamed B.named
  have hlocks := B.notSynchronized
  have hD := hD0.self (sz := s.heap.size)
  generalize hAe : va_A [(mo, .inr (8, [.int (nI n), .ref m1, .ref m2, .ref m3, .long ka, .long kb, .ref m6, .ref m7, .ref m8, .ref m9, .ref m10, .ref m11, .ref m12, .ref m13, .ref m14, .ref m15, .ref m16])), (m1, .inl (cZ, 8, .inl fs)), (m2, .inl (cI, 8, .inl fp)), (m3, .inl (cI, 1024, .inl fb))] s.heap.size = A at hD ⊢
  have hA : ∀ q : Nat, s.heap.size ≤ q → A q := fun q h => by rw [← hAe]; exact Or.inr h
  have hS : va_S A s.heap s.heap [] := va_S.rf
  have hiX8 : ∀ w ∈ u_ws RX8 TX8 17, w ∈ wsX8_thing := by decide +kernel
  have hl := lv_entry ([.ref mo, .int p1]) (n := 2) (Nat.le_of_ble_eq_true rfl)
  rw [lg_entry_eq]
  generalize (lg_sl ([.ref mo, .int p1]) ++ List.replicate (2 - (lg_sl ([.ref mo, .int p1])).length) Slot.unset).toArray = ls at hl ⊢
  have hl : lv_has ls 2 [(0, .ref mo), (1, .int p1)] := hl
  refine lv_aload_n hx hb dX8_thing_0 rfl (lv_at hl 0 rfl) ?_
  refine va_get (D := (dC, dI)) (ci := 8) (v := .int (nI n)) (C := RX8) (T := TX8) (N := 17) hx hb hts hiX8 hown hK hP 0 rfl rfl 0 (by decide) (hts (.fieldLink RX8 58 "MadeItSoModel" "many" "I") (by decide +kernel)) (fun _ h9 => h9) rfl dX8_thing_1 ?_
  refine lv_bipush (v := 8) hx hb dX8_thing_4 (by decide +kernel) ?_
  refine lv_icmp_ne (tgt := 11) hx hb dX8_thing_6 (by decide) (fun _ => ?_) (fun c_6 => absurd c_6 (fun h => absurd ((nI_eq (a := n) (b := 8) (by omega) (by omega)).mp h) (by omega)))
  refine lv_aload_n hx hb dX8_thing_11 rfl (lv_at hl 0 rfl) ?_
  refine va_get (D := (dC, dI)) (ci := 8) (v := .ref m1) (C := RX8) (T := TX8) (N := 17) hx hb hts hiX8 hown hK hP 0 rfl rfl 1 (by decide) (hts (.fieldLink RX8 9 "MadeItSoModel" "isSeen" "[Z") (by decide +kernel)) (fun _ h9 => h9) rfl dX8_thing_12 ?_
  refine lv_aload_n hx hb dX8_thing_15 rfl (lv_at hl 0 rfl) ?_
  refine va_get (D := (dC, dI)) (ci := 8) (v := .int (nI n)) (C := RX8) (T := TX8) (N := 17) hx hb hts hiX8 hown hK hP 0 rfl rfl 0 (by decide) (hts (.fieldLink RX8 58 "MadeItSoModel" "many" "I") (by decide +kernel)) (fun _ h9 => h9) rfl dX8_thing_16 ?_
  refine lv_iload_n hx hb dX8_thing_19 rfl (lv_at hl 1 rfl) ?_
  refine va_zast hx hb hK hP hD hS 1 2 rfl rfl (vp_in_nI (by omega) (by omega)) dX8_thing_20 (fun H locs hP hD hS => ?_)
  rw [mz_cl (n := n) (by omega)] at hP hD
  have hP : va_P (dC, dI) vwCl [(mo, .inr (8, [.int (nI n), .ref m1, .ref m2, .ref m3, .long ka, .long kb, .ref m6, .ref m7, .ref m8, .ref m9, .ref m10, .ref m11, .ref m12, .ref m13, .ref m14, .ref m15, .ref m16])), (m1, .inl (cZ, 8, .inl (upd fs n (vp_nar .boolean p1)))), (m2, .inl (cI, 8, .inl fp)), (m3, .inl (cI, 1024, .inl fb))] H := hP
  have hD : va_D A [(mo, .inr (8, [.int (nI n), .ref m1, .ref m2, .ref m3, .long ka, .long kb, .ref m6, .ref m7, .ref m8, .ref m9, .ref m10, .ref m11, .ref m12, .ref m13, .ref m14, .ref m15, .ref m16])), (m1, .inl (cZ, 8, .inl (upd fs n (vp_nar .boolean p1)))), (m2, .inl (cI, 8, .inl fp)), (m3, .inl (cI, 1024, .inl fb))] := hD
  refine lv_aload_n hx hb dX8_thing_21 rfl (lv_at hl 0 rfl) ?_
  refine va_get (D := (dC, dI)) (ci := 8) (v := .ref m2) (C := RX8) (T := TX8) (N := 17) hx hb hts hiX8 hown hK hP 0 rfl rfl 2 (by decide) (hts (.fieldLink RX8 13 "MadeItSoModel" "parents" "[I") (by decide +kernel)) (fun _ h9 => h9) rfl dX8_thing_22 ?_
  refine lv_aload_n hx hb dX8_thing_25 rfl (lv_at hl 0 rfl) ?_
  refine va_get (D := (dC, dI)) (ci := 8) (v := .int (nI n)) (C := RX8) (T := TX8) (N := 17) hx hb hts hiX8 hown hK hP 0 rfl rfl 0 (by decide) (hts (.fieldLink RX8 58 "MadeItSoModel" "many" "I") (by decide +kernel)) (fun _ h9 => h9) rfl dX8_thing_26 ?_
  refine lv_iconst (v := 0) hx hb dX8_thing_29 (by decide +kernel) ?_
  refine va_iast hx hb hK hP hD hS 2 0 rfl rfl (vp_in_nI (by omega) (by omega)) dX8_thing_30 (fun H locs hP hD hS => ?_)
  rw [mz_cl (n := n) (by omega)] at hP hD
  have hP : va_P (dC, dI) vwCl [(mo, .inr (8, [.int (nI n), .ref m1, .ref m2, .ref m3, .long ka, .long kb, .ref m6, .ref m7, .ref m8, .ref m9, .ref m10, .ref m11, .ref m12, .ref m13, .ref m14, .ref m15, .ref m16])), (m1, .inl (cZ, 8, .inl (upd fs n (vp_nar .boolean p1)))), (m2, .inl (cI, 8, .inl (upd fp n 0))), (m3, .inl (cI, 1024, .inl fb))] H := hP
  have hD : va_D A [(mo, .inr (8, [.int (nI n), .ref m1, .ref m2, .ref m3, .long ka, .long kb, .ref m6, .ref m7, .ref m8, .ref m9, .ref m10, .ref m11, .ref m12, .ref m13, .ref m14, .ref m15, .ref m16])), (m1, .inl (cZ, 8, .inl (upd fs n (vp_nar .boolean p1)))), (m2, .inl (cI, 8, .inl (upd fp n 0))), (m3, .inl (cI, 1024, .inl fb))] := hD
  refine lv_aload_n hx hb dX8_thing_31 rfl (lv_at hl 0 rfl) ?_
  refine lv_aload_n hx hb dX8_thing_32 rfl (lv_at hl 0 rfl) ?_
  refine va_get (D := (dC, dI)) (ci := 8) (v := .int (nI n)) (C := RX8) (T := TX8) (N := 17) hx hb hts hiX8 hown hK hP 0 rfl rfl 0 (by decide) (hts (.fieldLink RX8 58 "MadeItSoModel" "many" "I") (by decide +kernel)) (fun _ h9 => h9) rfl dX8_thing_33 ?_
  have hPc := hP.sub (ws' := [(mo, .inr (8, [.int (nI n), .ref m1, .ref m2, .ref m3, .long ka, .long kb, .ref m6, .ref m7, .ref m8, .ref m9, .ref m10, .ref m11, .ref m12, .ref m13, .ref m14, .ref m15, .ref m16])), (m3, .inl (cI, 1024, .inl fb))]) [0, 3] rfl
  have hDc := hD.sub (ws' := [(mo, .inr (8, [.int (nI n), .ref m1, .ref m2, .ref m3, .long ka, .long kb, .ref m6, .ref m7, .ref m8, .ref m9, .ref m10, .ref m11, .ref m12, .ref m13, .ref m14, .ref m15, .ref m16])), (m3, .inl (cI, 1024, .inl fb))]) [0, 3] (by decide) rfl
  have hFc := va_free (wc := [(mo, .inr (8, [.int (nI n), .ref m1, .ref m2, .ref m3, .long ka, .long kb, .ref m6, .ref m7, .ref m8, .ref m9, .ref m10, .ref m11, .ref m12, .ref m13, .ref m14, .ref m15, .ref m16])), (m3, .inl (cI, 1024, .inl fb))]) hD hS hA [0, 3] rfl
  refine va_callv (va_runV (As := [.int (nI n)]) (rest := []) ⟨hx, hb, hml, hown, hts⟩ (mz_m_fresh l dC dI cI cJ cZ mo m1 m2 m3 m6 m7 m8 m9 m10 m11 m12 m13 m14 m15 m16 n ka kb fb n H.size (by first | assumption | omega)) (cwV 1 hts gX8_thing_X8_fresh rfl rfl rfl (by decide +kernel) ⟨Nat.le_of_ble_eq_true rfl, Nat.le_of_ble_eq_true rfl⟩) ⟨fun a U g mk q => mz_blI q, va_recv hK hPc (ci := 8) (q0 := 0) rfl rfl, fun U hU hW => ⟨rfl, by rw [hU], by rw [hU]; exact hPc, va_K.moved hW.alike hK, hDc.weaken (fun _ _ _ _ => trivial), mz_nw hW hN⟩⟩ rfl rfl hl.1 rfl (lv_room (Nat.le_of_ble_eq_true rfl)) dX8_thing_36 ⟨Nat.le_of_ble_eq_true rfl, Nat.le_of_ble_eq_true rfl⟩) hS (fun q _ h => hFc q h) hFc (fun u t H1 locs ht hvm hw_36 hB hz1 hk1 hS => ?_)
  obtain ⟨gb_36, hP1, hD1⟩ := hB
  rw [ht] at hP1
  obtain ⟨hP, hD⟩ := va_join (wr := [(m1, .inl (cZ, 8, .inl (upd fs n (vp_nar .boolean p1)))), (m2, .inl (cI, 8, .inl (upd fp n 0)))]) (w1 := [(mo, .inr (8, [.int (nI n), .ref m1, .ref m2, .ref m3, .long ka, .long kb, .ref m6, .ref m7, .ref m8, .ref m9, .ref m10, .ref m11, .ref m12, .ref m13, .ref m14, .ref m15, .ref m16])), (m3, .inl (cI, 1024, .inl gb_36))]) hP hD [0, 3] [1, 2] rfl rfl (by decide) (by decide) hk1 hFc hP1 hD1
  generalize H1 = H at hP hS ⊢
  have hP : va_P (dC, dI) vwCl [(m1, .inl (cZ, 8, .inl (upd fs n (vp_nar .boolean p1)))), (m2, .inl (cI, 8, .inl (upd fp n 0))), (mo, .inr (8, [.int (nI n), .ref m1, .ref m2, .ref m3, .long ka, .long kb, .ref m6, .ref m7, .ref m8, .ref m9, .ref m10, .ref m11, .ref m12, .ref m13, .ref m14, .ref m15, .ref m16])), (m3, .inl (cI, 1024, .inl gb_36))] H := hP
  have hD : va_D A [(m1, .inl (cZ, 8, .inl (upd fs n (vp_nar .boolean p1)))), (m2, .inl (cI, 8, .inl (upd fp n 0))), (mo, .inr (8, [.int (nI n), .ref m1, .ref m2, .ref m3, .long ka, .long kb, .ref m6, .ref m7, .ref m8, .ref m9, .ref m10, .ref m11, .ref m12, .ref m13, .ref m14, .ref m15, .ref m16])), (m3, .inl (cI, 1024, .inl gb_36))] := hD
  refine lv_aload_n hx hb dX8_thing_39 rfl (lv_at hl 0 rfl) ?_
  refine lv_dup hx hb dX8_thing_40 rfl ?_
  refine va_get (D := (dC, dI)) (ci := 8) (v := .int (nI n)) (C := RX8) (T := TX8) (N := 17) hx hb hts hiX8 hown hK hP 2 rfl rfl 0 (by decide) (hts (.fieldLink RX8 58 "MadeItSoModel" "many" "I") (by decide +kernel)) (fun _ h9 => h9) rfl dX8_thing_41 ?_
  refine lv_iconst (v := 1) hx hb dX8_thing_44 (by decide +kernel) ?_
  refine lv_iadd hx hb dX8_thing_45 ?_
  refine mz_ti (y := (nI (n + 1))) (nI_add _ _) ?_
  refine va_put (D := (dC, dI)) (ci := 8) (v := .int (nI (n + 1))) (ty := .int) (C := RX8) (T := TX8) (N := 17) hx hb hts hiX8 tyX8 tyX8_ok nmX8 hown hK hP hD hS 2 rfl rfl 0 (by decide) (hts (.fieldLink RX8 58 "MadeItSoModel" "many" "I") (by decide +kernel)) (fun _ h9 => h9) rfl (by decide +kernel) rfl rfl (Nat.le_of_ble_eq_true rfl) dX8_thing_46 (fun H locs hP hD hS => ?_)
  have hP : va_P (dC, dI) vwCl [(m1, .inl (cZ, 8, .inl (upd fs n (vp_nar .boolean p1)))), (m2, .inl (cI, 8, .inl (upd fp n 0))), (mo, .inr (8, [.int (nI (n + 1)), .ref m1, .ref m2, .ref m3, .long ka, .long kb, .ref m6, .ref m7, .ref m8, .ref m9, .ref m10, .ref m11, .ref m12, .ref m13, .ref m14, .ref m15, .ref m16])), (m3, .inl (cI, 1024, .inl gb_36))] H := hP
  have hD : va_D A [(m1, .inl (cZ, 8, .inl (upd fs n (vp_nar .boolean p1)))), (m2, .inl (cI, 8, .inl (upd fp n 0))), (mo, .inr (8, [.int (nI (n + 1)), .ref m1, .ref m2, .ref m3, .long ka, .long kb, .ref m6, .ref m7, .ref m8, .ref m9, .ref m10, .ref m11, .ref m12, .ref m13, .ref m14, .ref m15, .ref m16])), (m3, .inl (cI, 1024, .inl gb_36))] := hD
  refine lv_aload_n hx hb dX8_thing_49 rfl (lv_at hl 0 rfl) ?_
  refine va_get (D := (dC, dI)) (ci := 8) (v := .int (nI (n + 1))) (C := RX8) (T := TX8) (N := 17) hx hb hts hiX8 hown hK hP 2 rfl rfl 0 (by decide) (hts (.fieldLink RX8 58 "MadeItSoModel" "many" "I") (by decide +kernel)) (fun _ h9 => h9) rfl dX8_thing_50 ?_
  refine lv_iconst (v := 1) hx hb dX8_thing_53 (by decide +kernel) ?_
  refine lv_isub hx hb dX8_thing_54 ?_
  refine mz_ti (y := (nI n)) (nI_pred _) ?_
  have hP9 := hP.sub (ws' := [(mo, .inr (8, [.int (nI ((n + 1))), .ref m1, .ref m2, .ref m3, .long ka, .long kb, .ref m6, .ref m7, .ref m8, .ref m9, .ref m10, .ref m11, .ref m12, .ref m13, .ref m14, .ref m15, .ref m16])), (m1, .inl (cZ, 8, .inl (upd fs n (vp_nar .boolean p1)))), (m2, .inl (cI, 8, .inl (upd fp n 0))), (m3, .inl (cI, 1024, .inl gb_36))]) [2, 0, 1, 3] rfl
  have hD9 := hD.sub (ws' := [(mo, .inr (8, [.int (nI ((n + 1))), .ref m1, .ref m2, .ref m3, .long ka, .long kb, .ref m6, .ref m7, .ref m8, .ref m9, .ref m10, .ref m11, .ref m12, .ref m13, .ref m14, .ref m15, .ref m16])), (m1, .inl (cZ, 8, .inl (upd fs n (vp_nar .boolean p1)))), (m2, .inl (cI, 8, .inl (upd fp n 0))), (m3, .inl (cI, 1024, .inl gb_36))]) [2, 0, 1, 3] (by decide) rfl
  refine W.widen (k := 0) (n := 0) (Nat.le_of_ble_eq_true rfl) (Nat.le_of_ble_eq_true rfl) ?_
  exact W.iret (v := (nI n)) hx hb hr (fun t ht hW => ⟨⟨(nI n), (), rfl, rfl, (upd fs n (vp_nar .boolean p1)), (upd fp n 0), gb_36, (mz_acy_more ha (fun t ht => pk_un (by omega)) pk_us), by rw [ht]; exact hP9, hD9⟩, hS.F ht⟩) hS.2.2 dX8_thing_55
set_option maxHeartbeats 1000000 in
set_option maxRecDepth 100000 in
theorem mz_m_arrow (l : Launch) (dC : Nat → ClassId) (dI : Nat → Nat → Nat) (cI cJ cZ : ClassId) (mo : Nat) (m1 : Nat) (m2 : Nat) (m3 : Nat) (m6 : Nat) (m7 : Nat) (m8 : Nat) (m9 : Nat) (m10 : Nat) (m11 : Nat) (m12 : Nat) (m13 : Nat) (m14 : Nat) (m15 : Nat) (m16 : Nat) (n : Nat) (ka : Int64) (kb : Int64) (fp : Nat → Int32) (fb : Nat → Int32) (p1 : Int32) (p2 : Int32) (sz : Nat) (hn : n ≤ 8) (ha : mz_acy n fp) : Met l yX8_arrow wsX8_arrow ({ frames := 2, cells := 0, slots := 0, locals := 50 }) (va_Pc [.ref mo, .int p1, .int p2] (fun U => U.heap.size = sz ∧ va_P (dC, dI) vwCl [(mo, .inr (8, [.int (nI n), .ref m1, .ref m2, .ref m3, .long ka, .long kb, .ref m6, .ref m7, .ref m8, .ref m9, .ref m10, .ref m11, .ref m12, .ref m13, .ref m14, .ref m15, .ref m16])), (m2, .inl (cI, 8, .inl fp)), (m3, .inl (cI, 1024, .inl fb))] U.heap ∧ va_K (dC, dI) vwCl [(cI, FieldType.int), (cJ, FieldType.long), (cZ, FieldType.boolean)] U ∧ va_D (fun _ => True) [(mo, .inr (8, [.int (nI n), .ref m1, .ref m2, .ref m3, .long ka, .long kb, .ref m6, .ref m7, .ref m8, .ref m9, .ref m10, .ref m11, .ref m12, .ref m13, .ref m14, .ref m15, .ref m16])), (m2, .inl (cI, 8, .inl fp)), (m3, .inl (cI, 1024, .inl fb))] ∧ mz_N U)) (va_Qi (fun (r : Int32) (_ : Unit) => r = 0 ∨ r = 1) (fun _ t => ∃ (gp : Nat → Int32), ∃ (gb : Nat → Int32), (mz_acy n gp) ∧ va_P (dC, dI) vwCl [(mo, .inr (8, [.int (nI n), .ref m1, .ref m2, .ref m3, .long ka, .long kb, .ref m6, .ref m7, .ref m8, .ref m9, .ref m10, .ref m11, .ref m12, .ref m13, .ref m14, .ref m15, .ref m16])), (m2, .inl (cI, 8, .inl gp)), (m3, .inl (cI, 1024, .inl gb))] t.heap ∧ va_D (va_A [(mo, .inr (8, [.int (nI n), .ref m1, .ref m2, .ref m3, .long ka, .long kb, .ref m6, .ref m7, .ref m8, .ref m9, .ref m10, .ref m11, .ref m12, .ref m13, .ref m14, .ref m15, .ref m16])), (m2, .inl (cI, 8, .inl fp)), (m3, .inl (cI, 1024, .inl fb))] sz) [(mo, .inr (8, [.int (nI n), .ref m1, .ref m2, .ref m3, .long ka, .long kb, .ref m6, .ref m7, .ref m8, .ref m9, .ref m10, .ref m11, .ref m12, .ref m13, .ref m14, .ref m15, .ref m16])), (m2, .inl (cI, 8, .inl gp)), (m3, .inl (cI, 1024, .inl gb))]) (va_A [(mo, .inr (8, [.int (nI n), .ref m1, .ref m2, .ref m3, .long ka, .long kb, .ref m6, .ref m7, .ref m8, .ref m9, .ref m10, .ref m11, .ref m12, .ref m13, .ref m14, .ref m15, .ref m16])), (m2, .inl (cI, 8, .inl fp)), (m3, .inl (cI, 1024, .inl fb))] sz)) 0 0 (va_A [(mo, .inr (8, [.int (nI n), .ref m1, .ref m2, .ref m3, .long ka, .long kb, .ref m6, .ref m7, .ref m8, .ref m9, .ref m10, .ref m11, .ref m12, .ref m13, .ref m14, .ref m15, .ref m16])), (m2, .inl (cI, 8, .inl fp)), (m3, .inl (cI, 1024, .inl fb))] sz) := by
  refine Met.ofW (cc := cX8_arrow) (maxL := 3) (ret := (some .boolean)) (by decide) rfl ?_
  intro p e s m args below meth c s₁ B hml hv
  obtain ⟨rfl, hsz, hP, hK, hD0, hN⟩ := hv
  subst hsz
  have hx := B.exec
  have hb := B.bytes
  have hr := B.returns
  have hts := atoms_spec (ws := wsX8_arrow) B.pre
  have hown : s.vm.findClass RX8 = some m.cls := findClass_of_methodNamed B.named
  have hlocks := B.notSynchronized
  have hD := hD0.self (sz := s.heap.size)
  generalize hAe : va_A [(mo, .inr (8, [.int (nI n), .ref m1, .ref m2, .ref m3, .long ka, .long kb, .ref m6, .ref m7, .ref m8, .ref m9, .ref m10, .ref m11, .ref m12, .ref m13, .ref m14, .ref m15, .ref m16])), (m2, .inl (cI, 8, .inl fp)), (m3, .inl (cI, 1024, .inl fb))] s.heap.size = A at hD ⊢
  have hA : ∀ q : Nat, s.heap.size ≤ q → A q := fun q h => by rw [← hAe]; exact Or.inr h
  have hS : va_S A s.heap s.heap [] := va_S.rf
  have hiX8 : ∀ w ∈ u_ws RX8 TX8 17, w ∈ wsX8_arrow := by decide +kernel
  have hl := lv_entry ([.ref mo, .int p1, .int p2]) (n := 3) (Nat.le_of_ble_eq_true rfl)
  rw [lg_entry_eq]
  generalize (lg_sl ([.ref mo, .int p1, .int p2]) ++ List.replicate (3 - (lg_sl ([.ref mo, .int p1, .int p2])).length) Slot.unset).toArray = ls at hl ⊢
  have hl : lv_has ls 3 [(0, .ref mo), (1, .int p1), (2, .int p2)] := hl
  refine lv_aload_n hx hb dX8_arrow_0 rfl (lv_at hl 0 rfl) ?_
  refine lv_iload_n hx hb dX8_arrow_1 rfl (lv_at hl 1 rfl) ?_
  have hPc := hP.sub (ws' := [(mo, .inr (8, [.int (nI n), .ref m1, .ref m2, .ref m3, .long ka, .long kb, .ref m6, .ref m7, .ref m8, .ref m9, .ref m10, .ref m11, .ref m12, .ref m13, .ref m14, .ref m15, .ref m16]))]) [0] rfl
  refine va_calli (va_runV (As := [.int p1]) (rest := []) ⟨hx, hb, hml, hown, hts⟩ (mz_m_isThing l dC dI cI cJ cZ mo m1 m2 m3 m6 m7 m8 m9 m10 m11 m12 m13 m14 m15 m16 n ka kb p1 s.heap (by first | assumption | omega)) (cwV 1 hts gX8_arrow_X8_isThing rfl rfl rfl (by decide +kernel) ⟨Nat.le_of_ble_eq_true rfl, Nat.le_of_ble_eq_true rfl⟩) ⟨fun a U g mk q => mz_blP q, va_recv hK hPc (ci := 8) (q0 := 0) rfl rfl, fun U hU hW => ⟨rfl, hU, hPc, va_K.moved hW.alike hK, mz_nw hW hN⟩⟩ rfl rfl hl.1 rfl (lv_room (Nat.le_of_ble_eq_true rfl)) dX8_arrow_2 ⟨Nat.le_of_ble_eq_true rfl, Nat.le_of_ble_eq_true rfl⟩) hS (fun q _ h => h.elim) (fun q h => h.elim) (fun r_2 u t H1 locs ht hvm hw_2 hB hz1 hk1 hS => ?_)
  have hE : s.heap = H1 := hB.symm.trans ht
  subst hE
  rcases (show (r_2 = 1 ∧ ∃ j : Nat, j < n ∧ p1 = nI j) ∨ r_2 = 0 from hw_2) with ⟨rfl, j_2, hj_2, he_2⟩ | rfl
  · skip
    subst he_2
    refine lv_if_eq (tgt := 53) hx hb dX8_arrow_5 (by decide) (fun c_5 => absurd c_5 (by decide +kernel)) (fun _ => ?_)
    refine lv_aload_n hx hb dX8_arrow_8 rfl (lv_at hl 0 rfl) ?_
    refine lv_iload_n hx hb dX8_arrow_9 rfl (lv_at hl 2 rfl) ?_
    have hPc := hP.sub (ws' := [(mo, .inr (8, [.int (nI n), .ref m1, .ref m2, .ref m3, .long ka, .long kb, .ref m6, .ref m7, .ref m8, .ref m9, .ref m10, .ref m11, .ref m12, .ref m13, .ref m14, .ref m15, .ref m16]))]) [0] rfl
    refine va_calli (va_runV (As := [.int p2]) (rest := []) ⟨hx, hb, hml, hown, hts⟩ (mz_m_isThing l dC dI cI cJ cZ mo m1 m2 m3 m6 m7 m8 m9 m10 m11 m12 m13 m14 m15 m16 n ka kb p2 s.heap (by first | assumption | omega)) (cwV 1 hts gX8_arrow_X8_isThing rfl rfl rfl (by decide +kernel) ⟨Nat.le_of_ble_eq_true rfl, Nat.le_of_ble_eq_true rfl⟩) ⟨fun a U g mk q => mz_blP q, va_recv hK hPc (ci := 8) (q0 := 0) rfl rfl, fun U hU hW => ⟨rfl, hU, hPc, va_K.moved hW.alike hK, mz_nw hW hN⟩⟩ rfl rfl hl.1 rfl (lv_room (Nat.le_of_ble_eq_true rfl)) dX8_arrow_10 ⟨Nat.le_of_ble_eq_true rfl, Nat.le_of_ble_eq_true rfl⟩) hS (fun q _ h => h.elim) (fun q h => h.elim) (fun r_10 u t H1 locs ht hvm hw_10 hB hz1 hk1 hS => ?_)
    have hE : s.heap = H1 := hB.symm.trans ht
    subst hE
    rcases (show (r_10 = 1 ∧ ∃ j : Nat, j < n ∧ p2 = nI j) ∨ r_10 = 0 from hw_10) with ⟨rfl, j_10, hj_10, he_10⟩ | rfl
    · skip
      subst he_10
      refine lv_if_eq (tgt := 53) hx hb dX8_arrow_13 (by decide) (fun c_13 => absurd c_13 (by decide +kernel)) (fun _ => ?_)
      refine lv_iload_n hx hb dX8_arrow_16 rfl (lv_at hl 1 rfl) ?_
      refine lv_iload_n hx hb dX8_arrow_17 rfl (lv_at hl 2 rfl) ?_
      refine lv_icmp_eq (tgt := 53) hx hb dX8_arrow_18 (by decide) (fun c_18 => ?_) (fun c_18 => ?_)
      · skip
        have d_18 : j_2 = j_10 := (nI_eq (a := j_2) (b := j_10) (by omega) (by omega)).mp c_18
        refine lv_iconst (v := 0) hx hb dX8_arrow_53 (by decide +kernel) ?_
        have hP9 := hP.sub (ws' := [(mo, .inr (8, [.int (nI n), .ref m1, .ref m2, .ref m3, .long ka, .long kb, .ref m6, .ref m7, .ref m8, .ref m9, .ref m10, .ref m11, .ref m12, .ref m13, .ref m14, .ref m15, .ref m16])), (m2, .inl (cI, 8, .inl fp)), (m3, .inl (cI, 1024, .inl fb))]) [0, 1, 2] rfl
        have hD9 := hD.sub (ws' := [(mo, .inr (8, [.int (nI n), .ref m1, .ref m2, .ref m3, .long ka, .long kb, .ref m6, .ref m7, .ref m8, .ref m9, .ref m10, .ref m11, .ref m12, .ref m13, .ref m14, .ref m15, .ref m16])), (m2, .inl (cI, 8, .inl fp)), (m3, .inl (cI, 1024, .inl fb))]) [0, 1, 2] (by decide) rfl
        refine W.widen (k := 0) (n := 0) (Nat.le_of_ble_eq_true rfl) (Nat.le_of_ble_eq_true rfl) ?_
        exact W.zret (v := 0) hx hb hr (mz_nz (by decide +kernel)) (fun t ht hW => ⟨⟨0, (), rfl, Or.inl rfl, fp, fb, (by first | exact ha | exact mz_acy_add (by omega) hj_2 hj_10 (fun e => d_18 e) ha hw_42 c_50 (fun k hk hne2 => pk_un hne2) pk_us), by rw [ht]; exact hP9, hD9⟩, hS.F ht⟩) hS.2.2 dX8_arrow_54
      · skip
        have d_18 : ¬ j_2 = j_10 := fun h => c_18 ((nI_eq (a := j_2) (b := j_10) (by omega) (by omega)).mpr h)
        refine lv_aload_n hx hb dX8_arrow_21 rfl (lv_at hl 0 rfl) ?_
        refine lv_iload_n hx hb dX8_arrow_22 rfl (lv_at hl 1 rfl) ?_
        refine lv_iload_n hx hb dX8_arrow_23 rfl (lv_at hl 2 rfl) ?_
        have hPc := hP.sub (ws' := [(mo, .inr (8, [.int (nI n), .ref m1, .ref m2, .ref m3, .long ka, .long kb, .ref m6, .ref m7, .ref m8, .ref m9, .ref m10, .ref m11, .ref m12, .ref m13, .ref m14, .ref m15, .ref m16])), (m2, .inl (cI, 8, .inl fp))]) [0, 1] rfl
        refine va_calli (va_runV (As := [.int (nI j_2), .int (nI j_10)]) (rest := []) ⟨hx, hb, hml, hown, hts⟩ (mz_m_has_in l dC dI cI cJ cZ mo m1 m2 m3 m6 m7 m8 m9 m10 m11 m12 m13 m14 m15 m16 n ka kb fp j_2 j_10 s.heap (by first | assumption | omega) (by first | assumption | omega) (by first | assumption | omega)) (cwV 2 hts gX8_arrow_X8_has rfl rfl rfl (by decide +kernel) ⟨Nat.le_of_ble_eq_true rfl, Nat.le_of_ble_eq_true rfl⟩) ⟨fun a U g mk q => mz_blP q, va_recv hK hPc (ci := 8) (q0 := 0) rfl rfl, fun U hU hW => ⟨rfl, hU, hPc, va_K.moved hW.alike hK, mz_nw hW hN⟩⟩ rfl rfl hl.1 rfl (lv_room (Nat.le_of_ble_eq_true rfl)) dX8_arrow_24 ⟨Nat.le_of_ble_eq_true rfl, Nat.le_of_ble_eq_true rfl⟩) hS (fun q _ h => h.elim) (fun q h => h.elim) (fun r_24 u t H1 locs ht hvm hw_24 hB hz1 hk1 hS => ?_)
        have hE : s.heap = H1 := hB.symm.trans ht
        subst hE
        refine lv_if_ne (tgt := 53) hx hb dX8_arrow_27 (by decide) (fun c_27 => ?_) (fun c_27 => ?_)
        · skip
          refine lv_iconst (v := 0) hx hb dX8_arrow_53 (by decide +kernel) ?_
          have hP9 := hP.sub (ws' := [(mo, .inr (8, [.int (nI n), .ref m1, .ref m2, .ref m3, .long ka, .long kb, .ref m6, .ref m7, .ref m8, .ref m9, .ref m10, .ref m11, .ref m12, .ref m13, .ref m14, .ref m15, .ref m16])), (m2, .inl (cI, 8, .inl fp)), (m3, .inl (cI, 1024, .inl fb))]) [0, 1, 2] rfl
          have hD9 := hD.sub (ws' := [(mo, .inr (8, [.int (nI n), .ref m1, .ref m2, .ref m3, .long ka, .long kb, .ref m6, .ref m7, .ref m8, .ref m9, .ref m10, .ref m11, .ref m12, .ref m13, .ref m14, .ref m15, .ref m16])), (m2, .inl (cI, 8, .inl fp)), (m3, .inl (cI, 1024, .inl fb))]) [0, 1, 2] (by decide) rfl
          refine W.widen (k := 0) (n := 0) (Nat.le_of_ble_eq_true rfl) (Nat.le_of_ble_eq_true rfl) ?_
          exact W.zret (v := 0) hx hb hr (mz_nz (by decide +kernel)) (fun t ht hW => ⟨⟨0, (), rfl, Or.inl rfl, fp, fb, (by first | exact ha | exact mz_acy_add (by omega) hj_2 hj_10 (fun e => d_18 e) ha hw_42 c_50 (fun k hk hne2 => pk_un hne2) pk_us), by rw [ht]; exact hP9, hD9⟩, hS.F ht⟩) hS.2.2 dX8_arrow_54
        · skip
          refine lv_aload_n hx hb dX8_arrow_30 rfl (lv_at hl 0 rfl) ?_
          refine lv_iload_n hx hb dX8_arrow_31 rfl (lv_at hl 2 rfl) ?_
          refine lv_iload_n hx hb dX8_arrow_32 rfl (lv_at hl 1 rfl) ?_
          have hPc := hP.sub (ws' := [(mo, .inr (8, [.int (nI n), .ref m1, .ref m2, .ref m3, .long ka, .long kb, .ref m6, .ref m7, .ref m8, .ref m9, .ref m10, .ref m11, .ref m12, .ref m13, .ref m14, .ref m15, .ref m16])), (m2, .inl (cI, 8, .inl fp))]) [0, 1] rfl
          refine va_calli (va_runV (As := [.int (nI j_10), .int (nI j_2)]) (rest := []) ⟨hx, hb, hml, hown, hts⟩ (mz_m_has_in l dC dI cI cJ cZ mo m1 m2 m3 m6 m7 m8 m9 m10 m11 m12 m13 m14 m15 m16 n ka kb fp j_10 j_2 s.heap (by first | assumption | omega) (by first | assumption | omega) (by first | assumption | omega)) (cwV 2 hts gX8_arrow_X8_has rfl rfl rfl (by decide +kernel) ⟨Nat.le_of_ble_eq_true rfl, Nat.le_of_ble_eq_true rfl⟩) ⟨fun a U g mk q => mz_blP q, va_recv hK hPc (ci := 8) (q0 := 0) rfl rfl, fun U hU hW => ⟨rfl, hU, hPc, va_K.moved hW.alike hK, mz_nw hW hN⟩⟩ rfl rfl hl.1 rfl (lv_room (Nat.le_of_ble_eq_true rfl)) dX8_arrow_33 ⟨Nat.le_of_ble_eq_true rfl, Nat.le_of_ble_eq_true rfl⟩) hS (fun q _ h => h.elim) (fun q h => h.elim) (fun r_33 u t H1 locs ht hvm hw_33 hB hz1 hk1 hS => ?_)
          have hE : s.heap = H1 := hB.symm.trans ht
          subst hE
          refine lv_if_ne (tgt := 53) hx hb dX8_arrow_36 (by decide) (fun c_36 => ?_) (fun c_36 => ?_)
          · skip
            refine lv_iconst (v := 0) hx hb dX8_arrow_53 (by decide +kernel) ?_
            have hP9 := hP.sub (ws' := [(mo, .inr (8, [.int (nI n), .ref m1, .ref m2, .ref m3, .long ka, .long kb, .ref m6, .ref m7, .ref m8, .ref m9, .ref m10, .ref m11, .ref m12, .ref m13, .ref m14, .ref m15, .ref m16])), (m2, .inl (cI, 8, .inl fp)), (m3, .inl (cI, 1024, .inl fb))]) [0, 1, 2] rfl
            have hD9 := hD.sub (ws' := [(mo, .inr (8, [.int (nI n), .ref m1, .ref m2, .ref m3, .long ka, .long kb, .ref m6, .ref m7, .ref m8, .ref m9, .ref m10, .ref m11, .ref m12, .ref m13, .ref m14, .ref m15, .ref m16])), (m2, .inl (cI, 8, .inl fp)), (m3, .inl (cI, 1024, .inl fb))]) [0, 1, 2] (by decide) rfl
            refine W.widen (k := 0) (n := 0) (Nat.le_of_ble_eq_true rfl) (Nat.le_of_ble_eq_true rfl) ?_
            exact W.zret (v := 0) hx hb hr (mz_nz (by decide +kernel)) (fun t ht hW => ⟨⟨0, (), rfl, Or.inl rfl, fp, fb, (by first | exact ha | exact mz_acy_add (by omega) hj_2 hj_10 (fun e => d_18 e) ha hw_42 c_50 (fun k hk hne2 => pk_un hne2) pk_us), by rw [ht]; exact hP9, hD9⟩, hS.F ht⟩) hS.2.2 dX8_arrow_54
          · skip
            refine lv_aload_n hx hb dX8_arrow_39 rfl (lv_at hl 0 rfl) ?_
            refine lv_iload_n hx hb dX8_arrow_40 rfl (lv_at hl 2 rfl) ?_
            refine lv_iconst (v := 0) hx hb dX8_arrow_41 (by decide +kernel) ?_
            have hPc := hP.sub (ws' := [(mo, .inr (8, [.int (nI n), .ref m1, .ref m2, .ref m3, .long ka, .long kb, .ref m6, .ref m7, .ref m8, .ref m9, .ref m10, .ref m11, .ref m12, .ref m13, .ref m14, .ref m15, .ref m16])), (m2, .inl (cI, 8, .inl fp))]) [0, 1] rfl
            refine va_calli (va_runV (As := [.int (nI j_10), .int 0]) (rest := []) ⟨hx, hb, hml, hown, hts⟩ (mz_m_belowOf l dC dI cI cJ cZ mo m1 m2 m3 m6 m7 m8 m9 m10 m11 m12 m13 m14 m15 m16 n ka kb fp (nI j_10) s.heap (by first | assumption | omega)) (cwV 2 hts gX8_arrow_X8_belowOf rfl rfl rfl (by decide +kernel) ⟨Nat.le_of_ble_eq_true rfl, Nat.le_of_ble_eq_true rfl⟩) ⟨fun a U g mk q => mz_blP q, va_recv hK hPc (ci := 8) (q0 := 0) rfl rfl, fun U hU hW => ⟨rfl, hU, hPc, va_K.moved hW.alike hK, mz_nw hW hN⟩⟩ rfl rfl hl.1 rfl (lv_room (Nat.le_of_ble_eq_true rfl)) dX8_arrow_42 ⟨Nat.le_of_ble_eq_true rfl, Nat.le_of_ble_eq_true rfl⟩) hS (fun q _ h => h.elim) (fun q h => h.elim) (fun r_42 u t H1 locs ht hvm hw_42 hB hz1 hk1 hS => ?_)
            have hE : s.heap = H1 := hB.symm.trans ht
            subst hE
            refine lv_iload_n hx hb dX8_arrow_45 rfl (lv_at hl 1 rfl) ?_
            refine lv_ishr hx hb dX8_arrow_46 ?_
            refine lv_iconst (v := 1) hx hb dX8_arrow_47 (by decide +kernel) ?_
            refine lv_iand hx hb dX8_arrow_48 ?_
            refine lv_iconst (v := 1) hx hb dX8_arrow_49 (by decide +kernel) ?_
            refine lv_icmp_ne (tgt := 55) hx hb dX8_arrow_50 (by decide) (fun c_50 => ?_) (fun c_50 => ?_)
            · skip
              refine lv_aload_n hx hb dX8_arrow_55 rfl (lv_at hl 0 rfl) ?_
              refine va_get (D := (dC, dI)) (ci := 8) (v := .ref m2) (C := RX8) (T := TX8) (N := 17) hx hb hts hiX8 hown hK hP 0 rfl rfl 2 (by decide) (hts (.fieldLink RX8 13 "MadeItSoModel" "parents" "[I") (by decide +kernel)) (fun _ h9 => h9) rfl dX8_arrow_56 ?_
              refine lv_iload_n hx hb dX8_arrow_59 rfl (lv_at hl 2 rfl) ?_
              refine lv_dup2_11 hx hb dX8_arrow_60 rfl rfl ?_
              refine va_iald hx hb hK hP 1 0 rfl rfl (vp_in_nI (by omega) (by omega)) dX8_arrow_61 ?_
              refine mz_ti (y := (fp j_10)) (by rw [mz_cl (by omega)]) ?_
              refine lv_iconst (v := 1) hx hb dX8_arrow_62 (by decide +kernel) ?_
              refine lv_iload_n hx hb dX8_arrow_63 rfl (lv_at hl 1 rfl) ?_
              refine lv_ishl hx hb dX8_arrow_64 ?_
              refine lv_ior hx hb dX8_arrow_65 ?_
              refine va_iast hx hb hK hP hD hS 1 0 rfl rfl (vp_in_nI (by omega) (by omega)) dX8_arrow_66 (fun H locs hP hD hS => ?_)
              rw [mz_cl (n := j_10) (by omega)] at hP hD
              have hP : va_P (dC, dI) vwCl [(mo, .inr (8, [.int (nI n), .ref m1, .ref m2, .ref m3, .long ka, .long kb, .ref m6, .ref m7, .ref m8, .ref m9, .ref m10, .ref m11, .ref m12, .ref m13, .ref m14, .ref m15, .ref m16])), (m2, .inl (cI, 8, .inl (upd fp j_10 ((fp j_10) ||| (1 <<< ((nI j_2) &&& 31)))))), (m3, .inl (cI, 1024, .inl fb))] H := hP
              have hD : va_D A [(mo, .inr (8, [.int (nI n), .ref m1, .ref m2, .ref m3, .long ka, .long kb, .ref m6, .ref m7, .ref m8, .ref m9, .ref m10, .ref m11, .ref m12, .ref m13, .ref m14, .ref m15, .ref m16])), (m2, .inl (cI, 8, .inl (upd fp j_10 ((fp j_10) ||| (1 <<< ((nI j_2) &&& 31)))))), (m3, .inl (cI, 1024, .inl fb))] := hD
              refine lv_aload_n hx hb dX8_arrow_67 rfl (lv_at hl 0 rfl) ?_
              refine lv_iload_n hx hb dX8_arrow_68 rfl (lv_at hl 2 rfl) ?_
              have hPc := hP.sub (ws' := [(mo, .inr (8, [.int (nI n), .ref m1, .ref m2, .ref m3, .long ka, .long kb, .ref m6, .ref m7, .ref m8, .ref m9, .ref m10, .ref m11, .ref m12, .ref m13, .ref m14, .ref m15, .ref m16])), (m3, .inl (cI, 1024, .inl fb))]) [0, 2] rfl
              have hDc := hD.sub (ws' := [(mo, .inr (8, [.int (nI n), .ref m1, .ref m2, .ref m3, .long ka, .long kb, .ref m6, .ref m7, .ref m8, .ref m9, .ref m10, .ref m11, .ref m12, .ref m13, .ref m14, .ref m15, .ref m16])), (m3, .inl (cI, 1024, .inl fb))]) [0, 2] (by decide) rfl
              have hFc := va_free (wc := [(mo, .inr (8, [.int (nI n), .ref m1, .ref m2, .ref m3, .long ka, .long kb, .ref m6, .ref m7, .ref m8, .ref m9, .ref m10, .ref m11, .ref m12, .ref m13, .ref m14, .ref m15, .ref m16])), (m3, .inl (cI, 1024, .inl fb))]) hD hS hA [0, 2] rfl
              refine va_callv (va_runV (As := [.int (nI j_10)]) (rest := []) ⟨hx, hb, hml, hown, hts⟩ (mz_m_fresh l dC dI cI cJ cZ mo m1 m2 m3 m6 m7 m8 m9 m10 m11 m12 m13 m14 m15 m16 n ka kb fb j_10 H.size (by first | assumption | omega)) (cwV 1 hts gX8_arrow_X8_fresh rfl rfl rfl (by decide +kernel) ⟨Nat.le_of_ble_eq_true rfl, Nat.le_of_ble_eq_true rfl⟩) ⟨fun a U g mk q => mz_blI q, va_recv hK hPc (ci := 8) (q0 := 0) rfl rfl, fun U hU hW => ⟨rfl, by rw [hU], by rw [hU]; exact hPc, va_K.moved hW.alike hK, hDc.weaken (fun _ _ _ _ => trivial), mz_nw hW hN⟩⟩ rfl rfl hl.1 rfl (lv_room (Nat.le_of_ble_eq_true rfl)) dX8_arrow_69 ⟨Nat.le_of_ble_eq_true rfl, Nat.le_of_ble_eq_true rfl⟩) hS (fun q _ h => hFc q h) hFc (fun u t H1 locs ht hvm hw_69 hB hz1 hk1 hS => ?_)
              obtain ⟨gb_69, hP1, hD1⟩ := hB
              rw [ht] at hP1
              obtain ⟨hP, hD⟩ := va_join (wr := [(m2, .inl (cI, 8, .inl (upd fp j_10 ((fp j_10) ||| (1 <<< ((nI j_2) &&& 31))))))]) (w1 := [(mo, .inr (8, [.int (nI n), .ref m1, .ref m2, .ref m3, .long ka, .long kb, .ref m6, .ref m7, .ref m8, .ref m9, .ref m10, .ref m11, .ref m12, .ref m13, .ref m14, .ref m15, .ref m16])), (m3, .inl (cI, 1024, .inl gb_69))]) hP hD [0, 2] [1] rfl rfl (by decide) (by decide) hk1 hFc hP1 hD1
              generalize H1 = H at hP hS ⊢
              have hP : va_P (dC, dI) vwCl [(m2, .inl (cI, 8, .inl (upd fp j_10 ((fp j_10) ||| (1 <<< ((nI j_2) &&& 31)))))), (mo, .inr (8, [.int (nI n), .ref m1, .ref m2, .ref m3, .long ka, .long kb, .ref m6, .ref m7, .ref m8, .ref m9, .ref m10, .ref m11, .ref m12, .ref m13, .ref m14, .ref m15, .ref m16])), (m3, .inl (cI, 1024, .inl gb_69))] H := hP
              have hD : va_D A [(m2, .inl (cI, 8, .inl (upd fp j_10 ((fp j_10) ||| (1 <<< ((nI j_2) &&& 31)))))), (mo, .inr (8, [.int (nI n), .ref m1, .ref m2, .ref m3, .long ka, .long kb, .ref m6, .ref m7, .ref m8, .ref m9, .ref m10, .ref m11, .ref m12, .ref m13, .ref m14, .ref m15, .ref m16])), (m3, .inl (cI, 1024, .inl gb_69))] := hD
              refine lv_iconst (v := 1) hx hb dX8_arrow_72 (by decide +kernel) ?_
              have hP9 := hP.sub (ws' := [(mo, .inr (8, [.int (nI n), .ref m1, .ref m2, .ref m3, .long ka, .long kb, .ref m6, .ref m7, .ref m8, .ref m9, .ref m10, .ref m11, .ref m12, .ref m13, .ref m14, .ref m15, .ref m16])), (m2, .inl (cI, 8, .inl (upd fp j_10 ((fp j_10) ||| (1 <<< ((nI j_2) &&& 31)))))), (m3, .inl (cI, 1024, .inl gb_69))]) [1, 0, 2] rfl
              have hD9 := hD.sub (ws' := [(mo, .inr (8, [.int (nI n), .ref m1, .ref m2, .ref m3, .long ka, .long kb, .ref m6, .ref m7, .ref m8, .ref m9, .ref m10, .ref m11, .ref m12, .ref m13, .ref m14, .ref m15, .ref m16])), (m2, .inl (cI, 8, .inl (upd fp j_10 ((fp j_10) ||| (1 <<< ((nI j_2) &&& 31)))))), (m3, .inl (cI, 1024, .inl gb_69))]) [1, 0, 2] (by decide) rfl
              refine W.widen (k := 0) (n := 0) (Nat.le_of_ble_eq_true rfl) (Nat.le_of_ble_eq_true rfl) ?_
              exact W.zret (v := 1) hx hb hr (mz_nz (by decide +kernel)) (fun t ht hW => ⟨⟨1, (), rfl, Or.inr rfl, (upd fp j_10 ((fp j_10) ||| (1 <<< ((nI j_2) &&& 31)))), gb_69, (by first | exact ha | exact mz_acy_add (by omega) hj_2 hj_10 (fun e => d_18 e) ha hw_42 c_50 (fun k hk hne2 => pk_un hne2) pk_us), by rw [ht]; exact hP9, hD9⟩, hS.F ht⟩) hS.2.2 dX8_arrow_73
            · skip
              refine lv_iconst (v := 0) hx hb dX8_arrow_53 (by decide +kernel) ?_
              have hP9 := hP.sub (ws' := [(mo, .inr (8, [.int (nI n), .ref m1, .ref m2, .ref m3, .long ka, .long kb, .ref m6, .ref m7, .ref m8, .ref m9, .ref m10, .ref m11, .ref m12, .ref m13, .ref m14, .ref m15, .ref m16])), (m2, .inl (cI, 8, .inl fp)), (m3, .inl (cI, 1024, .inl fb))]) [0, 1, 2] rfl
              have hD9 := hD.sub (ws' := [(mo, .inr (8, [.int (nI n), .ref m1, .ref m2, .ref m3, .long ka, .long kb, .ref m6, .ref m7, .ref m8, .ref m9, .ref m10, .ref m11, .ref m12, .ref m13, .ref m14, .ref m15, .ref m16])), (m2, .inl (cI, 8, .inl fp)), (m3, .inl (cI, 1024, .inl fb))]) [0, 1, 2] (by decide) rfl
              refine W.widen (k := 0) (n := 0) (Nat.le_of_ble_eq_true rfl) (Nat.le_of_ble_eq_true rfl) ?_
              exact W.zret (v := 0) hx hb hr (mz_nz (by decide +kernel)) (fun t ht hW => ⟨⟨0, (), rfl, Or.inl rfl, fp, fb, (by first | exact ha | exact mz_acy_add (by omega) hj_2 hj_10 (fun e => d_18 e) ha hw_42 c_50 (fun k hk hne2 => pk_un hne2) pk_us), by rw [ht]; exact hP9, hD9⟩, hS.F ht⟩) hS.2.2 dX8_arrow_54
    · skip
      refine lv_if_eq (tgt := 53) hx hb dX8_arrow_13 (by decide) (fun _ => ?_) (fun c_13 => absurd (by decide +kernel) c_13)
      refine lv_iconst (v := 0) hx hb dX8_arrow_53 (by decide +kernel) ?_
      have hP9 := hP.sub (ws' := [(mo, .inr (8, [.int (nI n), .ref m1, .ref m2, .ref m3, .long ka, .long kb, .ref m6, .ref m7, .ref m8, .ref m9, .ref m10, .ref m11, .ref m12, .ref m13, .ref m14, .ref m15, .ref m16])), (m2, .inl (cI, 8, .inl fp)), (m3, .inl (cI, 1024, .inl fb))]) [0, 1, 2] rfl
      have hD9 := hD.sub (ws' := [(mo, .inr (8, [.int (nI n), .ref m1, .ref m2, .ref m3, .long ka, .long kb, .ref m6, .ref m7, .ref m8, .ref m9, .ref m10, .ref m11, .ref m12, .ref m13, .ref m14, .ref m15, .ref m16])), (m2, .inl (cI, 8, .inl fp)), (m3, .inl (cI, 1024, .inl fb))]) [0, 1, 2] (by decide) rfl
      refine W.widen (k := 0) (n := 0) (Nat.le_of_ble_eq_true rfl) (Nat.le_of_ble_eq_true rfl) ?_
      exact W.zret (v := 0) hx hb hr (mz_nz (by decide +kernel)) (fun t ht hW => ⟨⟨0, (), rfl, Or.inl rfl, fp, fb, (by first | exact ha | exact mz_acy_add (by omega) hj_2 hj_10 (fun e => d_18 e) ha hw_42 c_50 (fun k hk hne2 => pk_un hne2) pk_us), by rw [ht]; exact hP9, hD9⟩, hS.F ht⟩) hS.2.2 dX8_arrow_54
  · skip
    refine lv_if_eq (tgt := 53) hx hb dX8_arrow_5 (by decide) (fun _ => ?_) (fun c_5 => absurd (by decide +kernel) c_5)
    refine lv_iconst (v := 0) hx hb dX8_arrow_53 (by decide +kernel) ?_
    have hP9 := hP.sub (ws' := [(mo, .inr (8, [.int (nI n), .ref m1, .ref m2, .ref m3, .long ka, .long kb, .ref m6, .ref m7, .ref m8, .ref m9, .ref m10, .ref m11, .ref m12, .ref m13, .ref m14, .ref m15, .ref m16])), (m2, .inl (cI, 8, .inl fp)), (m3, .inl (cI, 1024, .inl fb))]) [0, 1, 2] rfl
    have hD9 := hD.sub (ws' := [(mo, .inr (8, [.int (nI n), .ref m1, .ref m2, .ref m3, .long ka, .long kb, .ref m6, .ref m7, .ref m8, .ref m9, .ref m10, .ref m11, .ref m12, .ref m13, .ref m14, .ref m15, .ref m16])), (m2, .inl (cI, 8, .inl fp)), (m3, .inl (cI, 1024, .inl fb))]) [0, 1, 2] (by decide) rfl
    refine W.widen (k := 0) (n := 0) (Nat.le_of_ble_eq_true rfl) (Nat.le_of_ble_eq_true rfl) ?_
    exact W.zret (v := 0) hx hb hr (mz_nz (by decide +kernel)) (fun t ht hW => ⟨⟨0, (), rfl, Or.inl rfl, fp, fb, (by first | exact ha | exact mz_acy_add (by omega) hj_2 hj_10 (fun e => d_18 e) ha hw_42 c_50 (fun k hk hne2 => pk_un hne2) pk_us), by rw [ht]; exact hP9, hD9⟩, hS.F ht⟩) hS.2.2 dX8_arrow_54
set_option maxHeartbeats 1000000 in
set_option maxRecDepth 100000 in
theorem mz_m_cut (l : Launch) (dC : Nat → ClassId) (dI : Nat → Nat → Nat) (cI cJ cZ : ClassId) (mo : Nat) (m1 : Nat) (m2 : Nat) (m3 : Nat) (m6 : Nat) (m7 : Nat) (m8 : Nat) (m9 : Nat) (m10 : Nat) (m11 : Nat) (m12 : Nat) (m13 : Nat) (m14 : Nat) (m15 : Nat) (m16 : Nat) (n : Nat) (ka : Int64) (kb : Int64) (fp : Nat → Int32) (fb : Nat → Int32) (p1 : Int32) (p2 : Int32) (sz : Nat) (hn : n ≤ 8) (ha : mz_acy n fp) : Met l yX8_cut wsX8_cut ({ frames := 2, cells := 0, slots := 0, locals := 43 }) (va_Pc [.ref mo, .int p1, .int p2] (fun U => U.heap.size = sz ∧ va_P (dC, dI) vwCl [(mo, .inr (8, [.int (nI n), .ref m1, .ref m2, .ref m3, .long ka, .long kb, .ref m6, .ref m7, .ref m8, .ref m9, .ref m10, .ref m11, .ref m12, .ref m13, .ref m14, .ref m15, .ref m16])), (m2, .inl (cI, 8, .inl fp)), (m3, .inl (cI, 1024, .inl fb))] U.heap ∧ va_K (dC, dI) vwCl [(cI, FieldType.int), (cJ, FieldType.long), (cZ, FieldType.boolean)] U ∧ va_D (fun _ => True) [(mo, .inr (8, [.int (nI n), .ref m1, .ref m2, .ref m3, .long ka, .long kb, .ref m6, .ref m7, .ref m8, .ref m9, .ref m10, .ref m11, .ref m12, .ref m13, .ref m14, .ref m15, .ref m16])), (m2, .inl (cI, 8, .inl fp)), (m3, .inl (cI, 1024, .inl fb))] ∧ mz_N U)) (va_Qi (fun (r : Int32) (_ : Unit) => r = 0 ∨ r = 1) (fun _ t => ∃ (gp : Nat → Int32), ∃ (gb : Nat → Int32), (mz_acy n gp) ∧ va_P (dC, dI) vwCl [(mo, .inr (8, [.int (nI n), .ref m1, .ref m2, .ref m3, .long ka, .long kb, .ref m6, .ref m7, .ref m8, .ref m9, .ref m10, .ref m11, .ref m12, .ref m13, .ref m14, .ref m15, .ref m16])), (m2, .inl (cI, 8, .inl gp)), (m3, .inl (cI, 1024, .inl gb))] t.heap ∧ va_D (va_A [(mo, .inr (8, [.int (nI n), .ref m1, .ref m2, .ref m3, .long ka, .long kb, .ref m6, .ref m7, .ref m8, .ref m9, .ref m10, .ref m11, .ref m12, .ref m13, .ref m14, .ref m15, .ref m16])), (m2, .inl (cI, 8, .inl fp)), (m3, .inl (cI, 1024, .inl fb))] sz) [(mo, .inr (8, [.int (nI n), .ref m1, .ref m2, .ref m3, .long ka, .long kb, .ref m6, .ref m7, .ref m8, .ref m9, .ref m10, .ref m11, .ref m12, .ref m13, .ref m14, .ref m15, .ref m16])), (m2, .inl (cI, 8, .inl gp)), (m3, .inl (cI, 1024, .inl gb))]) (va_A [(mo, .inr (8, [.int (nI n), .ref m1, .ref m2, .ref m3, .long ka, .long kb, .ref m6, .ref m7, .ref m8, .ref m9, .ref m10, .ref m11, .ref m12, .ref m13, .ref m14, .ref m15, .ref m16])), (m2, .inl (cI, 8, .inl fp)), (m3, .inl (cI, 1024, .inl fb))] sz)) 0 0 (va_A [(mo, .inr (8, [.int (nI n), .ref m1, .ref m2, .ref m3, .long ka, .long kb, .ref m6, .ref m7, .ref m8, .ref m9, .ref m10, .ref m11, .ref m12, .ref m13, .ref m14, .ref m15, .ref m16])), (m2, .inl (cI, 8, .inl fp)), (m3, .inl (cI, 1024, .inl fb))] sz) := by
  refine Met.ofW (cc := cX8_cut) (maxL := 3) (ret := (some .boolean)) (by decide) rfl ?_
  intro p e s m args below meth c s₁ B hml hv
  obtain ⟨rfl, hsz, hP, hK, hD0, hN⟩ := hv
  subst hsz
  have hx := B.exec
  have hb := B.bytes
  have hr := B.returns
  have hts := atoms_spec (ws := wsX8_cut) B.pre
  have hown : s.vm.findClass RX8 = some m.cls := findClass_of_methodNamed B.named
  have hlocks := B.notSynchronized
  have hD := hD0.self (sz := s.heap.size)
  generalize hAe : va_A [(mo, .inr (8, [.int (nI n), .ref m1, .ref m2, .ref m3, .long ka, .long kb, .ref m6, .ref m7, .ref m8, .ref m9, .ref m10, .ref m11, .ref m12, .ref m13, .ref m14, .ref m15, .ref m16])), (m2, .inl (cI, 8, .inl fp)), (m3, .inl (cI, 1024, .inl fb))] s.heap.size = A at hD ⊢
  have hA : ∀ q : Nat, s.heap.size ≤ q → A q := fun q h => by rw [← hAe]; exact Or.inr h
  have hS : va_S A s.heap s.heap [] := va_S.rf
  have hiX8 : ∀ w ∈ u_ws RX8 TX8 17, w ∈ wsX8_cut := by decide +kernel
  have hl := lv_entry ([.ref mo, .int p1, .int p2]) (n := 3) (Nat.le_of_ble_eq_true rfl)
  rw [lg_entry_eq]
  generalize (lg_sl ([.ref mo, .int p1, .int p2]) ++ List.replicate (3 - (lg_sl ([.ref mo, .int p1, .int p2])).length) Slot.unset).toArray = ls at hl ⊢
  have hl : lv_has ls 3 [(0, .ref mo), (1, .int p1), (2, .int p2)] := hl
  refine lv_aload_n hx hb dX8_cut_0 rfl (lv_at hl 0 rfl) ?_
  refine lv_iload_n hx hb dX8_cut_1 rfl (lv_at hl 1 rfl) ?_
  refine lv_iload_n hx hb dX8_cut_2 rfl (lv_at hl 2 rfl) ?_
  have hPc := hP.sub (ws' := [(mo, .inr (8, [.int (nI n), .ref m1, .ref m2, .ref m3, .long ka, .long kb, .ref m6, .ref m7, .ref m8, .ref m9, .ref m10, .ref m11, .ref m12, .ref m13, .ref m14, .ref m15, .ref m16])), (m2, .inl (cI, 8, .inl fp))]) [0, 1] rfl
  refine va_calli (va_runV (As := [.int p1, .int p2]) (rest := []) ⟨hx, hb, hml, hown, hts⟩ (mz_m_has l dC dI cI cJ cZ mo m1 m2 m3 m6 m7 m8 m9 m10 m11 m12 m13 m14 m15 m16 n ka kb fp p1 p2 s.heap (by first | assumption | omega)) (cwV 2 hts gX8_cut_X8_has rfl rfl rfl (by decide +kernel) ⟨Nat.le_of_ble_eq_true rfl, Nat.le_of_ble_eq_true rfl⟩) ⟨fun a U g mk q => mz_blP q, va_recv hK hPc (ci := 8) (q0 := 0) rfl rfl, fun U hU hW => ⟨rfl, hU, hPc, va_K.moved hW.alike hK, mz_nw hW hN⟩⟩ rfl rfl hl.1 rfl (lv_room (Nat.le_of_ble_eq_true rfl)) dX8_cut_3 ⟨Nat.le_of_ble_eq_true rfl, Nat.le_of_ble_eq_true rfl⟩) hS (fun q _ h => h.elim) (fun q h => h.elim) (fun r_3 u t H1 locs ht hvm hw_3 hB hz1 hk1 hS => ?_)
  have hE : s.heap = H1 := hB.symm.trans ht
  subst hE
  rcases (show (r_3 = 1 ∧ ∃ i j : Nat, i < n ∧ j < n ∧ p1 = nI i ∧ p2 = nI j ∧ ((fp j) >>> (nI i &&& 31)) &&& 1 = 1) ∨ r_3 = 0 from hw_3) with ⟨rfl, i_3, j_3, hi_3, hj_3, he_3, hf_3, hb_3⟩ | rfl
  · skip
    subst he_3
    subst hf_3
    refine lv_if_ne (tgt := 11) hx hb dX8_cut_6 (by decide) (fun _ => ?_) (fun c_6 => absurd c_6 (by decide +kernel))
    refine lv_aload_n hx hb dX8_cut_11 rfl (lv_at hl 0 rfl) ?_
    refine va_get (D := (dC, dI)) (ci := 8) (v := .ref m2) (C := RX8) (T := TX8) (N := 17) hx hb hts hiX8 hown hK hP 0 rfl rfl 2 (by decide) (hts (.fieldLink RX8 13 "MadeItSoModel" "parents" "[I") (by decide +kernel)) (fun _ h9 => h9) rfl dX8_cut_12 ?_
    refine lv_iload_n hx hb dX8_cut_15 rfl (lv_at hl 2 rfl) ?_
    refine lv_dup2_11 hx hb dX8_cut_16 rfl rfl ?_
    refine va_iald hx hb hK hP 1 0 rfl rfl (vp_in_nI (by omega) (by omega)) dX8_cut_17 ?_
    refine mz_ti (y := (fp j_3)) (by rw [mz_cl (by omega)]) ?_
    refine lv_iconst (v := 1) hx hb dX8_cut_18 (by decide +kernel) ?_
    refine lv_iload_n hx hb dX8_cut_19 rfl (lv_at hl 1 rfl) ?_
    refine lv_ishl hx hb dX8_cut_20 ?_
    refine lv_iconst (v := (-1)) hx hb dX8_cut_21 (by decide +kernel) ?_
    refine lv_ixor hx hb dX8_cut_22 ?_
    refine lv_iand hx hb dX8_cut_23 ?_
    refine va_iast hx hb hK hP hD hS 1 0 rfl rfl (vp_in_nI (by omega) (by omega)) dX8_cut_24 (fun H locs hP hD hS => ?_)
    rw [mz_cl (n := j_3) (by omega)] at hP hD
    have hP : va_P (dC, dI) vwCl [(mo, .inr (8, [.int (nI n), .ref m1, .ref m2, .ref m3, .long ka, .long kb, .ref m6, .ref m7, .ref m8, .ref m9, .ref m10, .ref m11, .ref m12, .ref m13, .ref m14, .ref m15, .ref m16])), (m2, .inl (cI, 8, .inl (upd fp j_3 ((fp j_3) &&& ((1 <<< ((nI i_3) &&& 31)) ^^^ (-1)))))), (m3, .inl (cI, 1024, .inl fb))] H := hP
    have hD : va_D A [(mo, .inr (8, [.int (nI n), .ref m1, .ref m2, .ref m3, .long ka, .long kb, .ref m6, .ref m7, .ref m8, .ref m9, .ref m10, .ref m11, .ref m12, .ref m13, .ref m14, .ref m15, .ref m16])), (m2, .inl (cI, 8, .inl (upd fp j_3 ((fp j_3) &&& ((1 <<< ((nI i_3) &&& 31)) ^^^ (-1)))))), (m3, .inl (cI, 1024, .inl fb))] := hD
    refine lv_aload_n hx hb dX8_cut_25 rfl (lv_at hl 0 rfl) ?_
    refine lv_iload_n hx hb dX8_cut_26 rfl (lv_at hl 2 rfl) ?_
    have hPc := hP.sub (ws' := [(mo, .inr (8, [.int (nI n), .ref m1, .ref m2, .ref m3, .long ka, .long kb, .ref m6, .ref m7, .ref m8, .ref m9, .ref m10, .ref m11, .ref m12, .ref m13, .ref m14, .ref m15, .ref m16])), (m3, .inl (cI, 1024, .inl fb))]) [0, 2] rfl
    have hDc := hD.sub (ws' := [(mo, .inr (8, [.int (nI n), .ref m1, .ref m2, .ref m3, .long ka, .long kb, .ref m6, .ref m7, .ref m8, .ref m9, .ref m10, .ref m11, .ref m12, .ref m13, .ref m14, .ref m15, .ref m16])), (m3, .inl (cI, 1024, .inl fb))]) [0, 2] (by decide) rfl
    have hFc := va_free (wc := [(mo, .inr (8, [.int (nI n), .ref m1, .ref m2, .ref m3, .long ka, .long kb, .ref m6, .ref m7, .ref m8, .ref m9, .ref m10, .ref m11, .ref m12, .ref m13, .ref m14, .ref m15, .ref m16])), (m3, .inl (cI, 1024, .inl fb))]) hD hS hA [0, 2] rfl
    refine va_callv (va_runV (As := [.int (nI j_3)]) (rest := []) ⟨hx, hb, hml, hown, hts⟩ (mz_m_fresh l dC dI cI cJ cZ mo m1 m2 m3 m6 m7 m8 m9 m10 m11 m12 m13 m14 m15 m16 n ka kb fb j_3 H.size (by first | assumption | omega)) (cwV 1 hts gX8_cut_X8_fresh rfl rfl rfl (by decide +kernel) ⟨Nat.le_of_ble_eq_true rfl, Nat.le_of_ble_eq_true rfl⟩) ⟨fun a U g mk q => mz_blI q, va_recv hK hPc (ci := 8) (q0 := 0) rfl rfl, fun U hU hW => ⟨rfl, by rw [hU], by rw [hU]; exact hPc, va_K.moved hW.alike hK, hDc.weaken (fun _ _ _ _ => trivial), mz_nw hW hN⟩⟩ rfl rfl hl.1 rfl (lv_room (Nat.le_of_ble_eq_true rfl)) dX8_cut_27 ⟨Nat.le_of_ble_eq_true rfl, Nat.le_of_ble_eq_true rfl⟩) hS (fun q _ h => hFc q h) hFc (fun u t H1 locs ht hvm hw_27 hB hz1 hk1 hS => ?_)
    obtain ⟨gb_27, hP1, hD1⟩ := hB
    rw [ht] at hP1
    obtain ⟨hP, hD⟩ := va_join (wr := [(m2, .inl (cI, 8, .inl (upd fp j_3 ((fp j_3) &&& ((1 <<< ((nI i_3) &&& 31)) ^^^ (-1))))))]) (w1 := [(mo, .inr (8, [.int (nI n), .ref m1, .ref m2, .ref m3, .long ka, .long kb, .ref m6, .ref m7, .ref m8, .ref m9, .ref m10, .ref m11, .ref m12, .ref m13, .ref m14, .ref m15, .ref m16])), (m3, .inl (cI, 1024, .inl gb_27))]) hP hD [0, 2] [1] rfl rfl (by decide) (by decide) hk1 hFc hP1 hD1
    generalize H1 = H at hP hS ⊢
    have hP : va_P (dC, dI) vwCl [(m2, .inl (cI, 8, .inl (upd fp j_3 ((fp j_3) &&& ((1 <<< ((nI i_3) &&& 31)) ^^^ (-1)))))), (mo, .inr (8, [.int (nI n), .ref m1, .ref m2, .ref m3, .long ka, .long kb, .ref m6, .ref m7, .ref m8, .ref m9, .ref m10, .ref m11, .ref m12, .ref m13, .ref m14, .ref m15, .ref m16])), (m3, .inl (cI, 1024, .inl gb_27))] H := hP
    have hD : va_D A [(m2, .inl (cI, 8, .inl (upd fp j_3 ((fp j_3) &&& ((1 <<< ((nI i_3) &&& 31)) ^^^ (-1)))))), (mo, .inr (8, [.int (nI n), .ref m1, .ref m2, .ref m3, .long ka, .long kb, .ref m6, .ref m7, .ref m8, .ref m9, .ref m10, .ref m11, .ref m12, .ref m13, .ref m14, .ref m15, .ref m16])), (m3, .inl (cI, 1024, .inl gb_27))] := hD
    refine lv_iconst (v := 1) hx hb dX8_cut_30 (by decide +kernel) ?_
    have hP9 := hP.sub (ws' := [(mo, .inr (8, [.int (nI n), .ref m1, .ref m2, .ref m3, .long ka, .long kb, .ref m6, .ref m7, .ref m8, .ref m9, .ref m10, .ref m11, .ref m12, .ref m13, .ref m14, .ref m15, .ref m16])), (m2, .inl (cI, 8, .inl (upd fp j_3 ((fp j_3) &&& ((1 <<< ((nI i_3) &&& 31)) ^^^ (-1)))))), (m3, .inl (cI, 1024, .inl gb_27))]) [1, 0, 2] rfl
    have hD9 := hD.sub (ws' := [(mo, .inr (8, [.int (nI n), .ref m1, .ref m2, .ref m3, .long ka, .long kb, .ref m6, .ref m7, .ref m8, .ref m9, .ref m10, .ref m11, .ref m12, .ref m13, .ref m14, .ref m15, .ref m16])), (m2, .inl (cI, 8, .inl (upd fp j_3 ((fp j_3) &&& ((1 <<< ((nI i_3) &&& 31)) ^^^ (-1)))))), (m3, .inl (cI, 1024, .inl gb_27))]) [1, 0, 2] (by decide) rfl
    refine W.widen (k := 0) (n := 0) (Nat.le_of_ble_eq_true rfl) (Nat.le_of_ble_eq_true rfl) ?_
    exact W.zret (v := 1) hx hb hr (mz_nz (by decide +kernel)) (fun t ht hW => ⟨⟨1, (), rfl, Or.inr rfl, (upd fp j_3 ((fp j_3) &&& ((1 <<< ((nI i_3) &&& 31)) ^^^ (-1)))), gb_27, (by first | exact ha | exact mz_cut ha), by rw [ht]; exact hP9, hD9⟩, hS.F ht⟩) hS.2.2 dX8_cut_31
  · skip
    refine lv_if_ne (tgt := 11) hx hb dX8_cut_6 (by decide) (fun c_6 => absurd (by decide +kernel) c_6) (fun _ => ?_)
    refine lv_iconst (v := 0) hx hb dX8_cut_9 (by decide +kernel) ?_
    have hP9 := hP.sub (ws' := [(mo, .inr (8, [.int (nI n), .ref m1, .ref m2, .ref m3, .long ka, .long kb, .ref m6, .ref m7, .ref m8, .ref m9, .ref m10, .ref m11, .ref m12, .ref m13, .ref m14, .ref m15, .ref m16])), (m2, .inl (cI, 8, .inl fp)), (m3, .inl (cI, 1024, .inl fb))]) [0, 1, 2] rfl
    have hD9 := hD.sub (ws' := [(mo, .inr (8, [.int (nI n), .ref m1, .ref m2, .ref m3, .long ka, .long kb, .ref m6, .ref m7, .ref m8, .ref m9, .ref m10, .ref m11, .ref m12, .ref m13, .ref m14, .ref m15, .ref m16])), (m2, .inl (cI, 8, .inl fp)), (m3, .inl (cI, 1024, .inl fb))]) [0, 1, 2] (by decide) rfl
    refine W.widen (k := 0) (n := 0) (Nat.le_of_ble_eq_true rfl) (Nat.le_of_ble_eq_true rfl) ?_
    exact W.zret (v := 0) hx hb hr (mz_nz (by decide +kernel)) (fun t ht hW => ⟨⟨0, (), rfl, Or.inl rfl, fp, fb, (by first | exact ha | exact mz_cut ha), by rw [ht]; exact hP9, hD9⟩, hS.F ht⟩) hS.2.2 dX8_cut_10
set_option maxHeartbeats 1000000 in
set_option maxRecDepth 100000 in
theorem mz_m_turn (l : Launch) (dC : Nat → ClassId) (dI : Nat → Nat → Nat) (cI cJ cZ : ClassId) (mo : Nat) (m1 : Nat) (m2 : Nat) (m3 : Nat) (m6 : Nat) (m7 : Nat) (m8 : Nat) (m9 : Nat) (m10 : Nat) (m11 : Nat) (m12 : Nat) (m13 : Nat) (m14 : Nat) (m15 : Nat) (m16 : Nat) (n : Nat) (ka : Int64) (kb : Int64) (fp : Nat → Int32) (fb : Nat → Int32) (p1 : Int32) (p2 : Int32) (sz : Nat) (hn : n ≤ 8) (ha : mz_acy n fp) : Met l yX8_turn wsX8_turn ({ frames := 2, cells := 0, slots := 0, locals := 50 }) (va_Pc [.ref mo, .int p1, .int p2] (fun U => U.heap.size = sz ∧ va_P (dC, dI) vwCl [(mo, .inr (8, [.int (nI n), .ref m1, .ref m2, .ref m3, .long ka, .long kb, .ref m6, .ref m7, .ref m8, .ref m9, .ref m10, .ref m11, .ref m12, .ref m13, .ref m14, .ref m15, .ref m16])), (m2, .inl (cI, 8, .inl fp)), (m3, .inl (cI, 1024, .inl fb))] U.heap ∧ va_K (dC, dI) vwCl [(cI, FieldType.int), (cJ, FieldType.long), (cZ, FieldType.boolean)] U ∧ va_D (fun _ => True) [(mo, .inr (8, [.int (nI n), .ref m1, .ref m2, .ref m3, .long ka, .long kb, .ref m6, .ref m7, .ref m8, .ref m9, .ref m10, .ref m11, .ref m12, .ref m13, .ref m14, .ref m15, .ref m16])), (m2, .inl (cI, 8, .inl fp)), (m3, .inl (cI, 1024, .inl fb))] ∧ mz_N U)) (va_Qi (fun (r : Int32) (_ : Unit) => r = 0 ∨ r = 1) (fun _ t => ∃ (gp : Nat → Int32), ∃ (gb : Nat → Int32), (mz_acy n gp) ∧ va_P (dC, dI) vwCl [(mo, .inr (8, [.int (nI n), .ref m1, .ref m2, .ref m3, .long ka, .long kb, .ref m6, .ref m7, .ref m8, .ref m9, .ref m10, .ref m11, .ref m12, .ref m13, .ref m14, .ref m15, .ref m16])), (m2, .inl (cI, 8, .inl gp)), (m3, .inl (cI, 1024, .inl gb))] t.heap ∧ va_D (va_A [(mo, .inr (8, [.int (nI n), .ref m1, .ref m2, .ref m3, .long ka, .long kb, .ref m6, .ref m7, .ref m8, .ref m9, .ref m10, .ref m11, .ref m12, .ref m13, .ref m14, .ref m15, .ref m16])), (m2, .inl (cI, 8, .inl fp)), (m3, .inl (cI, 1024, .inl fb))] sz) [(mo, .inr (8, [.int (nI n), .ref m1, .ref m2, .ref m3, .long ka, .long kb, .ref m6, .ref m7, .ref m8, .ref m9, .ref m10, .ref m11, .ref m12, .ref m13, .ref m14, .ref m15, .ref m16])), (m2, .inl (cI, 8, .inl gp)), (m3, .inl (cI, 1024, .inl gb))]) (va_A [(mo, .inr (8, [.int (nI n), .ref m1, .ref m2, .ref m3, .long ka, .long kb, .ref m6, .ref m7, .ref m8, .ref m9, .ref m10, .ref m11, .ref m12, .ref m13, .ref m14, .ref m15, .ref m16])), (m2, .inl (cI, 8, .inl fp)), (m3, .inl (cI, 1024, .inl fb))] sz)) 0 0 (va_A [(mo, .inr (8, [.int (nI n), .ref m1, .ref m2, .ref m3, .long ka, .long kb, .ref m6, .ref m7, .ref m8, .ref m9, .ref m10, .ref m11, .ref m12, .ref m13, .ref m14, .ref m15, .ref m16])), (m2, .inl (cI, 8, .inl fp)), (m3, .inl (cI, 1024, .inl fb))] sz) := by
  refine Met.ofW (cc := cX8_turn) (maxL := 4) (ret := (some .boolean)) (by decide) rfl ?_
  intro p e s m args below meth c s₁ B hml hv
  obtain ⟨rfl, hsz, hP, hK, hD0, hN⟩ := hv
  subst hsz
  have hx := B.exec
  have hb := B.bytes
  have hr := B.returns
  have hts := atoms_spec (ws := wsX8_turn) B.pre
  have hown : s.vm.findClass RX8 = some m.cls := findClass_of_methodNamed B.named
  have hlocks := B.notSynchronized
  have hD := hD0.self (sz := s.heap.size)
  generalize hAe : va_A [(mo, .inr (8, [.int (nI n), .ref m1, .ref m2, .ref m3, .long ka, .long kb, .ref m6, .ref m7, .ref m8, .ref m9, .ref m10, .ref m11, .ref m12, .ref m13, .ref m14, .ref m15, .ref m16])), (m2, .inl (cI, 8, .inl fp)), (m3, .inl (cI, 1024, .inl fb))] s.heap.size = A at hD ⊢
  have hA : ∀ q : Nat, s.heap.size ≤ q → A q := fun q h => by rw [← hAe]; exact Or.inr h
  have hS : va_S A s.heap s.heap [] := va_S.rf
  have hiX8 : ∀ w ∈ u_ws RX8 TX8 17, w ∈ wsX8_turn := by decide +kernel
  have hl := lv_entry ([.ref mo, .int p1, .int p2]) (n := 4) (Nat.le_of_ble_eq_true rfl)
  rw [lg_entry_eq]
  generalize (lg_sl ([.ref mo, .int p1, .int p2]) ++ List.replicate (4 - (lg_sl ([.ref mo, .int p1, .int p2])).length) Slot.unset).toArray = ls at hl ⊢
  have hl : lv_has ls 4 [(0, .ref mo), (1, .int p1), (2, .int p2)] := hl
  refine lv_aload_n hx hb dX8_turn_0 rfl (lv_at hl 0 rfl) ?_
  refine lv_iload_n hx hb dX8_turn_1 rfl (lv_at hl 1 rfl) ?_
  refine lv_iload_n hx hb dX8_turn_2 rfl (lv_at hl 2 rfl) ?_
  have hPc := hP.sub (ws' := [(mo, .inr (8, [.int (nI n), .ref m1, .ref m2, .ref m3, .long ka, .long kb, .ref m6, .ref m7, .ref m8, .ref m9, .ref m10, .ref m11, .ref m12, .ref m13, .ref m14, .ref m15, .ref m16])), (m2, .inl (cI, 8, .inl fp))]) [0, 1] rfl
  refine va_calli (va_runV (As := [.int p1, .int p2]) (rest := []) ⟨hx, hb, hml, hown, hts⟩ (mz_m_has l dC dI cI cJ cZ mo m1 m2 m3 m6 m7 m8 m9 m10 m11 m12 m13 m14 m15 m16 n ka kb fp p1 p2 s.heap (by first | assumption | omega)) (cwV 2 hts gX8_turn_X8_has rfl rfl rfl (by decide +kernel) ⟨Nat.le_of_ble_eq_true rfl, Nat.le_of_ble_eq_true rfl⟩) ⟨fun a U g mk q => mz_blP q, va_recv hK hPc (ci := 8) (q0 := 0) rfl rfl, fun U hU hW => ⟨rfl, hU, hPc, va_K.moved hW.alike hK, mz_nw hW hN⟩⟩ rfl rfl hl.1 rfl (lv_room (Nat.le_of_ble_eq_true rfl)) dX8_turn_3 ⟨Nat.le_of_ble_eq_true rfl, Nat.le_of_ble_eq_true rfl⟩) hS (fun q _ h => h.elim) (fun q h => h.elim) (fun r_3 u t H1 locs ht hvm hw_3 hB hz1 hk1 hS => ?_)
  have hE : s.heap = H1 := hB.symm.trans ht
  subst hE
  rcases (show (r_3 = 1 ∧ ∃ i j : Nat, i < n ∧ j < n ∧ p1 = nI i ∧ p2 = nI j ∧ ((fp j) >>> (nI i &&& 31)) &&& 1 = 1) ∨ r_3 = 0 from hw_3) with ⟨rfl, i_3, j_3, hi_3, hj_3, he_3, hf_3, hb_3⟩ | rfl
  · skip
    subst he_3
    subst hf_3
    refine lv_if_ne (tgt := 11) hx hb dX8_turn_6 (by decide) (fun _ => ?_) (fun c_6 => absurd c_6 (by decide +kernel))
    refine lv_aload_n hx hb dX8_turn_11 rfl (lv_at hl 0 rfl) ?_
    refine va_get (D := (dC, dI)) (ci := 8) (v := .ref m2) (C := RX8) (T := TX8) (N := 17) hx hb hts hiX8 hown hK hP 0 rfl rfl 2 (by decide) (hts (.fieldLink RX8 13 "MadeItSoModel" "parents" "[I") (by decide +kernel)) (fun _ h9 => h9) rfl dX8_turn_12 ?_
    refine lv_iload_n hx hb dX8_turn_15 rfl (lv_at hl 2 rfl) ?_
    refine lv_dup2_11 hx hb dX8_turn_16 rfl rfl ?_
    refine va_iald hx hb hK hP 1 0 rfl rfl (vp_in_nI (by omega) (by omega)) dX8_turn_17 ?_
    refine mz_ti (y := (fp j_3)) (by rw [mz_cl (by omega)]) ?_
    refine lv_iconst (v := 1) hx hb dX8_turn_18 (by decide +kernel) ?_
    refine lv_iload_n hx hb dX8_turn_19 rfl (lv_at hl 1 rfl) ?_
    refine lv_ishl hx hb dX8_turn_20 ?_
    refine lv_iconst (v := (-1)) hx hb dX8_turn_21 (by decide +kernel) ?_
    refine lv_ixor hx hb dX8_turn_22 ?_
    refine lv_iand hx hb dX8_turn_23 ?_
    refine va_iast hx hb hK hP hD hS 1 0 rfl rfl (vp_in_nI (by omega) (by omega)) dX8_turn_24 (fun H locs hP hD hS => ?_)
    rw [mz_cl (n := j_3) (by omega)] at hP hD
    have hP : va_P (dC, dI) vwCl [(mo, .inr (8, [.int (nI n), .ref m1, .ref m2, .ref m3, .long ka, .long kb, .ref m6, .ref m7, .ref m8, .ref m9, .ref m10, .ref m11, .ref m12, .ref m13, .ref m14, .ref m15, .ref m16])), (m2, .inl (cI, 8, .inl (upd fp j_3 ((fp j_3) &&& ((1 <<< ((nI i_3) &&& 31)) ^^^ (-1)))))), (m3, .inl (cI, 1024, .inl fb))] H := hP
    have hD : va_D A [(mo, .inr (8, [.int (nI n), .ref m1, .ref m2, .ref m3, .long ka, .long kb, .ref m6, .ref m7, .ref m8, .ref m9, .ref m10, .ref m11, .ref m12, .ref m13, .ref m14, .ref m15, .ref m16])), (m2, .inl (cI, 8, .inl (upd fp j_3 ((fp j_3) &&& ((1 <<< ((nI i_3) &&& 31)) ^^^ (-1)))))), (m3, .inl (cI, 1024, .inl fb))] := hD
    refine lv_aload_n hx hb dX8_turn_25 rfl (lv_at hl 0 rfl) ?_
    refine lv_iload_n hx hb dX8_turn_26 rfl (lv_at hl 1 rfl) ?_
    refine lv_iconst (v := 0) hx hb dX8_turn_27 (by decide +kernel) ?_
    have hPc := hP.sub (ws' := [(mo, .inr (8, [.int (nI n), .ref m1, .ref m2, .ref m3, .long ka, .long kb, .ref m6, .ref m7, .ref m8, .ref m9, .ref m10, .ref m11, .ref m12, .ref m13, .ref m14, .ref m15, .ref m16])), (m2, .inl (cI, 8, .inl (upd fp j_3 ((fp j_3) &&& ((1 <<< ((nI i_3) &&& 31)) ^^^ (-1))))))]) [0, 1] rfl
    refine va_calli (va_runV (As := [.int (nI i_3), .int 0]) (rest := []) ⟨hx, hb, hml, hown, hts⟩ (mz_m_belowOf l dC dI cI cJ cZ mo m1 m2 m3 m6 m7 m8 m9 m10 m11 m12 m13 m14 m15 m16 n ka kb (upd fp j_3 ((fp j_3) &&& ((1 <<< ((nI i_3) &&& 31)) ^^^ (-1)))) (nI i_3) H (by first | assumption | omega)) (cwV 2 hts gX8_turn_X8_belowOf rfl rfl rfl (by decide +kernel) ⟨Nat.le_of_ble_eq_true rfl, Nat.le_of_ble_eq_true rfl⟩) ⟨fun a U g mk q => mz_blP q, va_recv hK hPc (ci := 8) (q0 := 0) rfl rfl, fun U hU hW => ⟨rfl, hU, hPc, va_K.moved hW.alike hK, mz_nw hW hN⟩⟩ rfl rfl hl.1 rfl (lv_room (Nat.le_of_ble_eq_true rfl)) dX8_turn_28 ⟨Nat.le_of_ble_eq_true rfl, Nat.le_of_ble_eq_true rfl⟩) hS (fun q _ h => h.elim) (fun q h => h.elim) (fun r_28 u t H1 locs ht hvm hw_28 hB hz1 hk1 hS => ?_)
    have hE : H = H1 := hB.symm.trans ht
    subst hE
    refine lv_iload_n hx hb dX8_turn_31 rfl (lv_at hl 2 rfl) ?_
    refine lv_ishr hx hb dX8_turn_32 ?_
    refine lv_iconst (v := 1) hx hb dX8_turn_33 (by decide +kernel) ?_
    refine lv_iand hx hb dX8_turn_34 ?_
    refine lv_iconst (v := 1) hx hb dX8_turn_35 (by decide +kernel) ?_
    refine lv_icmp_ne (tgt := 43) hx hb dX8_turn_36 (by decide) (fun c_36 => ?_) (fun c_36 => ?_)
    · skip
      refine lv_iconst (v := 0) hx hb dX8_turn_43 (by decide +kernel) ?_
      refine lv_istore_n (lv' := [(3, .int 0), (0, .ref mo), (1, .int (nI i_3)), (2, .int (nI j_3))]) hx hb dX8_turn_44 rfl hl (by decide) rfl (fun ls hl => ?_)
      refine lv_iload_n hx hb dX8_turn_45 rfl (lv_at hl 0 rfl) ?_
      refine lv_if_eq (tgt := 63) hx hb dX8_turn_46 (by decide) (fun _ => ?_) (fun c_46 => absurd (by decide +kernel) c_46)
      refine lv_aload_n hx hb dX8_turn_63 rfl (lv_at hl 1 rfl) ?_
      refine va_get (D := (dC, dI)) (ci := 8) (v := .ref m2) (C := RX8) (T := TX8) (N := 17) hx hb hts hiX8 hown hK hP 0 rfl rfl 2 (by decide) (hts (.fieldLink RX8 13 "MadeItSoModel" "parents" "[I") (by decide +kernel)) (fun _ h9 => h9) rfl dX8_turn_64 ?_
      refine lv_iload_n hx hb dX8_turn_67 rfl (lv_at hl 2 rfl) ?_
      refine lv_dup2_11 hx hb dX8_turn_68 rfl rfl ?_
      refine va_iald hx hb hK hP 1 0 rfl rfl (vp_in_nI (by omega) (by omega)) dX8_turn_69 ?_
      refine mz_ti (y := ((upd fp j_3 ((fp j_3) &&& ((1 <<< ((nI i_3) &&& 31)) ^^^ (-1)))) i_3)) (by rw [mz_cl (by omega)]) ?_
      refine lv_iconst (v := 1) hx hb dX8_turn_70 (by decide +kernel) ?_
      refine lv_iload_n hx hb dX8_turn_71 rfl (lv_at hl 3 rfl) ?_
      refine lv_ishl hx hb dX8_turn_72 ?_
      refine lv_ior hx hb dX8_turn_73 ?_
      refine va_iast hx hb hK hP hD hS 1 0 rfl rfl (vp_in_nI (by omega) (by omega)) dX8_turn_74 (fun H locs hP hD hS => ?_)
      rw [mz_cl (n := i_3) (by omega)] at hP hD
      have hP : va_P (dC, dI) vwCl [(mo, .inr (8, [.int (nI n), .ref m1, .ref m2, .ref m3, .long ka, .long kb, .ref m6, .ref m7, .ref m8, .ref m9, .ref m10, .ref m11, .ref m12, .ref m13, .ref m14, .ref m15, .ref m16])), (m2, .inl (cI, 8, .inl (upd (upd fp j_3 ((fp j_3) &&& ((1 <<< ((nI i_3) &&& 31)) ^^^ (-1)))) i_3 (((upd fp j_3 ((fp j_3) &&& ((1 <<< ((nI i_3) &&& 31)) ^^^ (-1)))) i_3) ||| (1 <<< ((nI j_3) &&& 31)))))), (m3, .inl (cI, 1024, .inl fb))] H := hP
      have hD : va_D A [(mo, .inr (8, [.int (nI n), .ref m1, .ref m2, .ref m3, .long ka, .long kb, .ref m6, .ref m7, .ref m8, .ref m9, .ref m10, .ref m11, .ref m12, .ref m13, .ref m14, .ref m15, .ref m16])), (m2, .inl (cI, 8, .inl (upd (upd fp j_3 ((fp j_3) &&& ((1 <<< ((nI i_3) &&& 31)) ^^^ (-1)))) i_3 (((upd fp j_3 ((fp j_3) &&& ((1 <<< ((nI i_3) &&& 31)) ^^^ (-1)))) i_3) ||| (1 <<< ((nI j_3) &&& 31)))))), (m3, .inl (cI, 1024, .inl fb))] := hD
      refine lv_aload_n hx hb dX8_turn_75 rfl (lv_at hl 1 rfl) ?_
      refine lv_iload_n hx hb dX8_turn_76 rfl (lv_at hl 3 rfl) ?_
      have hPc := hP.sub (ws' := [(mo, .inr (8, [.int (nI n), .ref m1, .ref m2, .ref m3, .long ka, .long kb, .ref m6, .ref m7, .ref m8, .ref m9, .ref m10, .ref m11, .ref m12, .ref m13, .ref m14, .ref m15, .ref m16])), (m3, .inl (cI, 1024, .inl fb))]) [0, 2] rfl
      have hDc := hD.sub (ws' := [(mo, .inr (8, [.int (nI n), .ref m1, .ref m2, .ref m3, .long ka, .long kb, .ref m6, .ref m7, .ref m8, .ref m9, .ref m10, .ref m11, .ref m12, .ref m13, .ref m14, .ref m15, .ref m16])), (m3, .inl (cI, 1024, .inl fb))]) [0, 2] (by decide) rfl
      have hFc := va_free (wc := [(mo, .inr (8, [.int (nI n), .ref m1, .ref m2, .ref m3, .long ka, .long kb, .ref m6, .ref m7, .ref m8, .ref m9, .ref m10, .ref m11, .ref m12, .ref m13, .ref m14, .ref m15, .ref m16])), (m3, .inl (cI, 1024, .inl fb))]) hD hS hA [0, 2] rfl
      refine va_callv (va_runV (As := [.int (nI j_3)]) (rest := []) ⟨hx, hb, hml, hown, hts⟩ (mz_m_fresh l dC dI cI cJ cZ mo m1 m2 m3 m6 m7 m8 m9 m10 m11 m12 m13 m14 m15 m16 n ka kb fb j_3 H.size (by first | assumption | omega)) (cwV 1 hts gX8_turn_X8_fresh rfl rfl rfl (by decide +kernel) ⟨Nat.le_of_ble_eq_true rfl, Nat.le_of_ble_eq_true rfl⟩) ⟨fun a U g mk q => mz_blI q, va_recv hK hPc (ci := 8) (q0 := 0) rfl rfl, fun U hU hW => ⟨rfl, by rw [hU], by rw [hU]; exact hPc, va_K.moved hW.alike hK, hDc.weaken (fun _ _ _ _ => trivial), mz_nw hW hN⟩⟩ rfl rfl hl.1 rfl (lv_room (Nat.le_of_ble_eq_true rfl)) dX8_turn_77 ⟨Nat.le_of_ble_eq_true rfl, Nat.le_of_ble_eq_true rfl⟩) hS (fun q _ h => hFc q h) hFc (fun u t H1 locs ht hvm hw_77 hB hz1 hk1 hS => ?_)
      obtain ⟨gb_77, hP1, hD1⟩ := hB
      rw [ht] at hP1
      obtain ⟨hP, hD⟩ := va_join (wr := [(m2, .inl (cI, 8, .inl (upd (upd fp j_3 ((fp j_3) &&& ((1 <<< ((nI i_3) &&& 31)) ^^^ (-1)))) i_3 (((upd fp j_3 ((fp j_3) &&& ((1 <<< ((nI i_3) &&& 31)) ^^^ (-1)))) i_3) ||| (1 <<< ((nI j_3) &&& 31))))))]) (w1 := [(mo, .inr (8, [.int (nI n), .ref m1, .ref m2, .ref m3, .long ka, .long kb, .ref m6, .ref m7, .ref m8, .ref m9, .ref m10, .ref m11, .ref m12, .ref m13, .ref m14, .ref m15, .ref m16])), (m3, .inl (cI, 1024, .inl gb_77))]) hP hD [0, 2] [1] rfl rfl (by decide) (by decide) hk1 hFc hP1 hD1
      generalize H1 = H at hP hS ⊢
      have hP : va_P (dC, dI) vwCl [(m2, .inl (cI, 8, .inl (upd (upd fp j_3 ((fp j_3) &&& ((1 <<< ((nI i_3) &&& 31)) ^^^ (-1)))) i_3 (((upd fp j_3 ((fp j_3) &&& ((1 <<< ((nI i_3) &&& 31)) ^^^ (-1)))) i_3) ||| (1 <<< ((nI j_3) &&& 31)))))), (mo, .inr (8, [.int (nI n), .ref m1, .ref m2, .ref m3, .long ka, .long kb, .ref m6, .ref m7, .ref m8, .ref m9, .ref m10, .ref m11, .ref m12, .ref m13, .ref m14, .ref m15, .ref m16])), (m3, .inl (cI, 1024, .inl gb_77))] H := hP
      have hD : va_D A [(m2, .inl (cI, 8, .inl (upd (upd fp j_3 ((fp j_3) &&& ((1 <<< ((nI i_3) &&& 31)) ^^^ (-1)))) i_3 (((upd fp j_3 ((fp j_3) &&& ((1 <<< ((nI i_3) &&& 31)) ^^^ (-1)))) i_3) ||| (1 <<< ((nI j_3) &&& 31)))))), (mo, .inr (8, [.int (nI n), .ref m1, .ref m2, .ref m3, .long ka, .long kb, .ref m6, .ref m7, .ref m8, .ref m9, .ref m10, .ref m11, .ref m12, .ref m13, .ref m14, .ref m15, .ref m16])), (m3, .inl (cI, 1024, .inl gb_77))] := hD
      refine lv_aload_n hx hb dX8_turn_80 rfl (lv_at hl 1 rfl) ?_
      refine lv_iload_n hx hb dX8_turn_81 rfl (lv_at hl 2 rfl) ?_
      have hPc := hP.sub (ws' := [(mo, .inr (8, [.int (nI n), .ref m1, .ref m2, .ref m3, .long ka, .long kb, .ref m6, .ref m7, .ref m8, .ref m9, .ref m10, .ref m11, .ref m12, .ref m13, .ref m14, .ref m15, .ref m16])), (m3, .inl (cI, 1024, .inl gb_77))]) [1, 2] rfl
      have hDc := hD.sub (ws' := [(mo, .inr (8, [.int (nI n), .ref m1, .ref m2, .ref m3, .long ka, .long kb, .ref m6, .ref m7, .ref m8, .ref m9, .ref m10, .ref m11, .ref m12, .ref m13, .ref m14, .ref m15, .ref m16])), (m3, .inl (cI, 1024, .inl gb_77))]) [1, 2] (by decide) rfl
      have hFc := va_free (wc := [(mo, .inr (8, [.int (nI n), .ref m1, .ref m2, .ref m3, .long ka, .long kb, .ref m6, .ref m7, .ref m8, .ref m9, .ref m10, .ref m11, .ref m12, .ref m13, .ref m14, .ref m15, .ref m16])), (m3, .inl (cI, 1024, .inl gb_77))]) hD hS hA [1, 2] rfl
      refine va_callv (va_runV (As := [.int (nI i_3)]) (rest := []) ⟨hx, hb, hml, hown, hts⟩ (mz_m_fresh l dC dI cI cJ cZ mo m1 m2 m3 m6 m7 m8 m9 m10 m11 m12 m13 m14 m15 m16 n ka kb gb_77 i_3 H.size (by first | assumption | omega)) (cwV 1 hts gX8_turn_X8_fresh rfl rfl rfl (by decide +kernel) ⟨Nat.le_of_ble_eq_true rfl, Nat.le_of_ble_eq_true rfl⟩) ⟨fun a U g mk q => mz_blI q, va_recv hK hPc (ci := 8) (q0 := 0) rfl rfl, fun U hU hW => ⟨rfl, by rw [hU], by rw [hU]; exact hPc, va_K.moved hW.alike hK, hDc.weaken (fun _ _ _ _ => trivial), mz_nw hW hN⟩⟩ rfl rfl hl.1 rfl (lv_room (Nat.le_of_ble_eq_true rfl)) dX8_turn_82 ⟨Nat.le_of_ble_eq_true rfl, Nat.le_of_ble_eq_true rfl⟩) hS (fun q _ h => hFc q h) hFc (fun u t H1 locs ht hvm hw_82 hB hz1 hk1 hS => ?_)
      obtain ⟨gb_82, hP1, hD1⟩ := hB
      rw [ht] at hP1
      obtain ⟨hP, hD⟩ := va_join (wr := [(m2, .inl (cI, 8, .inl (upd (upd fp j_3 ((fp j_3) &&& ((1 <<< ((nI i_3) &&& 31)) ^^^ (-1)))) i_3 (((upd fp j_3 ((fp j_3) &&& ((1 <<< ((nI i_3) &&& 31)) ^^^ (-1)))) i_3) ||| (1 <<< ((nI j_3) &&& 31))))))]) (w1 := [(mo, .inr (8, [.int (nI n), .ref m1, .ref m2, .ref m3, .long ka, .long kb, .ref m6, .ref m7, .ref m8, .ref m9, .ref m10, .ref m11, .ref m12, .ref m13, .ref m14, .ref m15, .ref m16])), (m3, .inl (cI, 1024, .inl gb_82))]) hP hD [1, 2] [0] rfl rfl (by decide) (by decide) hk1 hFc hP1 hD1
      generalize H1 = H at hP hS ⊢
      have hP : va_P (dC, dI) vwCl [(m2, .inl (cI, 8, .inl (upd (upd fp j_3 ((fp j_3) &&& ((1 <<< ((nI i_3) &&& 31)) ^^^ (-1)))) i_3 (((upd fp j_3 ((fp j_3) &&& ((1 <<< ((nI i_3) &&& 31)) ^^^ (-1)))) i_3) ||| (1 <<< ((nI j_3) &&& 31)))))), (mo, .inr (8, [.int (nI n), .ref m1, .ref m2, .ref m3, .long ka, .long kb, .ref m6, .ref m7, .ref m8, .ref m9, .ref m10, .ref m11, .ref m12, .ref m13, .ref m14, .ref m15, .ref m16])), (m3, .inl (cI, 1024, .inl gb_82))] H := hP
      have hD : va_D A [(m2, .inl (cI, 8, .inl (upd (upd fp j_3 ((fp j_3) &&& ((1 <<< ((nI i_3) &&& 31)) ^^^ (-1)))) i_3 (((upd fp j_3 ((fp j_3) &&& ((1 <<< ((nI i_3) &&& 31)) ^^^ (-1)))) i_3) ||| (1 <<< ((nI j_3) &&& 31)))))), (mo, .inr (8, [.int (nI n), .ref m1, .ref m2, .ref m3, .long ka, .long kb, .ref m6, .ref m7, .ref m8, .ref m9, .ref m10, .ref m11, .ref m12, .ref m13, .ref m14, .ref m15, .ref m16])), (m3, .inl (cI, 1024, .inl gb_82))] := hD
      refine lv_iconst (v := 1) hx hb dX8_turn_85 (by decide +kernel) ?_
      have hP9 := hP.sub (ws' := [(mo, .inr (8, [.int (nI n), .ref m1, .ref m2, .ref m3, .long ka, .long kb, .ref m6, .ref m7, .ref m8, .ref m9, .ref m10, .ref m11, .ref m12, .ref m13, .ref m14, .ref m15, .ref m16])), (m2, .inl (cI, 8, .inl (upd (upd fp j_3 ((fp j_3) &&& ((1 <<< ((nI i_3) &&& 31)) ^^^ (-1)))) i_3 (((upd fp j_3 ((fp j_3) &&& ((1 <<< ((nI i_3) &&& 31)) ^^^ (-1)))) i_3) ||| (1 <<< ((nI j_3) &&& 31)))))), (m3, .inl (cI, 1024, .inl gb_82))]) [1, 0, 2] rfl
      have hD9 := hD.sub (ws' := [(mo, .inr (8, [.int (nI n), .ref m1, .ref m2, .ref m3, .long ka, .long kb, .ref m6, .ref m7, .ref m8, .ref m9, .ref m10, .ref m11, .ref m12, .ref m13, .ref m14, .ref m15, .ref m16])), (m2, .inl (cI, 8, .inl (upd (upd fp j_3 ((fp j_3) &&& ((1 <<< ((nI i_3) &&& 31)) ^^^ (-1)))) i_3 (((upd fp j_3 ((fp j_3) &&& ((1 <<< ((nI i_3) &&& 31)) ^^^ (-1)))) i_3) ||| (1 <<< ((nI j_3) &&& 31)))))), (m3, .inl (cI, 1024, .inl gb_82))]) [1, 0, 2] (by decide) rfl
      refine W.widen (k := 0) (n := 0) (Nat.le_of_ble_eq_true rfl) (Nat.le_of_ble_eq_true rfl) ?_
      exact W.zret (v := 1) hx hb hr (mz_nz (by decide +kernel)) (fun t ht hW => ⟨⟨1, (), rfl, Or.inr rfl, (upd (upd fp j_3 ((fp j_3) &&& ((1 <<< ((nI i_3) &&& 31)) ^^^ (-1)))) i_3 (((upd fp j_3 ((fp j_3) &&& ((1 <<< ((nI i_3) &&& 31)) ^^^ (-1)))) i_3) ||| (1 <<< ((nI j_3) &&& 31)))), gb_82, (mz_turn_on hn hi_3 hj_3 ha hb_3 hw_28 c_36), by rw [ht]; exact hP9, hD9⟩, hS.F ht⟩) hS.2.2 dX8_turn_86
    · skip
      refine lv_iconst (v := 1) hx hb dX8_turn_39 (by decide +kernel) ?_
      refine lv_goto (tgt := 44) hx hb dX8_turn_40 (by decide) ?_
      refine lv_istore_n (lv' := [(3, .int 1), (0, .ref mo), (1, .int (nI i_3)), (2, .int (nI j_3))]) hx hb dX8_turn_44 rfl hl (by decide) rfl (fun ls hl => ?_)
      refine lv_iload_n hx hb dX8_turn_45 rfl (lv_at hl 0 rfl) ?_
      refine lv_if_eq (tgt := 63) hx hb dX8_turn_46 (by decide) (fun c_46 => absurd c_46 (by decide +kernel)) (fun _ => ?_)
      refine lv_aload_n hx hb dX8_turn_49 rfl (lv_at hl 1 rfl) ?_
      refine va_get (D := (dC, dI)) (ci := 8) (v := .ref m2) (C := RX8) (T := TX8) (N := 17) hx hb hts hiX8 hown hK hP 0 rfl rfl 2 (by decide) (hts (.fieldLink RX8 13 "MadeItSoModel" "parents" "[I") (by decide +kernel)) (fun _ h9 => h9) rfl dX8_turn_50 ?_
      refine lv_iload_n hx hb dX8_turn_53 rfl (lv_at hl 3 rfl) ?_
      refine lv_dup2_11 hx hb dX8_turn_54 rfl rfl ?_
      refine va_iald hx hb hK hP 1 0 rfl rfl (vp_in_nI (by omega) (by omega)) dX8_turn_55 ?_
      refine mz_ti (y := ((upd fp j_3 ((fp j_3) &&& ((1 <<< ((nI i_3) &&& 31)) ^^^ (-1)))) j_3)) (by rw [mz_cl (by omega)]) ?_
      refine lv_iconst (v := 1) hx hb dX8_turn_56 (by decide +kernel) ?_
      refine lv_iload_n hx hb dX8_turn_57 rfl (lv_at hl 2 rfl) ?_
      refine lv_ishl hx hb dX8_turn_58 ?_
      refine lv_ior hx hb dX8_turn_59 ?_
      refine va_iast hx hb hK hP hD hS 1 0 rfl rfl (vp_in_nI (by omega) (by omega)) dX8_turn_60 (fun H locs hP hD hS => ?_)
      rw [mz_cl (n := j_3) (by omega)] at hP hD
      have hP : va_P (dC, dI) vwCl [(mo, .inr (8, [.int (nI n), .ref m1, .ref m2, .ref m3, .long ka, .long kb, .ref m6, .ref m7, .ref m8, .ref m9, .ref m10, .ref m11, .ref m12, .ref m13, .ref m14, .ref m15, .ref m16])), (m2, .inl (cI, 8, .inl (upd (upd fp j_3 ((fp j_3) &&& ((1 <<< ((nI i_3) &&& 31)) ^^^ (-1)))) j_3 (((upd fp j_3 ((fp j_3) &&& ((1 <<< ((nI i_3) &&& 31)) ^^^ (-1)))) j_3) ||| (1 <<< ((nI i_3) &&& 31)))))), (m3, .inl (cI, 1024, .inl fb))] H := hP
      have hD : va_D A [(mo, .inr (8, [.int (nI n), .ref m1, .ref m2, .ref m3, .long ka, .long kb, .ref m6, .ref m7, .ref m8, .ref m9, .ref m10, .ref m11, .ref m12, .ref m13, .ref m14, .ref m15, .ref m16])), (m2, .inl (cI, 8, .inl (upd (upd fp j_3 ((fp j_3) &&& ((1 <<< ((nI i_3) &&& 31)) ^^^ (-1)))) j_3 (((upd fp j_3 ((fp j_3) &&& ((1 <<< ((nI i_3) &&& 31)) ^^^ (-1)))) j_3) ||| (1 <<< ((nI i_3) &&& 31)))))), (m3, .inl (cI, 1024, .inl fb))] := hD
      refine lv_iconst (v := 0) hx hb dX8_turn_61 (by decide +kernel) ?_
      have hP9 := hP.sub (ws' := [(mo, .inr (8, [.int (nI n), .ref m1, .ref m2, .ref m3, .long ka, .long kb, .ref m6, .ref m7, .ref m8, .ref m9, .ref m10, .ref m11, .ref m12, .ref m13, .ref m14, .ref m15, .ref m16])), (m2, .inl (cI, 8, .inl (upd (upd fp j_3 ((fp j_3) &&& ((1 <<< ((nI i_3) &&& 31)) ^^^ (-1)))) j_3 (((upd fp j_3 ((fp j_3) &&& ((1 <<< ((nI i_3) &&& 31)) ^^^ (-1)))) j_3) ||| (1 <<< ((nI i_3) &&& 31)))))), (m3, .inl (cI, 1024, .inl fb))]) [0, 1, 2] rfl
      have hD9 := hD.sub (ws' := [(mo, .inr (8, [.int (nI n), .ref m1, .ref m2, .ref m3, .long ka, .long kb, .ref m6, .ref m7, .ref m8, .ref m9, .ref m10, .ref m11, .ref m12, .ref m13, .ref m14, .ref m15, .ref m16])), (m2, .inl (cI, 8, .inl (upd (upd fp j_3 ((fp j_3) &&& ((1 <<< ((nI i_3) &&& 31)) ^^^ (-1)))) j_3 (((upd fp j_3 ((fp j_3) &&& ((1 <<< ((nI i_3) &&& 31)) ^^^ (-1)))) j_3) ||| (1 <<< ((nI i_3) &&& 31)))))), (m3, .inl (cI, 1024, .inl fb))]) [0, 1, 2] (by decide) rfl
      refine W.widen (k := 0) (n := 0) (Nat.le_of_ble_eq_true rfl) (Nat.le_of_ble_eq_true rfl) ?_
      exact W.zret (v := 0) hx hb hr (mz_nz (by decide +kernel)) (fun t ht hW => ⟨⟨0, (), rfl, Or.inl rfl, (upd (upd fp j_3 ((fp j_3) &&& ((1 <<< ((nI i_3) &&& 31)) ^^^ (-1)))) j_3 (((upd fp j_3 ((fp j_3) &&& ((1 <<< ((nI i_3) &&& 31)) ^^^ (-1)))) j_3) ||| (1 <<< ((nI i_3) &&& 31)))), fb, (mz_turn_back hn hi_3 ha hb_3), by rw [ht]; exact hP9, hD9⟩, hS.F ht⟩) hS.2.2 dX8_turn_62
  · skip
    refine lv_if_ne (tgt := 11) hx hb dX8_turn_6 (by decide) (fun c_6 => absurd (by decide +kernel) c_6) (fun _ => ?_)
    refine lv_iconst (v := 0) hx hb dX8_turn_9 (by decide +kernel) ?_
    have hP9 := hP.sub (ws' := [(mo, .inr (8, [.int (nI n), .ref m1, .ref m2, .ref m3, .long ka, .long kb, .ref m6, .ref m7, .ref m8, .ref m9, .ref m10, .ref m11, .ref m12, .ref m13, .ref m14, .ref m15, .ref m16])), (m2, .inl (cI, 8, .inl fp)), (m3, .inl (cI, 1024, .inl fb))]) [0, 1, 2] rfl
    have hD9 := hD.sub (ws' := [(mo, .inr (8, [.int (nI n), .ref m1, .ref m2, .ref m3, .long ka, .long kb, .ref m6, .ref m7, .ref m8, .ref m9, .ref m10, .ref m11, .ref m12, .ref m13, .ref m14, .ref m15, .ref m16])), (m2, .inl (cI, 8, .inl fp)), (m3, .inl (cI, 1024, .inl fb))]) [0, 1, 2] (by decide) rfl
    refine W.widen (k := 0) (n := 0) (Nat.le_of_ble_eq_true rfl) (Nat.le_of_ble_eq_true rfl) ?_
    exact W.zret (v := 0) hx hb hr (mz_nz (by decide +kernel)) (fun t ht hW => ⟨⟨0, (), rfl, Or.inl rfl, fp, fb, ha, by rw [ht]; exact hP9, hD9⟩, hS.F ht⟩) hS.2.2 dX8_turn_10
set_option maxHeartbeats 1000000 in
set_option maxRecDepth 100000 in
theorem mz_m_draw (l : Launch) (dC : Nat → ClassId) (dI : Nat → Nat → Nat) (cI cJ cZ : ClassId) (mo : Nat) (m1 : Nat) (m2 : Nat) (m3 : Nat) (m6 : Nat) (m7 : Nat) (m8 : Nat) (m9 : Nat) (m10 : Nat) (m11 : Nat) (m12 : Nat) (m13 : Nat) (m14 : Nat) (m15 : Nat) (m16 : Nat) (n : Nat) (ka : Int64) (kb : Int64) (fp : Nat → Int32) (fb : Nat → Int32) (p1 : Int32) (p2 : Int32) (Hq : Heap) (hn : n ≤ 8) (ha : mz_acy n fp) : Met l yX8_draw wsX8_draw ({ frames := 2, cells := 0, slots := 0, locals := 42 }) (va_Pc [.ref mo, .int p1, .int p2] (fun U => U.heap = Hq ∧ va_P (dC, dI) vwCl [(mo, .inr (8, [.int (nI n), .ref m1, .ref m2, .ref m3, .long ka, .long kb, .ref m6, .ref m7, .ref m8, .ref m9, .ref m10, .ref m11, .ref m12, .ref m13, .ref m14, .ref m15, .ref m16])), (m2, .inl (cI, 8, .inl fp)), (m3, .inl (cI, 1024, .inl fb))] Hq ∧ va_K (dC, dI) vwCl [(cI, FieldType.int), (cJ, FieldType.long), (cZ, FieldType.boolean)] U ∧ mz_N U)) (va_Qi (fun (r : Int32) (_ : Unit) => True) (fun _ t => t.heap = Hq) (fun _ : Nat => False)) 0 0 (fun _ : Nat => False) := by
  refine Met.ofW (cc := cX8_draw) (maxL := 9) (ret := (some .int)) (by decide) rfl ?_
  intro p e s m args below meth c s₁ B hml hv
  obtain ⟨rfl, hH, hP, hK, hN⟩ := hv
  subst hH
  have hx := B.exec
  have hb := B.bytes
  have hr := B.returns
  have hts := atoms_spec (ws := wsX8_draw) B.pre
  have hown : s.vm.findClass RX8 = some m.cls := findClass_of_methodNamed B.named
  have hlocks := B.notSynchronized
  have hS : va_S (fun _ : Nat => False) s.heap s.heap [] := va_S.rf
  have hiX8 : ∀ w ∈ u_ws RX8 TX8 17, w ∈ wsX8_draw := by decide +kernel
  have hl := lv_entry ([.ref mo, .int p1, .int p2]) (n := 9) (Nat.le_of_ble_eq_true rfl)
  rw [lg_entry_eq]
  generalize (lg_sl ([.ref mo, .int p1, .int p2]) ++ List.replicate (9 - (lg_sl ([.ref mo, .int p1, .int p2])).length) Slot.unset).toArray = ls at hl ⊢
  have hl : lv_has ls 9 [(0, .ref mo), (1, .int p1), (2, .int p2)] := hl
  refine lv_aload_n hx hb dX8_draw_0 rfl (lv_at hl 0 rfl) ?_
  refine lv_iload_n hx hb dX8_draw_1 rfl (lv_at hl 2 rfl) ?_
  have hPc := hP.sub (ws' := [(mo, .inr (8, [.int (nI n), .ref m1, .ref m2, .ref m3, .long ka, .long kb, .ref m6, .ref m7, .ref m8, .ref m9, .ref m10, .ref m11, .ref m12, .ref m13, .ref m14, .ref m15, .ref m16]))]) [0] rfl
  refine va_calli (va_runV (As := [.int p2]) (rest := []) ⟨hx, hb, hml, hown, hts⟩ (mz_m_isSetting l dC dI cI cJ cZ mo m1 m2 m3 m6 m7 m8 m9 m10 m11 m12 m13 m14 m15 m16 n ka kb p2 s.heap (by first | assumption | omega)) (cwV 1 hts gX8_draw_X8_isSetting rfl rfl rfl (by decide +kernel) ⟨Nat.le_of_ble_eq_true rfl, Nat.le_of_ble_eq_true rfl⟩) ⟨fun a U g mk q => mz_blP q, va_recv hK hPc (ci := 8) (q0 := 0) rfl rfl, fun U hU hW => ⟨rfl, hU, hPc, va_K.moved hW.alike hK, mz_nw hW hN⟩⟩ rfl rfl hl.1 rfl (lv_room (Nat.le_of_ble_eq_true rfl)) dX8_draw_2 ⟨Nat.le_of_ble_eq_true rfl, Nat.le_of_ble_eq_true rfl⟩) hS (fun q _ h => h.elim) (fun q h => h.elim) (fun r_2 u t H1 locs ht hvm hw_2 hB hz1 hk1 hS => ?_)
  have hE : s.heap = H1 := hB.symm.trans ht
  subst hE
  refine lv_if_ne (tgt := 10) hx hb dX8_draw_5 (by decide) (fun c_5 => ?_) (fun c_5 => ?_)
  · skip
    refine lv_iload_n hx hb dX8_draw_10 rfl (lv_at hl 1 rfl) ?_
    refine lv_istore_n (lv' := [(3, .int p1), (0, .ref mo), (1, .int p1), (2, .int p2)]) hx hb dX8_draw_11 rfl hl (by decide) rfl (fun ls hl => ?_)
    refine lv_iconst (v := 0) hx hb dX8_draw_12 (by decide +kernel) ?_
    refine lv_istore (lv' := [(4, .int 0), (3, .int p1), (0, .ref mo), (1, .int p1), (2, .int p2)]) hx hb dX8_draw_13 hl (by decide) rfl (fun ls hl => ?_)
    refine lv_iconst (v := 0) hx hb dX8_draw_15 (by decide +kernel) ?_
    refine lv_istore (lv' := [(5, .int 0), (4, .int 0), (3, .int p1), (0, .ref mo), (1, .int p1), (2, .int p2)]) hx hb dX8_draw_16 hl (by decide) rfl (fun ls hl => ?_)
    refine lv_iconst (v := 0) hx hb dX8_draw_18 (by decide +kernel) ?_
    refine lv_istore (lv' := [(6, .int 0), (5, .int 0), (4, .int 0), (3, .int p1), (0, .ref mo), (1, .int p1), (2, .int p2)]) hx hb dX8_draw_19 hl (by decide) rfl (fun ls hl => ?_)
    refine mz_loopU (fun k H locs ls => ∃ (i_21 : Nat), ∃ (x5_21 : Int32), ∃ (x4_21 : Int32), ∃ (x3_21 : Int32), i_21 ≤ n ∧ (n ≤ mz_un x4_21 n + i_21) ∧ H = s.heap ∧ va_S (fun _ : Nat => False) s.heap H locs ∧ lv_has ls 9 [(6, .int (nI i_21)), (5, .int x5_21), (4, .int x4_21), (3, .int x3_21), (0, .ref mo), (1, .int p1), (2, .int p2)] ∧ k = n - i_21) ?_ _ _ _ _ ⟨0, 0, 0, p1, by omega, (mz_un_0 hn), rfl, hS, lv_sub hl [0, 1, 2, 3, 4, 5, 6] rfl, rfl⟩
    intro k_21 H locs ls hI_21 ih_21
    obtain ⟨i_21, x5_21, x4_21, x3_21, hi_21, hu_21, hH_21, hS, hl, hk_21⟩ := hI_21
    subst hH_21
    refine lv_iload hx hb dX8_draw_21 (lv_at hl 0 rfl) ?_
    refine lv_aload_n hx hb dX8_draw_23 rfl (lv_at hl 4 rfl) ?_
    refine va_get (D := (dC, dI)) (ci := 8) (v := .int (nI n)) (C := RX8) (T := TX8) (N := 17) hx hb hts hiX8 hown hK hP 0 rfl rfl 0 (by decide) (hts (.fieldLink RX8 58 "MadeItSoModel" "many" "I") (by decide +kernel)) (fun _ h9 => h9) rfl dX8_draw_24 ?_
    refine lv_icmp_ge (tgt := 162) hx hb dX8_draw_27 (by decide) (fun c_27 => ?_) (fun c_27 => ?_)
    · skip
      have d_27 : n ≤ i_21 := (nI_leI (a := n) (b := i_21) (by omega) (by omega)).mp c_27
      refine lv_iload hx hb dX8_draw_162 (lv_at hl 1 rfl) ?_
      refine W.widen (k := 0) (n := 0) (Nat.le_of_ble_eq_true rfl) (Nat.le_of_ble_eq_true rfl) ?_
      exact W.iret (v := x5_21) hx hb hr (fun t ht hW => ⟨⟨x5_21, (), rfl, trivial, ht⟩, hS.F ht⟩) hS.2.2 dX8_draw_164
    · skip
      have d_27 : ¬ n ≤ i_21 := fun h => c_27 ((nI_leI (a := n) (b := i_21) (by omega) (by omega)).mpr h)
      refine lv_iconst (v := 0) hx hb dX8_draw_30 (by decide +kernel) ?_
      refine lv_istore (lv' := [(7, .int 0), (6, .int (nI i_21)), (5, .int x5_21), (4, .int x4_21), (3, .int x3_21), (0, .ref mo), (1, .int p1), (2, .int p2)]) hx hb dX8_draw_31 hl (by decide) rfl (fun ls hl => ?_)
      refine mz_loopU (fun k H locs ls => ∃ (i_33 : Nat), i_33 ≤ n ∧ (∃ q : Nat, i_33 ≤ q ∧ q < n ∧ (¬ (x4_21 >>> (nI q &&& 31)) &&& 1 = 1) ∧ (fp q) &&& (x4_21 ^^^ (-1)) = 0) ∧ H = s.heap ∧ va_S (fun _ : Nat => False) s.heap H locs ∧ lv_has ls 9 [(7, .int (nI i_33)), (6, .int (nI i_21)), (5, .int x5_21), (4, .int x4_21), (3, .int x3_21), (0, .ref mo), (1, .int p1), (2, .int p2)] ∧ k = n - i_33) ?_ _ _ _ _ ⟨0, by omega, (mz_next ha hn hu_21 (by omega)), rfl, hS, lv_sub hl [0, 1, 2, 3, 4, 5, 6, 7] rfl, rfl⟩
      intro k_33 H locs ls hI_33 ih_33
      obtain ⟨i_33, hi_33, hx_33, hH_33, hS, hl, hk_33⟩ := hI_33
      subst hH_33
      obtain ⟨q_, hq0_, hq1_, hq2_, hq3_⟩ := hx_33
      refine lv_iload hx hb dX8_draw_33 (lv_at hl 3 rfl) ?_
      refine lv_iload hx hb dX8_draw_35 (lv_at hl 0 rfl) ?_
      refine lv_ishr hx hb dX8_draw_37 ?_
      refine lv_iconst (v := 1) hx hb dX8_draw_38 (by decide +kernel) ?_
      refine lv_iand hx hb dX8_draw_39 ?_
      refine lv_iconst (v := 1) hx hb dX8_draw_40 (by decide +kernel) ?_
      refine lv_icmp_eq (tgt := 59) hx hb dX8_draw_41 (by decide) (fun c_41 => ?_) (fun c_41 => ?_)
      · skip
        refine lv_iinc (v := (nI (i_33 + 1))) (lv' := [(7, .int (nI (i_33 + 1))), (6, .int (nI i_21)), (5, .int x5_21), (4, .int x4_21), (3, .int x3_21), (0, .ref mo), (1, .int p1), (2, .int p2)]) hx hb dX8_draw_59 hl (k := 0) rfl (nI_1 _) (by decide) rfl (fun ls hl => ?_)
        refine lv_goto (tgt := 33) hx hb dX8_draw_62 (by decide) ?_
        exact ih_33 _ (by omega) _ _ _ ⟨(i_33 + 1), by omega, ⟨q_, (by have hne : i_33 ≠ q_ := (fun e => by (subst e; first | exact absurd c_41 hq2_ | exact absurd hq3_ c_56)); omega), hq1_, hq2_, hq3_⟩, rfl, hS, lv_sub hl [0, 1, 2, 3, 4, 5, 6, 7] rfl, rfl⟩
      · skip
        refine lv_aload_n hx hb dX8_draw_44 rfl (lv_at hl 5 rfl) ?_
        refine va_get (D := (dC, dI)) (ci := 8) (v := .ref m2) (C := RX8) (T := TX8) (N := 17) hx hb hts hiX8 hown hK hP 0 rfl rfl 2 (by decide) (hts (.fieldLink RX8 13 "MadeItSoModel" "parents" "[I") (by decide +kernel)) (fun _ h9 => h9) rfl dX8_draw_45 ?_
        refine lv_iload hx hb dX8_draw_48 (lv_at hl 0 rfl) ?_
        refine va_iald hx hb hK hP 1 0 rfl rfl (vp_in_nI (by omega) (by omega)) dX8_draw_50 ?_
        refine mz_ti (y := (fp i_33)) (by rw [mz_cl (by omega)]) ?_
        refine lv_iload hx hb dX8_draw_51 (lv_at hl 3 rfl) ?_
        refine lv_iconst (v := (-1)) hx hb dX8_draw_53 (by decide +kernel) ?_
        refine lv_ixor hx hb dX8_draw_54 ?_
        refine lv_iand hx hb dX8_draw_55 ?_
        refine lv_if_eq (tgt := 65) hx hb dX8_draw_56 (by decide) (fun c_56 => ?_) (fun c_56 => ?_)
        · skip
          refine lv_iload_n hx hb dX8_draw_65 rfl (lv_at hl 4 rfl) ?_
          refine lv_ldc hx hb hown (hts (.constant RX8 176 (1103515245)) (by decide +kernel)) dX8_draw_66 ?_
          refine lv_imul hx hb dX8_draw_68 ?_
          refine lv_sipush (v := 12345) hx hb dX8_draw_69 (by decide +kernel) ?_
          refine lv_iadd hx hb dX8_draw_72 ?_
          refine lv_istore_n (lv' := [(3, .int ((x3_21 * 1103515245) + 12345)), (7, .int (nI i_33)), (6, .int (nI i_21)), (5, .int x5_21), (4, .int x4_21), (0, .ref mo), (1, .int p1), (2, .int p2)]) hx hb dX8_draw_73 rfl hl (by decide) rfl (fun ls hl => ?_)
          refine lv_iload_n hx hb dX8_draw_74 rfl (lv_at hl 0 rfl) ?_
          refine lv_bipush (v := 16) hx hb dX8_draw_75 (by decide +kernel) ?_
          refine lv_iushr hx hb dX8_draw_77 rfl ?_
          refine lv_topi (fun v_77 ev_77 => ?_)
          refine lv_bipush (v := 100) hx hb dX8_draw_78 (by decide +kernel) ?_
          refine lv_irem hx hb dX8_draw_80 (by decide) ?_
          refine lv_topi (fun v_80 ev_80 => ?_)
          refine lv_aload_n hx hb dX8_draw_81 rfl (lv_at hl 5 rfl) ?_
          refine lv_iload hx hb dX8_draw_82 (lv_at hl 1 rfl) ?_
          refine lv_iload hx hb dX8_draw_84 (lv_at hl 3 rfl) ?_
          have hPc := hP.sub (ws' := [(mo, .inr (8, [.int (nI n), .ref m1, .ref m2, .ref m3, .long ka, .long kb, .ref m6, .ref m7, .ref m8, .ref m9, .ref m10, .ref m11, .ref m12, .ref m13, .ref m14, .ref m15, .ref m16])), (m2, .inl (cI, 8, .inl fp)), (m3, .inl (cI, 1024, .inl fb))]) [0, 1, 2] rfl
          refine va_calli (va_runV (As := [.int (nI i_33), .int x5_21]) (rest := [.int v_80]) ⟨hx, hb, hml, hown, hts⟩ (mz_m_partsOf l dC dI cI cJ cZ mo m1 m2 m3 m6 m7 m8 m9 m10 m11 m12 m13 m14 m15 m16 n ka kb fp fb i_33 x5_21 s.heap (by first | assumption | omega) (by first | assumption | omega) (by first | assumption | omega)) (cwV 2 hts gX8_draw_X8_partsOf rfl rfl rfl (by decide +kernel) ⟨Nat.le_of_ble_eq_true rfl, Nat.le_of_ble_eq_true rfl⟩) ⟨fun a U g mk q => mz_blP q, va_recv hK hPc (ci := 8) (q0 := 0) rfl rfl, fun U hU hW => ⟨rfl, hU, hPc, va_K.moved hW.alike hK, mz_nw hW hN⟩⟩ rfl rfl hl.1 rfl (lv_room (Nat.le_of_ble_eq_true rfl)) dX8_draw_86 ⟨Nat.le_of_ble_eq_true rfl, Nat.le_of_ble_eq_true rfl⟩) hS (fun q _ h => h.elim) (fun q h => h.elim) (fun r_86 u t H1 locs ht hvm hw_86 hB hz1 hk1 hS => ?_)
          have hE : s.heap = H1 := hB.symm.trans ht
          subst hE
          refine lv_icmp_ge (tgt := 96) hx hb dX8_draw_89 (by decide) (fun c_89 => ?_) (fun c_89 => ?_)
          · skip
            refine lv_iconst (v := 0) hx hb dX8_draw_96 (by decide +kernel) ?_
            refine lv_istore (lv' := [(8, .int 0), (3, .int ((x3_21 * 1103515245) + 12345)), (7, .int (nI i_33)), (6, .int (nI i_21)), (5, .int x5_21), (4, .int x4_21), (0, .ref mo), (1, .int p1), (2, .int p2)]) hx hb dX8_draw_97 hl (by decide) rfl (fun ls hl => ?_)
            refine lv_iload_n hx hb dX8_draw_99 rfl (lv_at hl 8 rfl) ?_
            refine lv_iload hx hb dX8_draw_100 (lv_at hl 2 rfl) ?_
            refine lv_ishr hx hb dX8_draw_102 ?_
            refine lv_iconst (v := 1) hx hb dX8_draw_103 (by decide +kernel) ?_
            refine lv_iand hx hb dX8_draw_104 ?_
            refine lv_iconst (v := 1) hx hb dX8_draw_105 (by decide +kernel) ?_
            refine lv_icmp_ne (tgt := 129) hx hb dX8_draw_106 (by decide) (fun c_106 => ?_) (fun c_106 => ?_)
            · skip
              refine lv_iload hx hb dX8_draw_129 (lv_at hl 4 rfl) ?_
              refine lv_iload hx hb dX8_draw_131 (lv_at hl 0 rfl) ?_
              refine lv_if_eq (tgt := 143) hx hb dX8_draw_133 (by decide) (fun _ => ?_) (fun c_133 => absurd (by decide +kernel) c_133)
              refine lv_iconst (v := 0) hx hb dX8_draw_143 (by decide +kernel) ?_
              refine lv_ior hx hb dX8_draw_144 ?_
              refine lv_istore (lv' := [(5, .int (x5_21 ||| 0)), (8, .int 0), (3, .int ((x3_21 * 1103515245) + 12345)), (7, .int (nI i_33)), (6, .int (nI i_21)), (4, .int x4_21), (0, .ref mo), (1, .int p1), (2, .int p2)]) hx hb dX8_draw_145 hl (by decide) rfl (fun ls hl => ?_)
              refine lv_iload hx hb dX8_draw_147 (lv_at hl 5 rfl) ?_
              refine lv_iconst (v := 1) hx hb dX8_draw_149 (by decide +kernel) ?_
              refine lv_iload hx hb dX8_draw_150 (lv_at hl 3 rfl) ?_
              refine lv_ishl hx hb dX8_draw_152 ?_
              refine lv_ior hx hb dX8_draw_153 ?_
              refine lv_istore (lv' := [(4, .int (x4_21 ||| (1 <<< ((nI i_33) &&& 31)))), (5, .int (x5_21 ||| 0)), (8, .int 0), (3, .int ((x3_21 * 1103515245) + 12345)), (7, .int (nI i_33)), (6, .int (nI i_21)), (0, .ref mo), (1, .int p1), (2, .int p2)]) hx hb dX8_draw_154 hl (by decide) rfl (fun ls hl => ?_)
              refine lv_iinc (v := (nI (i_21 + 1))) (lv' := [(6, .int (nI (i_21 + 1))), (4, .int (x4_21 ||| (1 <<< ((nI i_33) &&& 31)))), (5, .int (x5_21 ||| 0)), (8, .int 0), (3, .int ((x3_21 * 1103515245) + 12345)), (7, .int (nI i_33)), (0, .ref mo), (1, .int p1), (2, .int p2)]) hx hb dX8_draw_156 hl (k := 5) rfl (nI_1 _) (by decide) rfl (fun ls hl => ?_)
              refine lv_goto (tgt := 21) hx hb dX8_draw_159 (by decide) ?_
              exact ih_21 _ (by omega) _ _ _ ⟨(i_21 + 1), (x5_21 ||| 0), (x4_21 ||| (1 <<< ((nI i_33) &&& 31))), ((x3_21 * 1103515245) + 12345), by omega, (mz_un_next hn (by omega) hu_21), rfl, hS, lv_sub hl [0, 2, 1, 4, 6, 7, 8] rfl, rfl⟩
            · skip
              refine lv_iload_n hx hb dX8_draw_109 rfl (lv_at hl 8 rfl) ?_
              refine lv_bipush (v := 8) hx hb dX8_draw_110 (by decide +kernel) ?_
              refine lv_iload hx hb dX8_draw_112 (lv_at hl 2 rfl) ?_
              refine lv_iadd hx hb dX8_draw_114 ?_
              refine mz_ti (y := (nI (8 + i_33))) (nI_add _ _) ?_
              refine lv_ishr hx hb dX8_draw_115 ?_
              refine lv_iconst (v := 1) hx hb dX8_draw_116 (by decide +kernel) ?_
              refine lv_iand hx hb dX8_draw_117 ?_
              refine lv_iconst (v := 1) hx hb dX8_draw_118 (by decide +kernel) ?_
              refine lv_icmp_ne (tgt := 126) hx hb dX8_draw_119 (by decide) (fun c_119 => ?_) (fun c_119 => ?_)
              · skip
                refine lv_iconst (v := 0) hx hb dX8_draw_126 (by decide +kernel) ?_
                refine lv_istore (lv' := [(8, .int 0), (3, .int ((x3_21 * 1103515245) + 12345)), (7, .int (nI i_33)), (6, .int (nI i_21)), (5, .int x5_21), (4, .int x4_21), (0, .ref mo), (1, .int p1), (2, .int p2)]) hx hb dX8_draw_127 hl (by decide) rfl (fun ls hl => ?_)
                refine lv_iload hx hb dX8_draw_129 (lv_at hl 4 rfl) ?_
                refine lv_iload hx hb dX8_draw_131 (lv_at hl 0 rfl) ?_
                refine lv_if_eq (tgt := 143) hx hb dX8_draw_133 (by decide) (fun _ => ?_) (fun c_133 => absurd (by decide +kernel) c_133)
                refine lv_iconst (v := 0) hx hb dX8_draw_143 (by decide +kernel) ?_
                refine lv_ior hx hb dX8_draw_144 ?_
                refine lv_istore (lv' := [(5, .int (x5_21 ||| 0)), (8, .int 0), (3, .int ((x3_21 * 1103515245) + 12345)), (7, .int (nI i_33)), (6, .int (nI i_21)), (4, .int x4_21), (0, .ref mo), (1, .int p1), (2, .int p2)]) hx hb dX8_draw_145 hl (by decide) rfl (fun ls hl => ?_)
                refine lv_iload hx hb dX8_draw_147 (lv_at hl 5 rfl) ?_
                refine lv_iconst (v := 1) hx hb dX8_draw_149 (by decide +kernel) ?_
                refine lv_iload hx hb dX8_draw_150 (lv_at hl 3 rfl) ?_
                refine lv_ishl hx hb dX8_draw_152 ?_
                refine lv_ior hx hb dX8_draw_153 ?_
                refine lv_istore (lv' := [(4, .int (x4_21 ||| (1 <<< ((nI i_33) &&& 31)))), (5, .int (x5_21 ||| 0)), (8, .int 0), (3, .int ((x3_21 * 1103515245) + 12345)), (7, .int (nI i_33)), (6, .int (nI i_21)), (0, .ref mo), (1, .int p1), (2, .int p2)]) hx hb dX8_draw_154 hl (by decide) rfl (fun ls hl => ?_)
                refine lv_iinc (v := (nI (i_21 + 1))) (lv' := [(6, .int (nI (i_21 + 1))), (4, .int (x4_21 ||| (1 <<< ((nI i_33) &&& 31)))), (5, .int (x5_21 ||| 0)), (8, .int 0), (3, .int ((x3_21 * 1103515245) + 12345)), (7, .int (nI i_33)), (0, .ref mo), (1, .int p1), (2, .int p2)]) hx hb dX8_draw_156 hl (k := 5) rfl (nI_1 _) (by decide) rfl (fun ls hl => ?_)
                refine lv_goto (tgt := 21) hx hb dX8_draw_159 (by decide) ?_
                exact ih_21 _ (by omega) _ _ _ ⟨(i_21 + 1), (x5_21 ||| 0), (x4_21 ||| (1 <<< ((nI i_33) &&& 31))), ((x3_21 * 1103515245) + 12345), by omega, (mz_un_next hn (by omega) hu_21), rfl, hS, lv_sub hl [0, 2, 1, 4, 6, 7, 8] rfl, rfl⟩
              · skip
                refine lv_iconst (v := 1) hx hb dX8_draw_122 (by decide +kernel) ?_
                refine lv_goto (tgt := 127) hx hb dX8_draw_123 (by decide) ?_
                refine lv_istore (lv' := [(8, .int 1), (3, .int ((x3_21 * 1103515245) + 12345)), (7, .int (nI i_33)), (6, .int (nI i_21)), (5, .int x5_21), (4, .int x4_21), (0, .ref mo), (1, .int p1), (2, .int p2)]) hx hb dX8_draw_127 hl (by decide) rfl (fun ls hl => ?_)
                refine lv_iload hx hb dX8_draw_129 (lv_at hl 4 rfl) ?_
                refine lv_iload hx hb dX8_draw_131 (lv_at hl 0 rfl) ?_
                refine lv_if_eq (tgt := 143) hx hb dX8_draw_133 (by decide) (fun c_133 => absurd c_133 (by decide +kernel)) (fun _ => ?_)
                refine lv_iconst (v := 1) hx hb dX8_draw_136 (by decide +kernel) ?_
                refine lv_iload hx hb dX8_draw_137 (lv_at hl 2 rfl) ?_
                refine lv_ishl hx hb dX8_draw_139 ?_
                refine lv_goto (tgt := 144) hx hb dX8_draw_140 (by decide) ?_
                refine lv_ior hx hb dX8_draw_144 ?_
                refine lv_istore (lv' := [(5, .int (x5_21 ||| (1 <<< ((nI i_33) &&& 31)))), (8, .int 1), (3, .int ((x3_21 * 1103515245) + 12345)), (7, .int (nI i_33)), (6, .int (nI i_21)), (4, .int x4_21), (0, .ref mo), (1, .int p1), (2, .int p2)]) hx hb dX8_draw_145 hl (by decide) rfl (fun ls hl => ?_)
                refine lv_iload hx hb dX8_draw_147 (lv_at hl 5 rfl) ?_
                refine lv_iconst (v := 1) hx hb dX8_draw_149 (by decide +kernel) ?_
                refine lv_iload hx hb dX8_draw_150 (lv_at hl 3 rfl) ?_
                refine lv_ishl hx hb dX8_draw_152 ?_
                refine lv_ior hx hb dX8_draw_153 ?_
                refine lv_istore (lv' := [(4, .int (x4_21 ||| (1 <<< ((nI i_33) &&& 31)))), (5, .int (x5_21 ||| (1 <<< ((nI i_33) &&& 31)))), (8, .int 1), (3, .int ((x3_21 * 1103515245) + 12345)), (7, .int (nI i_33)), (6, .int (nI i_21)), (0, .ref mo), (1, .int p1), (2, .int p2)]) hx hb dX8_draw_154 hl (by decide) rfl (fun ls hl => ?_)
                refine lv_iinc (v := (nI (i_21 + 1))) (lv' := [(6, .int (nI (i_21 + 1))), (4, .int (x4_21 ||| (1 <<< ((nI i_33) &&& 31)))), (5, .int (x5_21 ||| (1 <<< ((nI i_33) &&& 31)))), (8, .int 1), (3, .int ((x3_21 * 1103515245) + 12345)), (7, .int (nI i_33)), (0, .ref mo), (1, .int p1), (2, .int p2)]) hx hb dX8_draw_156 hl (k := 5) rfl (nI_1 _) (by decide) rfl (fun ls hl => ?_)
                refine lv_goto (tgt := 21) hx hb dX8_draw_159 (by decide) ?_
                exact ih_21 _ (by omega) _ _ _ ⟨(i_21 + 1), (x5_21 ||| (1 <<< ((nI i_33) &&& 31))), (x4_21 ||| (1 <<< ((nI i_33) &&& 31))), ((x3_21 * 1103515245) + 12345), by omega, (mz_un_next hn (by omega) hu_21), rfl, hS, lv_sub hl [0, 2, 1, 4, 6, 7, 8] rfl, rfl⟩
          · skip
            refine lv_iconst (v := 1) hx hb dX8_draw_92 (by decide +kernel) ?_
            refine lv_goto (tgt := 97) hx hb dX8_draw_93 (by decide) ?_
            refine lv_istore (lv' := [(8, .int 1), (3, .int ((x3_21 * 1103515245) + 12345)), (7, .int (nI i_33)), (6, .int (nI i_21)), (5, .int x5_21), (4, .int x4_21), (0, .ref mo), (1, .int p1), (2, .int p2)]) hx hb dX8_draw_97 hl (by decide) rfl (fun ls hl => ?_)
            refine lv_iload_n hx hb dX8_draw_99 rfl (lv_at hl 8 rfl) ?_
            refine lv_iload hx hb dX8_draw_100 (lv_at hl 2 rfl) ?_
            refine lv_ishr hx hb dX8_draw_102 ?_
            refine lv_iconst (v := 1) hx hb dX8_draw_103 (by decide +kernel) ?_
            refine lv_iand hx hb dX8_draw_104 ?_
            refine lv_iconst (v := 1) hx hb dX8_draw_105 (by decide +kernel) ?_
            refine lv_icmp_ne (tgt := 129) hx hb dX8_draw_106 (by decide) (fun c_106 => ?_) (fun c_106 => ?_)
            · skip
              refine lv_iload hx hb dX8_draw_129 (lv_at hl 4 rfl) ?_
              refine lv_iload hx hb dX8_draw_131 (lv_at hl 0 rfl) ?_
              refine lv_if_eq (tgt := 143) hx hb dX8_draw_133 (by decide) (fun c_133 => absurd c_133 (by decide +kernel)) (fun _ => ?_)
              refine lv_iconst (v := 1) hx hb dX8_draw_136 (by decide +kernel) ?_
              refine lv_iload hx hb dX8_draw_137 (lv_at hl 2 rfl) ?_
              refine lv_ishl hx hb dX8_draw_139 ?_
              refine lv_goto (tgt := 144) hx hb dX8_draw_140 (by decide) ?_
              refine lv_ior hx hb dX8_draw_144 ?_
              refine lv_istore (lv' := [(5, .int (x5_21 ||| (1 <<< ((nI i_33) &&& 31)))), (8, .int 1), (3, .int ((x3_21 * 1103515245) + 12345)), (7, .int (nI i_33)), (6, .int (nI i_21)), (4, .int x4_21), (0, .ref mo), (1, .int p1), (2, .int p2)]) hx hb dX8_draw_145 hl (by decide) rfl (fun ls hl => ?_)
              refine lv_iload hx hb dX8_draw_147 (lv_at hl 5 rfl) ?_
              refine lv_iconst (v := 1) hx hb dX8_draw_149 (by decide +kernel) ?_
              refine lv_iload hx hb dX8_draw_150 (lv_at hl 3 rfl) ?_
              refine lv_ishl hx hb dX8_draw_152 ?_
              refine lv_ior hx hb dX8_draw_153 ?_
              refine lv_istore (lv' := [(4, .int (x4_21 ||| (1 <<< ((nI i_33) &&& 31)))), (5, .int (x5_21 ||| (1 <<< ((nI i_33) &&& 31)))), (8, .int 1), (3, .int ((x3_21 * 1103515245) + 12345)), (7, .int (nI i_33)), (6, .int (nI i_21)), (0, .ref mo), (1, .int p1), (2, .int p2)]) hx hb dX8_draw_154 hl (by decide) rfl (fun ls hl => ?_)
              refine lv_iinc (v := (nI (i_21 + 1))) (lv' := [(6, .int (nI (i_21 + 1))), (4, .int (x4_21 ||| (1 <<< ((nI i_33) &&& 31)))), (5, .int (x5_21 ||| (1 <<< ((nI i_33) &&& 31)))), (8, .int 1), (3, .int ((x3_21 * 1103515245) + 12345)), (7, .int (nI i_33)), (0, .ref mo), (1, .int p1), (2, .int p2)]) hx hb dX8_draw_156 hl (k := 5) rfl (nI_1 _) (by decide) rfl (fun ls hl => ?_)
              refine lv_goto (tgt := 21) hx hb dX8_draw_159 (by decide) ?_
              exact ih_21 _ (by omega) _ _ _ ⟨(i_21 + 1), (x5_21 ||| (1 <<< ((nI i_33) &&& 31))), (x4_21 ||| (1 <<< ((nI i_33) &&& 31))), ((x3_21 * 1103515245) + 12345), by omega, (mz_un_next hn (by omega) hu_21), rfl, hS, lv_sub hl [0, 2, 1, 4, 6, 7, 8] rfl, rfl⟩
            · skip
              refine lv_iload_n hx hb dX8_draw_109 rfl (lv_at hl 8 rfl) ?_
              refine lv_bipush (v := 8) hx hb dX8_draw_110 (by decide +kernel) ?_
              refine lv_iload hx hb dX8_draw_112 (lv_at hl 2 rfl) ?_
              refine lv_iadd hx hb dX8_draw_114 ?_
              refine mz_ti (y := (nI (8 + i_33))) (nI_add _ _) ?_
              refine lv_ishr hx hb dX8_draw_115 ?_
              refine lv_iconst (v := 1) hx hb dX8_draw_116 (by decide +kernel) ?_
              refine lv_iand hx hb dX8_draw_117 ?_
              refine lv_iconst (v := 1) hx hb dX8_draw_118 (by decide +kernel) ?_
              refine lv_icmp_ne (tgt := 126) hx hb dX8_draw_119 (by decide) (fun c_119 => ?_) (fun c_119 => ?_)
              · skip
                refine lv_iconst (v := 0) hx hb dX8_draw_126 (by decide +kernel) ?_
                refine lv_istore (lv' := [(8, .int 0), (3, .int ((x3_21 * 1103515245) + 12345)), (7, .int (nI i_33)), (6, .int (nI i_21)), (5, .int x5_21), (4, .int x4_21), (0, .ref mo), (1, .int p1), (2, .int p2)]) hx hb dX8_draw_127 hl (by decide) rfl (fun ls hl => ?_)
                refine lv_iload hx hb dX8_draw_129 (lv_at hl 4 rfl) ?_
                refine lv_iload hx hb dX8_draw_131 (lv_at hl 0 rfl) ?_
                refine lv_if_eq (tgt := 143) hx hb dX8_draw_133 (by decide) (fun _ => ?_) (fun c_133 => absurd (by decide +kernel) c_133)
                refine lv_iconst (v := 0) hx hb dX8_draw_143 (by decide +kernel) ?_
                refine lv_ior hx hb dX8_draw_144 ?_
                refine lv_istore (lv' := [(5, .int (x5_21 ||| 0)), (8, .int 0), (3, .int ((x3_21 * 1103515245) + 12345)), (7, .int (nI i_33)), (6, .int (nI i_21)), (4, .int x4_21), (0, .ref mo), (1, .int p1), (2, .int p2)]) hx hb dX8_draw_145 hl (by decide) rfl (fun ls hl => ?_)
                refine lv_iload hx hb dX8_draw_147 (lv_at hl 5 rfl) ?_
                refine lv_iconst (v := 1) hx hb dX8_draw_149 (by decide +kernel) ?_
                refine lv_iload hx hb dX8_draw_150 (lv_at hl 3 rfl) ?_
                refine lv_ishl hx hb dX8_draw_152 ?_
                refine lv_ior hx hb dX8_draw_153 ?_
                refine lv_istore (lv' := [(4, .int (x4_21 ||| (1 <<< ((nI i_33) &&& 31)))), (5, .int (x5_21 ||| 0)), (8, .int 0), (3, .int ((x3_21 * 1103515245) + 12345)), (7, .int (nI i_33)), (6, .int (nI i_21)), (0, .ref mo), (1, .int p1), (2, .int p2)]) hx hb dX8_draw_154 hl (by decide) rfl (fun ls hl => ?_)
                refine lv_iinc (v := (nI (i_21 + 1))) (lv' := [(6, .int (nI (i_21 + 1))), (4, .int (x4_21 ||| (1 <<< ((nI i_33) &&& 31)))), (5, .int (x5_21 ||| 0)), (8, .int 0), (3, .int ((x3_21 * 1103515245) + 12345)), (7, .int (nI i_33)), (0, .ref mo), (1, .int p1), (2, .int p2)]) hx hb dX8_draw_156 hl (k := 5) rfl (nI_1 _) (by decide) rfl (fun ls hl => ?_)
                refine lv_goto (tgt := 21) hx hb dX8_draw_159 (by decide) ?_
                exact ih_21 _ (by omega) _ _ _ ⟨(i_21 + 1), (x5_21 ||| 0), (x4_21 ||| (1 <<< ((nI i_33) &&& 31))), ((x3_21 * 1103515245) + 12345), by omega, (mz_un_next hn (by omega) hu_21), rfl, hS, lv_sub hl [0, 2, 1, 4, 6, 7, 8] rfl, rfl⟩
              · skip
                refine lv_iconst (v := 1) hx hb dX8_draw_122 (by decide +kernel) ?_
                refine lv_goto (tgt := 127) hx hb dX8_draw_123 (by decide) ?_
                refine lv_istore (lv' := [(8, .int 1), (3, .int ((x3_21 * 1103515245) + 12345)), (7, .int (nI i_33)), (6, .int (nI i_21)), (5, .int x5_21), (4, .int x4_21), (0, .ref mo), (1, .int p1), (2, .int p2)]) hx hb dX8_draw_127 hl (by decide) rfl (fun ls hl => ?_)
                refine lv_iload hx hb dX8_draw_129 (lv_at hl 4 rfl) ?_
                refine lv_iload hx hb dX8_draw_131 (lv_at hl 0 rfl) ?_
                refine lv_if_eq (tgt := 143) hx hb dX8_draw_133 (by decide) (fun c_133 => absurd c_133 (by decide +kernel)) (fun _ => ?_)
                refine lv_iconst (v := 1) hx hb dX8_draw_136 (by decide +kernel) ?_
                refine lv_iload hx hb dX8_draw_137 (lv_at hl 2 rfl) ?_
                refine lv_ishl hx hb dX8_draw_139 ?_
                refine lv_goto (tgt := 144) hx hb dX8_draw_140 (by decide) ?_
                refine lv_ior hx hb dX8_draw_144 ?_
                refine lv_istore (lv' := [(5, .int (x5_21 ||| (1 <<< ((nI i_33) &&& 31)))), (8, .int 1), (3, .int ((x3_21 * 1103515245) + 12345)), (7, .int (nI i_33)), (6, .int (nI i_21)), (4, .int x4_21), (0, .ref mo), (1, .int p1), (2, .int p2)]) hx hb dX8_draw_145 hl (by decide) rfl (fun ls hl => ?_)
                refine lv_iload hx hb dX8_draw_147 (lv_at hl 5 rfl) ?_
                refine lv_iconst (v := 1) hx hb dX8_draw_149 (by decide +kernel) ?_
                refine lv_iload hx hb dX8_draw_150 (lv_at hl 3 rfl) ?_
                refine lv_ishl hx hb dX8_draw_152 ?_
                refine lv_ior hx hb dX8_draw_153 ?_
                refine lv_istore (lv' := [(4, .int (x4_21 ||| (1 <<< ((nI i_33) &&& 31)))), (5, .int (x5_21 ||| (1 <<< ((nI i_33) &&& 31)))), (8, .int 1), (3, .int ((x3_21 * 1103515245) + 12345)), (7, .int (nI i_33)), (6, .int (nI i_21)), (0, .ref mo), (1, .int p1), (2, .int p2)]) hx hb dX8_draw_154 hl (by decide) rfl (fun ls hl => ?_)
                refine lv_iinc (v := (nI (i_21 + 1))) (lv' := [(6, .int (nI (i_21 + 1))), (4, .int (x4_21 ||| (1 <<< ((nI i_33) &&& 31)))), (5, .int (x5_21 ||| (1 <<< ((nI i_33) &&& 31)))), (8, .int 1), (3, .int ((x3_21 * 1103515245) + 12345)), (7, .int (nI i_33)), (0, .ref mo), (1, .int p1), (2, .int p2)]) hx hb dX8_draw_156 hl (k := 5) rfl (nI_1 _) (by decide) rfl (fun ls hl => ?_)
                refine lv_goto (tgt := 21) hx hb dX8_draw_159 (by decide) ?_
                exact ih_21 _ (by omega) _ _ _ ⟨(i_21 + 1), (x5_21 ||| (1 <<< ((nI i_33) &&& 31))), (x4_21 ||| (1 <<< ((nI i_33) &&& 31))), ((x3_21 * 1103515245) + 12345), by omega, (mz_un_next hn (by omega) hu_21), rfl, hS, lv_sub hl [0, 2, 1, 4, 6, 7, 8] rfl, rfl⟩
        · skip
          refine lv_iinc (v := (nI (i_33 + 1))) (lv' := [(7, .int (nI (i_33 + 1))), (6, .int (nI i_21)), (5, .int x5_21), (4, .int x4_21), (3, .int x3_21), (0, .ref mo), (1, .int p1), (2, .int p2)]) hx hb dX8_draw_59 hl (k := 0) rfl (nI_1 _) (by decide) rfl (fun ls hl => ?_)
          refine lv_goto (tgt := 33) hx hb dX8_draw_62 (by decide) ?_
          exact ih_33 _ (by omega) _ _ _ ⟨(i_33 + 1), by omega, ⟨q_, (by have hne : i_33 ≠ q_ := (fun e => by (subst e; first | exact absurd c_41 hq2_ | exact absurd hq3_ c_56)); omega), hq1_, hq2_, hq3_⟩, rfl, hS, lv_sub hl [0, 1, 2, 3, 4, 5, 6, 7] rfl, rfl⟩
  · skip
    refine lv_iconst (v := (-1)) hx hb dX8_draw_8 (by decide +kernel) ?_
    refine W.widen (k := 0) (n := 0) (Nat.le_of_ble_eq_true rfl) (Nat.le_of_ble_eq_true rfl) ?_
    exact W.iret (v := (-1)) hx hb hr (fun t ht hW => ⟨⟨(-1), (), rfl, trivial, ht⟩, hS.F ht⟩) hS.2.2 dX8_draw_9
