/-! exact answers: weights -/
set_option maxHeartbeats 1000000 in
set_option maxRecDepth 100000 in
theorem mz_k_nextPart (l : Launch) (dC : Nat → ClassId) (dI : Nat → Nat → Nat) (cI cJ cZ : ClassId) (p0 : Int32) (p1 : Int32) (Hq : Heap)  : Met l yX7_nextPart wsX7_nextPart ({ frames := 0, cells := 0, slots := 0, locals := 0 }) (va_Pc [.int p0, .int p1] (fun U => U.heap = Hq ∧ va_P (dC, dI) vwCl [] Hq ∧ va_K (dC, dI) vwCl [(cI, FieldType.int), (cJ, FieldType.long), (cZ, FieldType.boolean)] U ∧ mz_N U)) (va_Qi (fun (r : Int32) (_ : Unit) => r = ((p0 - p1) &&& p1)) (fun _ t => t.heap = Hq) (fun _ : Nat => False)) 0 0 (fun _ : Nat => False) := by
  refine Met.ofW (cc := cX7_nextPart) (maxL := 2) (ret := (some .int)) (by decide) rfl ?_
  intro p e s m args below meth c s₁ B hml hv
  obtain ⟨rfl, hH, hP, hK, hN⟩ := hv
  subst hH
  have hx := B.exec
  have hb := B.bytes
  have hr := B.returns
  have hts := atoms_spec (ws := wsX7_nextPart) B.pre
  have hown : s.vm.findClass RX7 = some m.cls := findClass_of_methodNamed B.named
  have hlocks := B.notSynchronized
  have hS : va_S (fun _ : Nat => False) s.heap s.heap [] := va_S.rf
  have hl := lv_entry ([.int p0, .int p1]) (n := 2) (Nat.le_of_ble_eq_true rfl)
  rw [lg_entry_eq]
  generalize (lg_sl ([.int p0, .int p1]) ++ List.replicate (2 - (lg_sl ([.int p0, .int p1])).length) Slot.unset).toArray = ls at hl ⊢
  have hl : lv_has ls 2 [(0, .int p0), (1, .int p1)] := hl
  refine lv_iload_n hx hb dX7_nextPart_0 rfl (lv_at hl 0 rfl) ?_
  refine lv_iload_n hx hb dX7_nextPart_1 rfl (lv_at hl 1 rfl) ?_
  refine lv_isub hx hb dX7_nextPart_2 ?_
  refine lv_iload_n hx hb dX7_nextPart_3 rfl (lv_at hl 1 rfl) ?_
  refine lv_iand hx hb dX7_nextPart_4 ?_
  refine W.widen (k := 0) (n := 0) (Nat.le_of_ble_eq_true rfl) (Nat.le_of_ble_eq_true rfl) ?_
  exact W.iret (v := ((p0 - p1) &&& p1)) hx hb hr (fun t ht hW => ⟨⟨((p0 - p1) &&& p1), (), rfl, rfl, ht⟩, hS.F ht⟩) hS.2.2 dX7_nextPart_5
set_option maxHeartbeats 1000000 in
set_option maxRecDepth 100000 in
theorem mz_k_split (l : Launch) (dC : Nat → ClassId) (dI : Nat → Nat → Nat) (cI cJ cZ : ClassId) (wt : Nat) (wo : Nat) (ev : Int32) (fw : Nat → Int64) (kc : Nat) (kt : Nat) (p1 : Int32) (p2 : Int32) (sz : Nat) (hkc : kc < 256) (hkt : kt < 8) (hkct : kc.testBit kt = false) (hp1 : p1 = (1 : Int32) <<< (nI kt &&& 31)) : Met l yX6_split wsX6_split ({ frames := 0, cells := 0, slots := 0, locals := 0 }) (va_Pc [.ref wt, .int (nI kc), .int p1, .int p2] (fun U => U.heap.size = sz ∧ va_P (dC, dI) vwCl [(wt, .inr (6, [.ref wo, .int ev])), (wo, .inl (cJ, 256, .inr (.inl fw)))] U.heap ∧ va_K (dC, dI) vwCl [(cI, FieldType.int), (cJ, FieldType.long), (cZ, FieldType.boolean)] U ∧ va_D (fun _ => True) [(wt, .inr (6, [.ref wo, .int ev])), (wo, .inl (cJ, 256, .inr (.inl fw)))] ∧ mz_N U)) (va_Qv (fun (_ : Unit) => True) (fun _ t => ∃ (gw : Nat → Int64), (gw = vp_updL (vp_updL fw (kc + 2 ^ kt) (fw kc * p2.toInt64)) kc (fw kc * (100 - p2).toInt64)) ∧ va_P (dC, dI) vwCl [(wt, .inr (6, [.ref wo, .int ev])), (wo, .inl (cJ, 256, .inr (.inl gw)))] t.heap ∧ va_D (va_A [(wt, .inr (6, [.ref wo, .int ev])), (wo, .inl (cJ, 256, .inr (.inl fw)))] sz) [(wt, .inr (6, [.ref wo, .int ev])), (wo, .inl (cJ, 256, .inr (.inl gw)))]) (va_A [(wt, .inr (6, [.ref wo, .int ev])), (wo, .inl (cJ, 256, .inr (.inl fw)))] sz)) 0 0 (va_A [(wt, .inr (6, [.ref wo, .int ev])), (wo, .inl (cJ, 256, .inr (.inl fw)))] sz) := by
  refine Met.ofW (cc := cX6_split) (maxL := 6) (ret := none) (by decide) rfl ?_
  intro p e s m args below meth c s₁ B hml hv
  obtain ⟨rfl, hsz, hP, hK, hD0, hN⟩ := hv
  subst hsz
  have hx := B.exec
  have hb := B.bytes
  have hr := B.returns
  have hts := atoms_spec (ws := wsX6_split) B.pre
  have hown : s.vm.findClass RX6 = some m.cls := findClass_of_methodNamed B.named
  have hlocks := B.notSynchronized
  have hD := hD0.self (sz := s.heap.size)
  generalize hAe : va_A [(wt, .inr (6, [.ref wo, .int ev])), (wo, .inl (cJ, 256, .inr (.inl fw)))] s.heap.size = A at hD ⊢
  have hA : ∀ q : Nat, s.heap.size ≤ q → A q := fun q h => by rw [← hAe]; exact Or.inr h
  have hS : va_S A s.heap s.heap [] := va_S.rf
  have hiX6 : ∀ w ∈ u_ws RX6 TX6 2, w ∈ wsX6_split := by decide +kernel
  have hl := lv_entry ([.ref wt, .int (nI kc), .int p1, .int p2]) (n := 6) (Nat.le_of_ble_eq_true rfl)
  rw [lg_entry_eq]
  generalize (lg_sl ([.ref wt, .int (nI kc), .int p1, .int p2]) ++ List.replicate (6 - (lg_sl ([.ref wt, .int (nI kc), .int p1, .int p2])).length) Slot.unset).toArray = ls at hl ⊢
  have hl : lv_has ls 6 [(0, .ref wt), (1, .int (nI kc)), (2, .int p1), (3, .int p2)] := hl
  refine lv_iload_n hx hb dX6_split_0 rfl (lv_at hl 1 rfl) ?_
  refine lv_sipush (v := 255) hx hb dX6_split_1 (by decide +kernel) ?_
  refine lv_iand hx hb dX6_split_4 ?_
  refine mz_ti (y := (nI kc)) (mz_a255 kc hkc) ?_
  refine lv_istore (lv' := [(4, .int (nI kc)), (0, .ref wt), (1, .int (nI kc)), (2, .int p1), (3, .int p2)]) hx hb dX6_split_5 hl (by decide) rfl (fun ls hl => ?_)
  refine lv_iload_n hx hb dX6_split_7 rfl (lv_at hl 2 rfl) ?_
  refine lv_iload_n hx hb dX6_split_8 rfl (lv_at hl 3 rfl) ?_
  refine lv_ior hx hb dX6_split_9 ?_
  refine lv_sipush (v := 255) hx hb dX6_split_10 (by decide +kernel) ?_
  refine lv_iand hx hb dX6_split_13 ?_
  obtain ⟨q_, hq_⟩ : ∃ q : Nat, q = kc + 2 ^ kt := ⟨_, rfl⟩
  have hq2_ : q_ < 256 := (by rw [hq_]; exact (mz_add256 kt hkt kc hkc hkct).2)
  refine mz_ti (y := (nI q_)) (by rw [hp1, hq_]; exact (mz_add256 kt hkt kc hkc hkct).1) ?_
  refine lv_istore (lv' := [(5, .int (nI q_)), (4, .int (nI kc)), (0, .ref wt), (1, .int (nI kc)), (2, .int p1), (3, .int p2)]) hx hb dX6_split_14 hl (by decide) rfl (fun ls hl => ?_)
  refine lv_aload_n hx hb dX6_split_16 rfl (lv_at hl 2 rfl) ?_
  refine va_get (D := (dC, dI)) (ci := 6) (v := .ref wo) (C := RX6) (T := TX6) (N := 2) hx hb hts hiX6 hown hK hP 0 rfl rfl 0 (by decide) (hts (.fieldLink RX6 9 "MadeItSo$Weights" "ofCase" "[J") (by decide +kernel)) (fun _ h9 => h9) rfl dX6_split_17 ?_
  refine lv_iload hx hb dX6_split_20 (lv_at hl 0 rfl) ?_
  refine lv_aload_n hx hb dX6_split_22 rfl (lv_at hl 2 rfl) ?_
  refine va_get (D := (dC, dI)) (ci := 6) (v := .ref wo) (C := RX6) (T := TX6) (N := 2) hx hb hts hiX6 hown hK hP 0 rfl rfl 0 (by decide) (hts (.fieldLink RX6 9 "MadeItSo$Weights" "ofCase" "[J") (by decide +kernel)) (fun _ h9 => h9) rfl dX6_split_23 ?_
  refine lv_iload hx hb dX6_split_26 (lv_at hl 1 rfl) ?_
  refine va_lald hx hb hK hP 1 1 rfl rfl (vp_in_nI (by omega) (by omega)) dX6_split_28 ?_
  refine mz_tl (y := (fw kc)) (by rw [mz_cl (by omega)]) ?_
  refine lv_iload_n hx hb dX6_split_29 rfl (lv_at hl 5 rfl) ?_
  refine lv_i2l hx hb dX6_split_30 rfl ?_
  refine lv_topl (fun v_30 ev_30 => ?_)
  refine lv_lmul hx hb dX6_split_31 ?_
  refine lv_topl (fun v_31 ev_31 => ?_)
  refine va_last hx hb hK hP hD hS 1 1 rfl rfl (vp_in_nI (by omega) (by omega)) dX6_split_32 (fun H locs hP hD hS => ?_)
  rw [mz_cl (n := q_) (by omega)] at hP hD
  have hP : va_P (dC, dI) vwCl [(wt, .inr (6, [.ref wo, .int ev])), (wo, .inl (cJ, 256, .inr (.inl (vp_updL fw q_ v_31))))] H := hP
  have hD : va_D A [(wt, .inr (6, [.ref wo, .int ev])), (wo, .inl (cJ, 256, .inr (.inl (vp_updL fw q_ v_31))))] := hD
  refine lv_aload_n hx hb dX6_split_33 rfl (lv_at hl 2 rfl) ?_
  refine va_get (D := (dC, dI)) (ci := 6) (v := .ref wo) (C := RX6) (T := TX6) (N := 2) hx hb hts hiX6 hown hK hP 0 rfl rfl 0 (by decide) (hts (.fieldLink RX6 9 "MadeItSo$Weights" "ofCase" "[J") (by decide +kernel)) (fun _ h9 => h9) rfl dX6_split_34 ?_
  refine lv_iload hx hb dX6_split_37 (lv_at hl 1 rfl) ?_
  refine lv_dup2_11 hx hb dX6_split_39 rfl rfl ?_
  refine va_lald hx hb hK hP 1 1 rfl rfl (vp_in_nI (by omega) (by omega)) dX6_split_40 ?_
  refine mz_tl (y := ((vp_updL fw q_ v_31) kc)) (by rw [mz_cl (by omega)]) ?_
  refine lv_bipush (v := 100) hx hb dX6_split_41 (by decide +kernel) ?_
  refine lv_iload_n hx hb dX6_split_43 rfl (lv_at hl 5 rfl) ?_
  refine lv_isub hx hb dX6_split_44 ?_
  refine lv_i2l hx hb dX6_split_45 rfl ?_
  refine lv_topl (fun v_45 ev_45 => ?_)
  refine lv_lmul hx hb dX6_split_46 ?_
  refine lv_topl (fun v_46 ev_46 => ?_)
  refine va_last hx hb hK hP hD hS 1 1 rfl rfl (vp_in_nI (by omega) (by omega)) dX6_split_47 (fun H locs hP hD hS => ?_)
  rw [mz_cl (n := kc) (by omega)] at hP hD
  have hP : va_P (dC, dI) vwCl [(wt, .inr (6, [.ref wo, .int ev])), (wo, .inl (cJ, 256, .inr (.inl (vp_updL (vp_updL fw q_ v_31) kc v_46))))] H := hP
  have hD : va_D A [(wt, .inr (6, [.ref wo, .int ev])), (wo, .inl (cJ, 256, .inr (.inl (vp_updL (vp_updL fw q_ v_31) kc v_46))))] := hD
  have hP9 := hP.sub (ws' := [(wt, .inr (6, [.ref wo, .int ev])), (wo, .inl (cJ, 256, .inr (.inl (vp_updL (vp_updL fw q_ v_31) kc v_46))))]) [0, 1] rfl
  have hD9 := hD.sub (ws' := [(wt, .inr (6, [.ref wo, .int ev])), (wo, .inl (cJ, 256, .inr (.inl (vp_updL (vp_updL fw q_ v_31) kc v_46))))]) [0, 1] (by decide) rfl
  refine W.widen (k := 0) (n := 0) (Nat.le_of_ble_eq_true rfl) (Nat.le_of_ble_eq_true rfl) ?_
  exact W.vret hx hb hr (fun t ht hW => ⟨⟨(), rfl, trivial, (vp_updL (vp_updL fw q_ v_31) kc v_46), (by rw [ev_46, pk_uLn (show kc ≠ q_ by rw [hq_]; have := Nat.two_pow_pos kt; omega), ev_45, ev_31, ev_30, hq_]), by rw [ht]; exact hP9, hD9⟩, hS.F ht⟩) hS.2.2 dX6_split_48
set_option maxHeartbeats 1000000 in
set_option maxRecDepth 100000 in
theorem mz_k_having (l : Launch) (dC : Nat → ClassId) (dI : Nat → Nat → Nat) (cI cJ cZ : ClassId) (wt : Nat) (wo : Nat) (E : Nat) (fw : Nat → Int64) (p0 : Int32) (p1 : Int32) (Hq : Heap) (hEe : E < 256) : Met l yX6_having wsX6_having ({ frames := 2, cells := 0, slots := 0, locals := 40 }) (va_Pc [.ref wt, .int p0, .int p1] (fun U => U.heap = Hq ∧ va_P (dC, dI) vwCl [(wt, .inr (6, [.ref wo, .int (nI E)])), (wo, .inl (cJ, 256, .inr (.inl fw)))] Hq ∧ va_K (dC, dI) vwCl [(cI, FieldType.int), (cJ, FieldType.long), (cZ, FieldType.boolean)] U ∧ mz_N U)) (va_Ql (fun (r : Int64) (_ : Unit) => r = (mz_hv (nI E) fw p0 p1)) (fun _ t => t.heap = Hq) (fun _ : Nat => False)) 0 0 (fun _ : Nat => False) := by
  refine Met.ofW (cc := cX6_having) (maxL := 9) (ret := (some .long)) (by decide) rfl ?_
  intro p e s m args below meth c s₁ B hml hv
  obtain ⟨rfl, hH, hP, hK, hN⟩ := hv
  subst hH
  have hx := B.exec
  have hb := B.bytes
  have hr := B.returns
  have hts := atoms_spec (ws := wsX6_having) B.pre
  have hown : s.vm.findClass RX6 = some m.cls := findClass_of_methodNamed B.named
  have hlocks := B.notSynchronized
  have hS : va_S (fun _ : Nat => False) s.heap s.heap [] := va_S.rf
  have hiX6 : ∀ w ∈ u_ws RX6 TX6 2, w ∈ wsX6_having := by decide +kernel
  have hl := lv_entry ([.ref wt, .int p0, .int p1]) (n := 9) (Nat.le_of_ble_eq_true rfl)
  rw [lg_entry_eq]
  generalize (lg_sl ([.ref wt, .int p0, .int p1]) ++ List.replicate (9 - (lg_sl ([.ref wt, .int p0, .int p1])).length) Slot.unset).toArray = ls at hl ⊢
  have hl : lv_has ls 9 [(0, .ref wt), (1, .int p0), (2, .int p1)] := hl
  refine lv_aload_n hx hb dX6_having_0 rfl (lv_at hl 0 rfl) ?_
  refine va_get (D := (dC, dI)) (ci := 6) (v := .int (nI E)) (C := RX6) (T := TX6) (N := 2) hx hb hts hiX6 hown hK hP 0 rfl rfl 1 (by decide) (hts (.fieldLink RX6 15 "MadeItSo$Weights" "everything" "I") (by decide +kernel)) (fun _ h9 => h9) rfl dX6_having_1 ?_
  refine lv_iload_n hx hb dX6_having_4 rfl (lv_at hl 1 rfl) ?_
  refine lv_iconst (v := (-1)) hx hb dX6_having_5 (by decide +kernel) ?_
  refine lv_ixor hx hb dX6_having_6 ?_
  refine lv_iand hx hb dX6_having_7 ?_
  refine lv_istore_n (lv' := [(3, .int ((nI E) &&& (p0 ^^^ (-1)))), (0, .ref wt), (1, .int p0), (2, .int p1)]) hx hb dX6_having_8 rfl hl (by decide) rfl (fun ls hl => ?_)
  refine lv_iload_n hx hb dX6_having_9 rfl (lv_at hl 0 rfl) ?_
  have hPc := hP.sub (ws' := []) [] rfl
  refine va_calli (va_runSN (As := [.int ((nI E) &&& (p0 ^^^ (-1)))]) (rest := []) ⟨hx, hb, hml, hown, hts⟩ (mz_f_partsOf l dC dI cI cJ cZ ((nI E) &&& (p0 ^^^ (-1))) s.heap (mz_fr8 hEe)) ⟨va_cnB (host := "MadeItSo") 1 hts gX6_having_X7_partsOf_n31 rfl rfl rfl (hN (RX6, 31, yX7_partsOf, "MadeItSo") (by decide +kernel)) (hts (.initialized RX7) (by decide +kernel)) (by decide +kernel) ⟨Nat.le_of_ble_eq_true rfl, Nat.le_of_ble_eq_true rfl⟩, hts (.static yX7_partsOf) (by decide +kernel), trivial⟩ ⟨fun a U g mk q => mz_blP q, fun U hU hW => ⟨rfl, hU, hPc, va_K.moved hW.alike hK, mz_nw hW hN⟩⟩ rfl rfl hl.1 rfl (lv_room (Nat.le_of_ble_eq_true rfl)) dX6_having_10 ⟨Nat.le_of_ble_eq_true rfl, Nat.le_of_ble_eq_true rfl⟩) hS (fun q _ h => h.elim) (fun q h => h.elim) (fun r_10 u t H1 locs ht hvm hw_10 hB hz1 hk1 hS => ?_)
  have hE : s.heap = H1 := hB.symm.trans ht
  subst hE
  obtain rfl : r_10 = (nI (2 ^ (mz_pc ((nI E) &&& (p0 ^^^ (-1))) 8))) := hw_10
  obtain ⟨K_, hK_⟩ : ∃ k : Nat, k = 2 ^ (mz_pc ((nI E) &&& (p0 ^^^ (-1))) 8) := ⟨_, rfl⟩
  have hK2_ : K_ ≤ 256 := (by rw [hK_]; exact mz_p8 _)
  refine mz_ti (y := (nI K_)) (by rw [hK_]) ?_
  refine lv_istore (lv' := [(4, .int (nI K_)), (3, .int ((nI E) &&& (p0 ^^^ (-1)))), (0, .ref wt), (1, .int p0), (2, .int p1)]) hx hb dX6_having_13 hl (by decide) rfl (fun ls hl => ?_)
  refine lv_lconst (v := 0) hx hb dX6_having_15 (by decide +kernel) ?_
  refine lv_lstore (lv' := [(5, .long 0), (4, .int (nI K_)), (3, .int ((nI E) &&& (p0 ^^^ (-1)))), (0, .ref wt), (1, .int p0), (2, .int p1)]) hx hb dX6_having_16 hl (by decide) rfl (fun ls hl => ?_)
  refine lv_iconst (v := 0) hx hb dX6_having_18 (by decide +kernel) ?_
  refine lv_istore (lv' := [(7, .int 0), (5, .long 0), (4, .int (nI K_)), (3, .int ((nI E) &&& (p0 ^^^ (-1)))), (0, .ref wt), (1, .int p0), (2, .int p1)]) hx hb dX6_having_19 hl (by decide) rfl (fun ls hl => ?_)
  refine lv_iconst (v := 0) hx hb dX6_having_21 (by decide +kernel) ?_
  refine lv_istore (lv' := [(8, .int 0), (7, .int 0), (5, .long 0), (4, .int (nI K_)), (3, .int ((nI E) &&& (p0 ^^^ (-1)))), (0, .ref wt), (1, .int p0), (2, .int p1)]) hx hb dX6_having_22 hl (by decide) rfl (fun ls hl => ?_)
  refine mz_loopU (fun k H locs ls => ∃ (i_24 : Nat), ∃ (x8_24 : Int32), ∃ (x5_24 : Int64), i_24 ≤ K_ ∧ (x5_24 = mz_su (fun i => fw (mz_hx ((nI E) &&& (p0 ^^^ (-1))) p1 i)) i_24) ∧ (x8_24 = nI (mz_dp ((nI E) &&& (p0 ^^^ (-1))) i_24)) ∧ H = s.heap ∧ va_S (fun _ : Nat => False) s.heap H locs ∧ lv_has ls 9 [(8, .int x8_24), (7, .int (nI i_24)), (5, .long x5_24), (4, .int (nI K_)), (3, .int ((nI E) &&& (p0 ^^^ (-1)))), (0, .ref wt), (1, .int p0), (2, .int p1)] ∧ k = K_ - i_24) ?_ _ _ _ _ ⟨0, 0, 0, by omega, rfl, (by rw [mz_dp_0]; rfl), rfl, hS, lv_sub hl [0, 1, 2, 3, 4, 5, 6, 7] rfl, rfl⟩
  intro k_24 H locs ls hI_24 ih_24
  obtain ⟨i_24, x8_24, x5_24, hi_24, hs_24, hd_24, hH_24, hS, hl, hk_24⟩ := hI_24
  subst hH_24
  refine lv_iload hx hb dX6_having_24 (lv_at hl 1 rfl) ?_
  refine lv_iload hx hb dX6_having_26 (lv_at hl 3 rfl) ?_
  refine lv_icmp_ge (tgt := 63) hx hb dX6_having_28 (by decide) (fun c_28 => ?_) (fun c_28 => ?_)
  · skip
    have d_28 : K_ ≤ i_24 := (nI_leI (a := K_) (b := i_24) (by omega) (by omega)).mp c_28
    refine lv_lload hx hb dX6_having_63 (lv_at hl 2 rfl) ?_
    refine W.widen (k := 0) (n := 0) (Nat.le_of_ble_eq_true rfl) (Nat.le_of_ble_eq_true rfl) ?_
    exact W.lret (v := x5_24) hx hb hr (fun t ht hW => ⟨⟨x5_24, (), rfl, (by rw [hs_24, show i_24 = K_ by omega, hK_]; rfl), ht⟩, hS.F ht⟩) hS.2.2 dX6_having_65
  · skip
    have d_28 : ¬ K_ ≤ i_24 := fun h => c_28 ((nI_leI (a := K_) (b := i_24) (by omega) (by omega)).mpr h)
    refine lv_lload hx hb dX6_having_31 (lv_at hl 2 rfl) ?_
    refine lv_aload_n hx hb dX6_having_33 rfl (lv_at hl 5 rfl) ?_
    refine va_get (D := (dC, dI)) (ci := 6) (v := .ref wo) (C := RX6) (T := TX6) (N := 2) hx hb hts hiX6 hown hK hP 0 rfl rfl 0 (by decide) (hts (.fieldLink RX6 9 "MadeItSo$Weights" "ofCase" "[J") (by decide +kernel)) (fun _ h9 => h9) rfl dX6_having_34 ?_
    refine lv_iload_n hx hb dX6_having_37 rfl (lv_at hl 7 rfl) ?_
    refine lv_iload hx hb dX6_having_38 (lv_at hl 0 rfl) ?_
    refine lv_ior hx hb dX6_having_40 ?_
    refine lv_sipush (v := 255) hx hb dX6_having_41 (by decide +kernel) ?_
    refine lv_iand hx hb dX6_having_44 ?_
    have hh_ := mz_hx_lt ((nI E) &&& (p0 ^^^ (-1))) p1 i_24
    refine mz_ti (y := (nI (mz_hx ((nI E) &&& (p0 ^^^ (-1))) p1 i_24))) (by rw [hd_24]; exact mz_hx_i) ?_
    refine va_lald hx hb hK hP 1 1 rfl rfl (vp_in_nI (by omega) (by omega)) dX6_having_45 ?_
    refine mz_tl (y := (fw (mz_hx ((nI E) &&& (p0 ^^^ (-1))) p1 i_24))) (by rw [mz_cl (by omega)]) ?_
    refine lv_ladd hx hb dX6_having_46 ?_
    refine lv_topl (fun v_46 ev_46 => ?_)
    refine lv_lstore (lv' := [(5, .long v_46), (8, .int x8_24), (7, .int (nI i_24)), (4, .int (nI K_)), (3, .int ((nI E) &&& (p0 ^^^ (-1)))), (0, .ref wt), (1, .int p0), (2, .int p1)]) hx hb dX6_having_47 hl (by decide) rfl (fun ls hl => ?_)
    refine lv_iinc (v := (nI (i_24 + 1))) (lv' := [(7, .int (nI (i_24 + 1))), (5, .long v_46), (8, .int x8_24), (4, .int (nI K_)), (3, .int ((nI E) &&& (p0 ^^^ (-1)))), (0, .ref wt), (1, .int p0), (2, .int p1)]) hx hb dX6_having_49 hl (k := 2) rfl (nI_1 _) (by decide) rfl (fun ls hl => ?_)
    refine lv_iload hx hb dX6_having_52 (lv_at hl 2 rfl) ?_
    refine lv_iload_n hx hb dX6_having_54 rfl (lv_at hl 4 rfl) ?_
    have hPc := hP.sub (ws' := []) [] rfl
    refine va_calli (va_runSN (As := [.int x8_24, .int ((nI E) &&& (p0 ^^^ (-1)))]) (rest := []) ⟨hx, hb, hml, hown, hts⟩ (mz_k_nextPart l dC dI cI cJ cZ x8_24 ((nI E) &&& (p0 ^^^ (-1))) s.heap ) ⟨va_cnB (host := "MadeItSo") 2 hts gX6_having_X7_nextPart_n47 rfl rfl rfl (hN (RX6, 47, yX7_nextPart, "MadeItSo") (by decide +kernel)) (hts (.initialized RX7) (by decide +kernel)) (by decide +kernel) ⟨Nat.le_of_ble_eq_true rfl, Nat.le_of_ble_eq_true rfl⟩, hts (.static yX7_nextPart) (by decide +kernel), trivial⟩ ⟨fun a U g mk q => mz_blP q, fun U hU hW => ⟨rfl, hU, hPc, va_K.moved hW.alike hK, mz_nw hW hN⟩⟩ rfl rfl hl.1 rfl (lv_room (Nat.le_of_ble_eq_true rfl)) dX6_having_55 ⟨Nat.le_of_ble_eq_true rfl, Nat.le_of_ble_eq_true rfl⟩) hS (fun q _ h => h.elim) (fun q h => h.elim) (fun r_55 u t H1 locs ht hvm hw_55 hB hz1 hk1 hS => ?_)
    have hE : s.heap = H1 := hB.symm.trans ht
    subst hE
    obtain rfl : r_55 = ((x8_24 - ((nI E) &&& (p0 ^^^ (-1)))) &&& ((nI E) &&& (p0 ^^^ (-1)))) := hw_55
    refine lv_istore (lv' := [(8, .int ((x8_24 - ((nI E) &&& (p0 ^^^ (-1)))) &&& ((nI E) &&& (p0 ^^^ (-1))))), (7, .int (nI (i_24 + 1))), (5, .long v_46), (4, .int (nI K_)), (3, .int ((nI E) &&& (p0 ^^^ (-1)))), (0, .ref wt), (1, .int p0), (2, .int p1)]) hx hb dX6_having_58 hl (by decide) rfl (fun ls hl => ?_)
    refine lv_goto (tgt := 24) hx hb dX6_having_60 (by decide) ?_
    exact ih_24 _ (by omega) _ _ _ ⟨(i_24 + 1), ((x8_24 - ((nI E) &&& (p0 ^^^ (-1)))) &&& ((nI E) &&& (p0 ^^^ (-1)))), v_46, by omega, (by rw [ev_46, hs_24]; rfl), (by rw [hd_24]; exact mz_nxt (mz_fr8 hEe) (by rw [← hK_]; omega)), rfl, hS, lv_sub hl [0, 1, 2, 3, 4, 5, 6, 7] rfl, rfl⟩
set_option maxHeartbeats 1000000 in
set_option maxRecDepth 100000 in
theorem mz_k_weigh (l : Launch) (dC : Nat → ClassId) (dI : Nat → Nat → Nat) (cI cJ cZ : ClassId) (wt : Nat) (wo : Nat) (ev : Int32) (fw : Nat → Int64) (dr : Nat) (dp : Nat) (dc : Nat) (n : Nat) (fp : Nat → Int32) (bk : Nat) (bp : Nat) (fb : Nat → Int32) (p3 : Int32) (sz : Nat) (hn : n ≤ 8) (ha : mz_acy n fp) (hself : ∀ k, k < n → ∀ on, mz_rw (fp k) on 8 < 128) : Met l yX6_weigh wsX6_weigh ({ frames := 3, cells := 0, slots := 0, locals := 69 }) (va_Pc [.ref wt, .ref dr, .ref bk, .int p3] (fun U => U.heap.size = sz ∧ va_P (dC, dI) vwCl [(wt, .inr (6, [.ref wo, .int ev])), (wo, .inl (cJ, 256, .inr (.inl fw))), (dr, .inr (2, [.ref dp, .ref dc, .int (nI n)])), (dp, .inl (cI, 8, .inl fp)), (bk, .inr (1, [.ref bp])), (bp, .inl (cI, 1024, .inl fb))] U.heap ∧ va_K (dC, dI) vwCl [(cI, FieldType.int), (cJ, FieldType.long), (cZ, FieldType.boolean)] U ∧ va_D (fun _ => True) [(wt, .inr (6, [.ref wo, .int ev])), (wo, .inl (cJ, 256, .inr (.inl fw))), (dr, .inr (2, [.ref dp, .ref dc, .int (nI n)])), (dp, .inl (cI, 8, .inl fp)), (bk, .inr (1, [.ref bp])), (bp, .inl (cI, 1024, .inl fb))] ∧ mz_N U)) (va_Qv (fun (_ : Unit) => True) (fun _ t => ∃ (gw : Nat → Int64), (∀ c, c < 2 ^ n → gw c = mz_wt n fp fb p3 c) ∧ va_P (dC, dI) vwCl [(wt, .inr (6, [.ref wo, .int (nI ((2 ^ n - 1)))])), (wo, .inl (cJ, 256, .inr (.inl gw))), (dr, .inr (2, [.ref dp, .ref dc, .int (nI n)])), (dp, .inl (cI, 8, .inl fp)), (bk, .inr (1, [.ref bp])), (bp, .inl (cI, 1024, .inl fb))] t.heap ∧ va_D (va_A [(wt, .inr (6, [.ref wo, .int ev])), (wo, .inl (cJ, 256, .inr (.inl fw))), (dr, .inr (2, [.ref dp, .ref dc, .int (nI n)])), (dp, .inl (cI, 8, .inl fp)), (bk, .inr (1, [.ref bp])), (bp, .inl (cI, 1024, .inl fb))] sz) [(wt, .inr (6, [.ref wo, .int (nI ((2 ^ n - 1)))])), (wo, .inl (cJ, 256, .inr (.inl gw))), (dr, .inr (2, [.ref dp, .ref dc, .int (nI n)])), (dp, .inl (cI, 8, .inl fp)), (bk, .inr (1, [.ref bp])), (bp, .inl (cI, 1024, .inl fb))]) (va_A [(wt, .inr (6, [.ref wo, .int ev])), (wo, .inl (cJ, 256, .inr (.inl fw))), (dr, .inr (2, [.ref dp, .ref dc, .int (nI n)])), (dp, .inl (cI, 8, .inl fp)), (bk, .inr (1, [.ref bp])), (bp, .inl (cI, 1024, .inl fb))] sz)) 0 0 (va_A [(wt, .inr (6, [.ref wo, .int ev])), (wo, .inl (cJ, 256, .inr (.inl fw))), (dr, .inr (2, [.ref dp, .ref dc, .int (nI n)])), (dp, .inl (cI, 8, .inl fp)), (bk, .inr (1, [.ref bp])), (bp, .inl (cI, 1024, .inl fb))] sz) := by
  refine Met.ofW (cc := cX6_weigh) (maxL := 10) (ret := none) (by decide) rfl ?_
  intro p e s m args below meth c s₁ B hml hv
  obtain ⟨rfl, hsz, hP, hK, hD0, hN⟩ := hv
  subst hsz
  have hx := B.exec
  have hb := B.bytes
  have hr := B.returns
  have hts := atoms_spec (ws := wsX6_weigh) B.pre
  have hown : s.vm.findClass RX6 = some m.cls := findClass_of_methodNamed B.named
  have hlocks := B.notSynchronized
  have hD := hD0.self (sz := s.heap.size)
  generalize hAe : va_A [(wt, .inr (6, [.ref wo, .int ev])), (wo, .inl (cJ, 256, .inr (.inl fw))), (dr, .inr (2, [.ref dp, .ref dc, .int (nI n)])), (dp, .inl (cI, 8, .inl fp)), (bk, .inr (1, [.ref bp])), (bp, .inl (cI, 1024, .inl fb))] s.heap.size = A at hD ⊢
  have hA : ∀ q : Nat, s.heap.size ≤ q → A q := fun q h => by rw [← hAe]; exact Or.inr h
  have hS : va_S A s.heap s.heap [] := va_S.rf
  have hiX6 : ∀ w ∈ u_ws RX6 TX6 2, w ∈ wsX6_weigh := by decide +kernel
  have hl := lv_entry ([.ref wt, .ref dr, .ref bk, .int p3]) (n := 10) (Nat.le_of_ble_eq_true rfl)
  rw [lg_entry_eq]
  generalize (lg_sl ([.ref wt, .ref dr, .ref bk, .int p3]) ++ List.replicate (10 - (lg_sl ([.ref wt, .ref dr, .ref bk, .int p3])).length) Slot.unset).toArray = ls at hl ⊢
  have hl : lv_has ls 10 [(0, .ref wt), (1, .ref dr), (2, .ref bk), (3, .int p3)] := hl
  refine lv_aload_n hx hb dX6_weigh_0 rfl (lv_at hl 0 rfl) ?_
  refine lv_aload_n hx hb dX6_weigh_1 rfl (lv_at hl 1 rfl) ?_
  have hPc := hP.sub (ws' := [(dr, .inr (2, [.ref dp, .ref dc, .int (nI n)]))]) [2] rfl
  refine va_calli (va_runV (As := []) (rest := [.ref wt]) ⟨hx, hb, hml, hown, hts⟩ (mz_h_everything l dC dI cI cJ cZ dr dp dc n s.heap (by first | assumption | omega)) (cwV 0 hts gX6_weigh_X2_everything rfl rfl rfl (by decide +kernel) ⟨Nat.le_of_ble_eq_true rfl, Nat.le_of_ble_eq_true rfl⟩) ⟨fun a U g mk q => mz_blP q, va_recv hK hPc (ci := 2) (q0 := 0) rfl rfl, fun U hU hW => ⟨rfl, hU, hPc, va_K.moved hW.alike hK, mz_nw hW hN⟩⟩ rfl rfl hl.1 rfl (lv_room (Nat.le_of_ble_eq_true rfl)) dX6_weigh_2 ⟨Nat.le_of_ble_eq_true rfl, Nat.le_of_ble_eq_true rfl⟩) hS (fun q _ h => h.elim) (fun q h => h.elim) (fun r_2 u t H1 locs ht hvm hw_2 hB hz1 hk1 hS => ?_)
  have hE : s.heap = H1 := hB.symm.trans ht
  subst hE
  obtain rfl : r_2 = (nI (2 ^ n - 1)) := hw_2
  refine va_put (D := (dC, dI)) (ci := 6) (v := .int (nI (2 ^ n - 1))) (ty := .int) (C := RX6) (T := TX6) (N := 2) hx hb hts hiX6 tyX6 tyX6_ok nmX6 hown hK hP hD hS 0 rfl rfl 1 (by decide) (hts (.fieldLink RX6 15 "MadeItSo$Weights" "everything" "I") (by decide +kernel)) (fun _ h9 => h9) rfl (by decide +kernel) rfl rfl (Nat.le_of_ble_eq_true rfl) dX6_weigh_5 (fun H locs hP hD hS => ?_)
  have hP : va_P (dC, dI) vwCl [(wt, .inr (6, [.ref wo, .int (nI (2 ^ n - 1))])), (wo, .inl (cJ, 256, .inr (.inl fw))), (dr, .inr (2, [.ref dp, .ref dc, .int (nI n)])), (dp, .inl (cI, 8, .inl fp)), (bk, .inr (1, [.ref bp])), (bp, .inl (cI, 1024, .inl fb))] H := hP
  have hD : va_D A [(wt, .inr (6, [.ref wo, .int (nI (2 ^ n - 1))])), (wo, .inl (cJ, 256, .inr (.inl fw))), (dr, .inr (2, [.ref dp, .ref dc, .int (nI n)])), (dp, .inl (cI, 8, .inl fp)), (bk, .inr (1, [.ref bp])), (bp, .inl (cI, 1024, .inl fb))] := hD
  refine lv_aload_n hx hb dX6_weigh_8 rfl (lv_at hl 0 rfl) ?_
  refine va_get (D := (dC, dI)) (ci := 6) (v := .ref wo) (C := RX6) (T := TX6) (N := 2) hx hb hts hiX6 hown hK hP 0 rfl rfl 0 (by decide) (hts (.fieldLink RX6 9 "MadeItSo$Weights" "ofCase" "[J") (by decide +kernel)) (fun _ h9 => h9) rfl dX6_weigh_9 ?_
  refine lv_iconst (v := 0) hx hb dX6_weigh_12 (by decide +kernel) ?_
  refine lv_lconst (v := 1) hx hb dX6_weigh_13 (by decide +kernel) ?_
  refine va_last hx hb hK hP hD hS 1 1 rfl rfl (mz_in (by decide +kernel)) dX6_weigh_14 (fun H locs hP hD hS => ?_)
  rw [show (0 : Int32).toNatClampNeg = 0 by decide] at hP hD
  have hP : va_P (dC, dI) vwCl [(wt, .inr (6, [.ref wo, .int (nI (2 ^ n - 1))])), (wo, .inl (cJ, 256, .inr (.inl (vp_updL fw 0 1)))), (dr, .inr (2, [.ref dp, .ref dc, .int (nI n)])), (dp, .inl (cI, 8, .inl fp)), (bk, .inr (1, [.ref bp])), (bp, .inl (cI, 1024, .inl fb))] H := hP
  have hD : va_D A [(wt, .inr (6, [.ref wo, .int (nI (2 ^ n - 1))])), (wo, .inl (cJ, 256, .inr (.inl (vp_updL fw 0 1)))), (dr, .inr (2, [.ref dp, .ref dc, .int (nI n)])), (dp, .inl (cI, 8, .inl fp)), (bk, .inr (1, [.ref bp])), (bp, .inl (cI, 1024, .inl fb))] := hD
  refine lv_iconst (v := 0) hx hb dX6_weigh_15 (by decide +kernel) ?_
  refine lv_istore (lv' := [(4, .int 0), (0, .ref wt), (1, .ref dr), (2, .ref bk), (3, .int p3)]) hx hb dX6_weigh_16 hl (by decide) rfl (fun ls hl => ?_)
  refine lv_iconst (v := 0) hx hb dX6_weigh_18 (by decide +kernel) ?_
  refine lv_istore (lv' := [(5, .int 0), (4, .int 0), (0, .ref wt), (1, .ref dr), (2, .ref bk), (3, .int p3)]) hx hb dX6_weigh_19 hl (by decide) rfl (fun ls hl => ?_)
  refine mz_loopU (fun k H locs ls => ∃ (i_21 : Nat), ∃ (x4_21 : Int32), ∃ (fwo_21 : Nat → Int64), i_21 ≤ n ∧ (mz_wv n fp fb p3 x4_21 fwo_21) ∧ (mz_cl3 n fp x4_21) ∧ (∀ j, j < 32 → mz_t x4_21 j = true → j < n) ∧ (n ≤ mz_un x4_21 n + i_21) ∧ (mz_un x4_21 n + i_21 ≤ n) ∧ va_P (dC, dI) vwCl [(wt, .inr (6, [.ref wo, .int (nI (2 ^ n - 1))])), (wo, .inl (cJ, 256, .inr (.inl fwo_21))), (dr, .inr (2, [.ref dp, .ref dc, .int (nI n)])), (dp, .inl (cI, 8, .inl fp)), (bk, .inr (1, [.ref bp])), (bp, .inl (cI, 1024, .inl fb))] H ∧ va_D A [(wt, .inr (6, [.ref wo, .int (nI (2 ^ n - 1))])), (wo, .inl (cJ, 256, .inr (.inl fwo_21))), (dr, .inr (2, [.ref dp, .ref dc, .int (nI n)])), (dp, .inl (cI, 8, .inl fp)), (bk, .inr (1, [.ref bp])), (bp, .inl (cI, 1024, .inl fb))] ∧ va_S A s.heap H locs ∧ lv_has ls 10 [(5, .int (nI i_21)), (4, .int x4_21), (0, .ref wt), (1, .ref dr), (2, .ref bk), (3, .int p3)] ∧ k = n - i_21) ?_ _ _ _ _ ⟨0, 0, (vp_updL fw 0 1), by omega, mz_wv_0, mz_cl3_0, (fun j _ h => absurd h (by rw [mz_t_0]; decide)), (mz_un_0 hn), (mz_un_le _ n), hP, hD, hS, lv_sub hl [0, 1, 2, 3, 4, 5] rfl, rfl⟩
  intro k_21 H locs ls hI_21 ih_21
  obtain ⟨i_21, x4_21, fwo_21, hi_21, hv_21, hcl_21, hcm_21, hu_21, hw_21, hP, hD, hS, hl, hk_21⟩ := hI_21
  refine lv_iload hx hb dX6_weigh_21 (lv_at hl 0 rfl) ?_
  refine lv_aload_n hx hb dX6_weigh_23 rfl (lv_at hl 3 rfl) ?_
  have hPc := hP.sub (ws' := [(dr, .inr (2, [.ref dp, .ref dc, .int (nI n)]))]) [2] rfl
  refine va_calli (va_runV (As := []) (rest := [.int (nI i_21)]) ⟨hx, hb, hml, hown, hts⟩ (mz_d_size l dC dI cI cJ cZ dr dp dc n H ) (cwV 0 hts gX6_weigh_X2_size rfl rfl rfl (by decide +kernel) ⟨Nat.le_of_ble_eq_true rfl, Nat.le_of_ble_eq_true rfl⟩) ⟨fun a U g mk q => mz_blP q, va_recv hK hPc (ci := 2) (q0 := 0) rfl rfl, fun U hU hW => ⟨rfl, hU, hPc, va_K.moved hW.alike hK, mz_nw hW hN⟩⟩ rfl rfl hl.1 rfl (lv_room (Nat.le_of_ble_eq_true rfl)) dX6_weigh_24 ⟨Nat.le_of_ble_eq_true rfl, Nat.le_of_ble_eq_true rfl⟩) hS (fun q _ h => h.elim) (fun q h => h.elim) (fun r_24 u t H1 locs ht hvm hw_24 hB hz1 hk1 hS => ?_)
  have hE : H = H1 := hB.symm.trans ht
  subst hE
  obtain rfl : r_24 = (nI n) := hw_24
  refine lv_icmp_ge (tgt := 119) hx hb dX6_weigh_27 (by decide) (fun c_27 => ?_) (fun c_27 => ?_)
  · skip
    have d_27 : n ≤ i_21 := (nI_leI (a := n) (b := i_21) (by omega) (by omega)).mp c_27
    have hP9 := hP.sub (ws' := [(wt, .inr (6, [.ref wo, .int (nI ((2 ^ n - 1)))])), (wo, .inl (cJ, 256, .inr (.inl fwo_21))), (dr, .inr (2, [.ref dp, .ref dc, .int (nI n)])), (dp, .inl (cI, 8, .inl fp)), (bk, .inr (1, [.ref bp])), (bp, .inl (cI, 1024, .inl fb))]) [0, 1, 2, 3, 4, 5] rfl
    have hD9 := hD.sub (ws' := [(wt, .inr (6, [.ref wo, .int (nI ((2 ^ n - 1)))])), (wo, .inl (cJ, 256, .inr (.inl fwo_21))), (dr, .inr (2, [.ref dp, .ref dc, .int (nI n)])), (dp, .inl (cI, 8, .inl fp)), (bk, .inr (1, [.ref bp])), (bp, .inl (cI, 1024, .inl fb))]) [0, 1, 2, 3, 4, 5] (by decide) rfl
    refine W.widen (k := 0) (n := 0) (Nat.le_of_ble_eq_true rfl) (Nat.le_of_ble_eq_true rfl) ?_
    exact W.vret hx hb hr (fun t ht hW => ⟨⟨(), rfl, trivial, fwo_21, (mz_wv_end hn (by omega) hv_21), by rw [ht]; exact hP9, hD9⟩, hS.F ht⟩) hS.2.2 dX6_weigh_119
  · skip
    have d_27 : ¬ n ≤ i_21 := fun h => c_27 ((nI_leI (a := n) (b := i_21) (by omega) (by omega)).mpr h)
    obtain ⟨T_, hT_⟩ : ∃ t : Nat, t = mz_nk fp x4_21 n := ⟨_, rfl⟩
    have hex_ := mz_ok_ex ha hn hu_21 (show i_21 < n by omega)
    have hk_ := mz_nk_ok hex_
    rw [← hT_] at hk_
    have hkn_ := hk_.1
    have hkt_ := (mz_ok_t hk_.2).1
    refine lv_aload_n hx hb dX6_weigh_30 rfl (lv_at hl 3 rfl) ?_
    refine lv_iload hx hb dX6_weigh_31 (lv_at hl 1 rfl) ?_
    have hPc := hP.sub (ws' := [(dr, .inr (2, [.ref dp, .ref dc, .int (nI n)])), (dp, .inl (cI, 8, .inl fp))]) [2, 3] rfl
    refine va_calli (va_runV (As := [.int x4_21]) (rest := []) ⟨hx, hb, hml, hown, hts⟩ (mz_h_nextAfter l dC dI cI cJ cZ dr dp dc n fp x4_21 H (by first | assumption | omega) hex_) (cwV 1 hts gX6_weigh_X2_nextAfter rfl rfl rfl (by decide +kernel) ⟨Nat.le_of_ble_eq_true rfl, Nat.le_of_ble_eq_true rfl⟩) ⟨fun a U g mk q => mz_blP q, va_recv hK hPc (ci := 2) (q0 := 0) rfl rfl, fun U hU hW => ⟨rfl, hU, hPc, va_K.moved hW.alike hK, mz_nw hW hN⟩⟩ rfl rfl hl.1 rfl (lv_room (Nat.le_of_ble_eq_true rfl)) dX6_weigh_33 ⟨Nat.le_of_ble_eq_true rfl, Nat.le_of_ble_eq_true rfl⟩) hS (fun q _ h => h.elim) (fun q h => h.elim) (fun r_33 u t H1 locs ht hvm hw_33 hB hz1 hk1 hS => ?_)
    have hE : H = H1 := hB.symm.trans ht
    subst hE
    obtain rfl : r_33 = (nI (mz_nk fp x4_21 n)) := hw_33
    refine mz_ti (y := (nI T_)) (by rw [hT_]) ?_
    refine lv_istore (lv' := [(6, .int (nI T_)), (5, .int (nI i_21)), (4, .int x4_21), (0, .ref wt), (1, .ref dr), (2, .ref bk), (3, .int p3)]) hx hb dX6_weigh_36 hl (by decide) rfl (fun ls hl => ?_)
    refine lv_iload hx hb dX6_weigh_38 (lv_at hl 0 rfl) ?_
    refine lv_iconst (v := (-1)) hx hb dX6_weigh_40 (by decide +kernel) ?_
    refine lv_icmp_ne (tgt := 47) hx hb dX6_weigh_41 (by decide) (fun _ => ?_) (fun c_41 => absurd c_41 (mz_ne1 (by omega)))
    refine lv_iload hx hb dX6_weigh_47 (lv_at hl 2 rfl) ?_
    have hPc := hP.sub (ws' := []) [] rfl
    refine va_calli (va_runSN (As := [.int x4_21]) (rest := []) ⟨hx, hb, hml, hown, hts⟩ (mz_f_partsOf l dC dI cI cJ cZ x4_21 H (fun j hj hx => Nat.lt_of_lt_of_le (hcm_21 j hj hx) hn)) ⟨va_cnB (host := "MadeItSo") 1 hts gX6_weigh_X7_partsOf_n31 rfl rfl rfl (hN (RX6, 31, yX7_partsOf, "MadeItSo") (by decide +kernel)) (hts (.initialized RX7) (by decide +kernel)) (by decide +kernel) ⟨Nat.le_of_ble_eq_true rfl, Nat.le_of_ble_eq_true rfl⟩, hts (.static yX7_partsOf) (by decide +kernel), trivial⟩ ⟨fun a U g mk q => mz_blP q, fun U hU hW => ⟨rfl, hU, hPc, va_K.moved hW.alike hK, mz_nw hW hN⟩⟩ rfl rfl hl.1 rfl (lv_room (Nat.le_of_ble_eq_true rfl)) dX6_weigh_49 ⟨Nat.le_of_ble_eq_true rfl, Nat.le_of_ble_eq_true rfl⟩) hS (fun q _ h => h.elim) (fun q h => h.elim) (fun r_49 u t H1 locs ht hvm hw_49 hB hz1 hk1 hS => ?_)
    have hE : H = H1 := hB.symm.trans ht
    subst hE
    obtain rfl : r_49 = (nI (2 ^ (mz_pc x4_21 8))) := hw_49
    obtain ⟨K_, hK_⟩ : ∃ k : Nat, k = 2 ^ (mz_pc x4_21 8) := ⟨_, rfl⟩
    have hK2_ : K_ ≤ 256 := (by rw [hK_]; exact mz_p8 _)
    refine mz_ti (y := (nI K_)) (by rw [hK_]) ?_
    refine lv_istore (lv' := [(7, .int (nI K_)), (6, .int (nI T_)), (5, .int (nI i_21)), (4, .int x4_21), (0, .ref wt), (1, .ref dr), (2, .ref bk), (3, .int p3)]) hx hb dX6_weigh_52 hl (by decide) rfl (fun ls hl => ?_)
    refine lv_iconst (v := 0) hx hb dX6_weigh_54 (by decide +kernel) ?_
    refine lv_istore (lv' := [(8, .int 0), (7, .int (nI K_)), (6, .int (nI T_)), (5, .int (nI i_21)), (4, .int x4_21), (0, .ref wt), (1, .ref dr), (2, .ref bk), (3, .int p3)]) hx hb dX6_weigh_55 hl (by decide) rfl (fun ls hl => ?_)
    refine lv_iconst (v := 0) hx hb dX6_weigh_57 (by decide +kernel) ?_
    refine lv_istore (lv' := [(9, .int 0), (8, .int 0), (7, .int (nI K_)), (6, .int (nI T_)), (5, .int (nI i_21)), (4, .int x4_21), (0, .ref wt), (1, .ref dr), (2, .ref bk), (3, .int p3)]) hx hb dX6_weigh_58 hl (by decide) rfl (fun ls hl => ?_)
    refine mz_loopU (fun k H locs ls => ∃ (i_60 : Nat), ∃ (x9_60 : Int32), ∃ (fwo_60 : Nat → Int64), i_60 ≤ K_ ∧ (x9_60 = nI (mz_dp x4_21 i_60)) ∧ (mz_sp x4_21 T_ (fun c => mz_pu fp fb p3 T_ (nI c)) fwo_21 i_60 fwo_60) ∧ va_P (dC, dI) vwCl [(wt, .inr (6, [.ref wo, .int (nI (2 ^ n - 1))])), (wo, .inl (cJ, 256, .inr (.inl fwo_60))), (dr, .inr (2, [.ref dp, .ref dc, .int (nI n)])), (dp, .inl (cI, 8, .inl fp)), (bk, .inr (1, [.ref bp])), (bp, .inl (cI, 1024, .inl fb))] H ∧ va_D A [(wt, .inr (6, [.ref wo, .int (nI (2 ^ n - 1))])), (wo, .inl (cJ, 256, .inr (.inl fwo_60))), (dr, .inr (2, [.ref dp, .ref dc, .int (nI n)])), (dp, .inl (cI, 8, .inl fp)), (bk, .inr (1, [.ref bp])), (bp, .inl (cI, 1024, .inl fb))] ∧ va_S A s.heap H locs ∧ lv_has ls 10 [(9, .int x9_60), (8, .int (nI i_60)), (7, .int (nI K_)), (6, .int (nI T_)), (5, .int (nI i_21)), (4, .int x4_21), (0, .ref wt), (1, .ref dr), (2, .ref bk), (3, .int p3)] ∧ k = K_ - i_60) ?_ _ _ _ _ ⟨0, 0, fwo_21, by omega, (by rw [mz_dp_0]; rfl), mz_sp_0, hP, hD, hS, lv_sub hl [0, 1, 2, 3, 4, 5, 6, 7, 8, 9] rfl, rfl⟩
    intro k_60 H locs ls hI_60 ih_60
    obtain ⟨i_60, x9_60, fwo_60, hi_60, hd_60, hs_60, hP, hD, hS, hl, hk_60⟩ := hI_60
    subst hd_60
    refine lv_iload hx hb dX6_weigh_60 (lv_at hl 1 rfl) ?_
    refine lv_iload hx hb dX6_weigh_62 (lv_at hl 2 rfl) ?_
    refine lv_icmp_ge (tgt := 103) hx hb dX6_weigh_64 (by decide) (fun c_64 => ?_) (fun c_64 => ?_)
    · skip
      have d_64 : K_ ≤ i_60 := (nI_leI (a := K_) (b := i_60) (by omega) (by omega)).mp c_64
      refine lv_iload hx hb dX6_weigh_103 (lv_at hl 5 rfl) ?_
      refine lv_iload hx hb dX6_weigh_105 (lv_at hl 3 rfl) ?_
      have hPc := hP.sub (ws' := []) [] rfl
      refine va_calli (va_runSN (As := [.int (nI T_)]) (rest := [.int x4_21]) ⟨hx, hb, hml, hown, hts⟩ (mz_g_bit l dC dI cI cJ cZ (nI T_) H ) ⟨va_cnB (host := "MadeItSo") 1 hts gX6_weigh_X7_bit_n34 rfl rfl rfl (hN (RX6, 34, yX7_bit, "MadeItSo") (by decide +kernel)) (hts (.initialized RX7) (by decide +kernel)) (by decide +kernel) ⟨Nat.le_of_ble_eq_true rfl, Nat.le_of_ble_eq_true rfl⟩, hts (.static yX7_bit) (by decide +kernel), trivial⟩ ⟨fun a U g mk q => mz_blP q, fun U hU hW => ⟨rfl, hU, hPc, va_K.moved hW.alike hK, mz_nw hW hN⟩⟩ rfl rfl hl.1 rfl (lv_room (Nat.le_of_ble_eq_true rfl)) dX6_weigh_107 ⟨Nat.le_of_ble_eq_true rfl, Nat.le_of_ble_eq_true rfl⟩) hS (fun q _ h => h.elim) (fun q h => h.elim) (fun r_107 u t H1 locs ht hvm hw_107 hB hz1 hk1 hS => ?_)
      have hE : H = H1 := hB.symm.trans ht
      subst hE
      obtain rfl : r_107 = (1 <<< ((nI T_) &&& 31)) := hw_107
      refine lv_ior hx hb dX6_weigh_110 ?_
      refine lv_istore (lv' := [(4, .int (x4_21 ||| (1 <<< ((nI T_) &&& 31)))), (9, .int (nI (mz_dp x4_21 i_60))), (8, .int (nI i_60)), (7, .int (nI K_)), (6, .int (nI T_)), (5, .int (nI i_21)), (0, .ref wt), (1, .ref dr), (2, .ref bk), (3, .int p3)]) hx hb dX6_weigh_111 hl (by decide) rfl (fun ls hl => ?_)
      refine lv_iinc (v := (nI (i_21 + 1))) (lv' := [(5, .int (nI (i_21 + 1))), (4, .int (x4_21 ||| (1 <<< ((nI T_) &&& 31)))), (9, .int (nI (mz_dp x4_21 i_60))), (8, .int (nI i_60)), (7, .int (nI K_)), (6, .int (nI T_)), (0, .ref wt), (1, .ref dr), (2, .ref bk), (3, .int p3)]) hx hb dX6_weigh_113 hl (k := 5) rfl (nI_1 _) (by decide) rfl (fun ls hl => ?_)
      refine lv_goto (tgt := 21) hx hb dX6_weigh_116 (by decide) ?_
      exact ih_21 _ (by omega) _ _ _ ⟨(i_21 + 1), (x4_21 ||| (1 <<< ((nI T_) &&& 31))), fwo_60, by omega, (mz_wv_s hn hkn_ hk_.2 hcl_21 hcm_21 hv_21 (by rw [← hK_, ← show i_60 = K_ by omega]; exact hs_60)), (mz_cl3_s hk_.2 (by omega) hcl_21), (mz_bs_up hkn_ hn hcm_21), (mz_un_next hn hkn_ hu_21), (mz_un_dn hn hkn_ hkt_ hw_21), hP, hD, hS, lv_sub hl [0, 1, 6, 7, 8, 9] rfl, rfl⟩
    · skip
      have d_64 : ¬ K_ ≤ i_60 := fun h => c_64 ((nI_leI (a := K_) (b := i_60) (by omega) (by omega)).mpr h)
      refine lv_aload_n hx hb dX6_weigh_67 rfl (lv_at hl 6 rfl) ?_
      refine lv_iload hx hb dX6_weigh_68 (lv_at hl 0 rfl) ?_
      refine lv_iload hx hb dX6_weigh_70 (lv_at hl 3 rfl) ?_
      have hPc := hP.sub (ws' := []) [] rfl
      refine va_calli (va_runSN (As := [.int (nI T_)]) (rest := [.int (nI (mz_dp x4_21 i_60)), .ref wt]) ⟨hx, hb, hml, hown, hts⟩ (mz_g_bit l dC dI cI cJ cZ (nI T_) H ) ⟨va_cnB (host := "MadeItSo") 1 hts gX6_weigh_X7_bit_n34 rfl rfl rfl (hN (RX6, 34, yX7_bit, "MadeItSo") (by decide +kernel)) (hts (.initialized RX7) (by decide +kernel)) (by decide +kernel) ⟨Nat.le_of_ble_eq_true rfl, Nat.le_of_ble_eq_true rfl⟩, hts (.static yX7_bit) (by decide +kernel), trivial⟩ ⟨fun a U g mk q => mz_blP q, fun U hU hW => ⟨rfl, hU, hPc, va_K.moved hW.alike hK, mz_nw hW hN⟩⟩ rfl rfl hl.1 rfl (lv_room (Nat.le_of_ble_eq_true rfl)) dX6_weigh_72 ⟨Nat.le_of_ble_eq_true rfl, Nat.le_of_ble_eq_true rfl⟩) hS (fun q _ h => h.elim) (fun q h => h.elim) (fun r_72 u t H1 locs ht hvm hw_72 hB hz1 hk1 hS => ?_)
      have hE : H = H1 := hB.symm.trans ht
      subst hE
      obtain rfl : r_72 = (1 <<< ((nI T_) &&& 31)) := hw_72
      refine lv_aload_n hx hb dX6_weigh_75 rfl (lv_at hl 8 rfl) ?_
      refine lv_aload_n hx hb dX6_weigh_76 rfl (lv_at hl 7 rfl) ?_
      refine lv_iload hx hb dX6_weigh_77 (lv_at hl 3 rfl) ?_
      refine lv_iload hx hb dX6_weigh_79 (lv_at hl 0 rfl) ?_
      refine lv_iload_n hx hb dX6_weigh_81 rfl (lv_at hl 9 rfl) ?_
      have hPc := hP.sub (ws' := [(bk, .inr (1, [.ref bp])), (bp, .inl (cI, 1024, .inl fb)), (dr, .inr (2, [.ref dp, .ref dc, .int (nI n)])), (dp, .inl (cI, 8, .inl fp))]) [4, 5, 2, 3] rfl
      refine va_calli (va_runV (As := [.ref dr, .int (nI T_), .int (nI (mz_dp x4_21 i_60)), .int p3]) (rest := [.int (1 <<< ((nI T_) &&& 31)), .int (nI (mz_dp x4_21 i_60)), .ref wt]) ⟨hx, hb, hml, hown, hts⟩ (mz_h_partsUnder l dC dI cI cJ cZ bk bp fb dr dp dc n fp T_ (nI (mz_dp x4_21 i_60)) p3 H (by first | assumption | omega) (by first | assumption | omega) (by first | assumption | omega)) (cwV 4 hts gX6_weigh_X1_partsUnder rfl rfl rfl (by decide +kernel) ⟨Nat.le_of_ble_eq_true rfl, Nat.le_of_ble_eq_true rfl⟩) ⟨fun a U g mk q => mz_blP q, va_recv hK hPc (ci := 1) (q0 := 0) rfl rfl, fun U hU hW => ⟨rfl, hU, hPc, va_K.moved hW.alike hK, mz_nw hW hN⟩⟩ rfl rfl hl.1 rfl (lv_room (Nat.le_of_ble_eq_true rfl)) dX6_weigh_82 ⟨Nat.le_of_ble_eq_true rfl, Nat.le_of_ble_eq_true rfl⟩) hS (fun q _ h => h.elim) (fun q h => h.elim) (fun r_82 u t H1 locs ht hvm hw_82 hB hz1 hk1 hS => ?_)
      have hE : H = H1 := hB.symm.trans ht
      subst hE
      obtain rfl : r_82 = (mz_pu fp fb p3 T_ (nI (mz_dp x4_21 i_60))) := hw_82
      have hPc := hP.sub (ws' := [(wt, .inr (6, [.ref wo, .int (nI (2 ^ n - 1))])), (wo, .inl (cJ, 256, .inr (.inl fwo_60)))]) [0, 1] rfl
      have hDc := hD.sub (ws' := [(wt, .inr (6, [.ref wo, .int (nI (2 ^ n - 1))])), (wo, .inl (cJ, 256, .inr (.inl fwo_60)))]) [0, 1] (by decide) rfl
      have hFc := va_free (wc := [(wt, .inr (6, [.ref wo, .int (nI (2 ^ n - 1))])), (wo, .inl (cJ, 256, .inr (.inl fwo_60)))]) hD hS hA [0, 1] rfl
      refine va_callv (va_runV (As := [.int (nI (mz_dp x4_21 i_60)), .int (1 <<< ((nI T_) &&& 31)), .int (mz_pu fp fb p3 T_ (nI (mz_dp x4_21 i_60)))]) (rest := []) ⟨hx, hb, hml, hown, hts⟩ (mz_k_split l dC dI cI cJ cZ wt wo (nI (2 ^ n - 1)) fwo_60 (mz_dp x4_21 i_60) T_ (1 <<< ((nI T_) &&& 31)) (mz_pu fp fb p3 T_ (nI (mz_dp x4_21 i_60))) H.size (mz_dp_lt _ _) (by omega) (mz_dp_nt hkt_) rfl) (cwV 3 hts gX6_weigh_X6_split rfl rfl rfl (by decide +kernel) ⟨Nat.le_of_ble_eq_true rfl, Nat.le_of_ble_eq_true rfl⟩) ⟨fun a U g mk q => mz_blI q, va_recv hK hPc (ci := 6) (q0 := 0) rfl rfl, fun U hU hW => ⟨rfl, by rw [hU], by rw [hU]; exact hPc, va_K.moved hW.alike hK, hDc.weaken (fun _ _ _ _ => trivial), mz_nw hW hN⟩⟩ rfl rfl hl.1 rfl (lv_room (Nat.le_of_ble_eq_true rfl)) dX6_weigh_85 ⟨Nat.le_of_ble_eq_true rfl, Nat.le_of_ble_eq_true rfl⟩) hS (fun q _ h => hFc q h) hFc (fun u t H1 locs ht hvm hw_85 hB hz1 hk1 hS => ?_)
      obtain ⟨gw_85, hx0_85, hP1, hD1⟩ := hB
      rw [ht] at hP1
      obtain ⟨hP, hD⟩ := va_join (wr := [(dr, .inr (2, [.ref dp, .ref dc, .int (nI n)])), (dp, .inl (cI, 8, .inl fp)), (bk, .inr (1, [.ref bp])), (bp, .inl (cI, 1024, .inl fb))]) (w1 := [(wt, .inr (6, [.ref wo, .int (nI (2 ^ n - 1))])), (wo, .inl (cJ, 256, .inr (.inl gw_85)))]) hP hD [0, 1] [2, 3, 4, 5] rfl rfl (by decide) (by decide) hk1 hFc hP1 hD1
      generalize H1 = H at hP hS ⊢
      have hP : va_P (dC, dI) vwCl [(dr, .inr (2, [.ref dp, .ref dc, .int (nI n)])), (dp, .inl (cI, 8, .inl fp)), (bk, .inr (1, [.ref bp])), (bp, .inl (cI, 1024, .inl fb)), (wt, .inr (6, [.ref wo, .int (nI (2 ^ n - 1))])), (wo, .inl (cJ, 256, .inr (.inl gw_85)))] H := hP
      have hD : va_D A [(dr, .inr (2, [.ref dp, .ref dc, .int (nI n)])), (dp, .inl (cI, 8, .inl fp)), (bk, .inr (1, [.ref bp])), (bp, .inl (cI, 1024, .inl fb)), (wt, .inr (6, [.ref wo, .int (nI (2 ^ n - 1))])), (wo, .inl (cJ, 256, .inr (.inl gw_85)))] := hD
      refine lv_iinc (v := (nI (i_60 + 1))) (lv' := [(8, .int (nI (i_60 + 1))), (9, .int (nI (mz_dp x4_21 i_60))), (7, .int (nI K_)), (6, .int (nI T_)), (5, .int (nI i_21)), (4, .int x4_21), (0, .ref wt), (1, .ref dr), (2, .ref bk), (3, .int p3)]) hx hb dX6_weigh_88 hl (k := 1) rfl (nI_1 _) (by decide) rfl (fun ls hl => ?_)
      refine lv_iload hx hb dX6_weigh_91 (lv_at hl 1 rfl) ?_
      refine lv_iload hx hb dX6_weigh_93 (lv_at hl 5 rfl) ?_
      have hPc := hP.sub (ws' := []) [] rfl
      refine va_calli (va_runSN (As := [.int (nI (mz_dp x4_21 i_60)), .int x4_21]) (rest := []) ⟨hx, hb, hml, hown, hts⟩ (mz_k_nextPart l dC dI cI cJ cZ (nI (mz_dp x4_21 i_60)) x4_21 H ) ⟨va_cnB (host := "MadeItSo") 2 hts gX6_weigh_X7_nextPart_n47 rfl rfl rfl (hN (RX6, 47, yX7_nextPart, "MadeItSo") (by decide +kernel)) (hts (.initialized RX7) (by decide +kernel)) (by decide +kernel) ⟨Nat.le_of_ble_eq_true rfl, Nat.le_of_ble_eq_true rfl⟩, hts (.static yX7_nextPart) (by decide +kernel), trivial⟩ ⟨fun a U g mk q => mz_blP q, fun U hU hW => ⟨rfl, hU, hPc, va_K.moved hW.alike hK, mz_nw hW hN⟩⟩ rfl rfl hl.1 rfl (lv_room (Nat.le_of_ble_eq_true rfl)) dX6_weigh_95 ⟨Nat.le_of_ble_eq_true rfl, Nat.le_of_ble_eq_true rfl⟩) hS (fun q _ h => h.elim) (fun q h => h.elim) (fun r_95 u t H1 locs ht hvm hw_95 hB hz1 hk1 hS => ?_)
      have hE : H = H1 := hB.symm.trans ht
      subst hE
      obtain rfl : r_95 = (((nI (mz_dp x4_21 i_60)) - x4_21) &&& x4_21) := hw_95
      refine lv_istore (lv' := [(9, .int (((nI (mz_dp x4_21 i_60)) - x4_21) &&& x4_21)), (8, .int (nI (i_60 + 1))), (7, .int (nI K_)), (6, .int (nI T_)), (5, .int (nI i_21)), (4, .int x4_21), (0, .ref wt), (1, .ref dr), (2, .ref bk), (3, .int p3)]) hx hb dX6_weigh_98 hl (by decide) rfl (fun ls hl => ?_)
      refine lv_goto (tgt := 60) hx hb dX6_weigh_100 (by decide) ?_
      exact ih_60 _ (by omega) _ _ _ ⟨(i_60 + 1), (((nI (mz_dp x4_21 i_60)) - x4_21) &&& x4_21), gw_85, by omega, (mz_nxt (fun j hj hx => Nat.lt_of_lt_of_le (hcm_21 j hj hx) hn) (by rw [← hK_]; omega)), (by rw [hx0_85]; exact mz_sp_s (fun j hj hx => Nat.lt_of_lt_of_le (hcm_21 j hj hx) hn) (by omega) hkt_ (by rw [← hK_]; omega) hs_60), hP.sub [4, 5, 0, 1, 2, 3] rfl, hD.sub [4, 5, 0, 1, 2, 3] (by decide) rfl, hS, lv_sub hl [0, 1, 2, 3, 4, 5, 6, 7, 8, 9] rfl, rfl⟩
set_option maxHeartbeats 1000000 in
set_option maxRecDepth 100000 in
theorem mz_k_x_weight (l : Launch) (dC : Nat → ClassId) (dI : Nat → Nat → Nat) (cI cJ cZ : ClassId) (mx : Nat) (dr : Nat) (th : Nat) (bk : Nat) (wt : Nat) (tt : Nat) (lh : Nat) (la : Nat) (sh : Int32) (ab : Int64) (be : Int64) (dp : Nat) (dc : Nat) (n : Nat) (fp : Nat → Int32) (bp : Nat) (fb : Nat → Int32) (wo : Nat) (ev : Int32) (fw : Nat → Int64) (p1 : Int32) (p2 : Int32) (sz : Nat) (hn : n ≤ 8) (ha : mz_acy n fp) (hself : ∀ k, k < n → ∀ on, mz_rw (fp k) on 8 < 128) (hs1 : mz_stg n p1) (hs2 : mz_stg n p2) : Met l yX7_weight wsX7_weight ({ frames := 4, cells := 0, slots := 0, locals := 98 }) (va_Pc [.ref mx, .int p1, .int p2] (fun U => U.heap.size = sz ∧ va_P (dC, dI) vwCl [(mx, .inr (7, [.ref dr, .ref th, .ref bk, .ref wt, .ref tt, .ref lh, .ref la, .int sh, .long ab, .long be])), (dr, .inr (2, [.ref dp, .ref dc, .int (nI n)])), (dp, .inl (cI, 8, .inl fp)), (bk, .inr (1, [.ref bp])), (bp, .inl (cI, 1024, .inl fb)), (wt, .inr (6, [.ref wo, .int ev])), (wo, .inl (cJ, 256, .inr (.inl fw)))] U.heap ∧ va_K (dC, dI) vwCl [(cI, FieldType.int), (cJ, FieldType.long), (cZ, FieldType.boolean)] U ∧ va_D (fun _ => True) [(mx, .inr (7, [.ref dr, .ref th, .ref bk, .ref wt, .ref tt, .ref lh, .ref la, .int sh, .long ab, .long be])), (dr, .inr (2, [.ref dp, .ref dc, .int (nI n)])), (dp, .inl (cI, 8, .inl fp)), (bk, .inr (1, [.ref bp])), (bp, .inl (cI, 1024, .inl fb)), (wt, .inr (6, [.ref wo, .int ev])), (wo, .inl (cJ, 256, .inr (.inl fw)))] ∧ mz_N U)) (va_Ql (fun (r : Int64) (_ : Unit) => r = (mz_cs (mz_wt n fp fb p2) (p1 &&& 255) ((p1 >>> (8 &&& 31)) &&& 255) n)) (fun _ t => ∃ (gev : Int32), ∃ (gw : Nat → Int64), va_P (dC, dI) vwCl [(mx, .inr (7, [.ref dr, .ref th, .ref bk, .ref wt, .ref tt, .ref lh, .ref la, .int sh, .long ab, .long be])), (dr, .inr (2, [.ref dp, .ref dc, .int (nI n)])), (dp, .inl (cI, 8, .inl fp)), (bk, .inr (1, [.ref bp])), (bp, .inl (cI, 1024, .inl fb)), (wt, .inr (6, [.ref wo, .int gev])), (wo, .inl (cJ, 256, .inr (.inl gw)))] t.heap ∧ va_D (va_A [(mx, .inr (7, [.ref dr, .ref th, .ref bk, .ref wt, .ref tt, .ref lh, .ref la, .int sh, .long ab, .long be])), (dr, .inr (2, [.ref dp, .ref dc, .int (nI n)])), (dp, .inl (cI, 8, .inl fp)), (bk, .inr (1, [.ref bp])), (bp, .inl (cI, 1024, .inl fb)), (wt, .inr (6, [.ref wo, .int ev])), (wo, .inl (cJ, 256, .inr (.inl fw)))] sz) [(mx, .inr (7, [.ref dr, .ref th, .ref bk, .ref wt, .ref tt, .ref lh, .ref la, .int sh, .long ab, .long be])), (dr, .inr (2, [.ref dp, .ref dc, .int (nI n)])), (dp, .inl (cI, 8, .inl fp)), (bk, .inr (1, [.ref bp])), (bp, .inl (cI, 1024, .inl fb)), (wt, .inr (6, [.ref wo, .int gev])), (wo, .inl (cJ, 256, .inr (.inl gw)))]) (va_A [(mx, .inr (7, [.ref dr, .ref th, .ref bk, .ref wt, .ref tt, .ref lh, .ref la, .int sh, .long ab, .long be])), (dr, .inr (2, [.ref dp, .ref dc, .int (nI n)])), (dp, .inl (cI, 8, .inl fp)), (bk, .inr (1, [.ref bp])), (bp, .inl (cI, 1024, .inl fb)), (wt, .inr (6, [.ref wo, .int ev])), (wo, .inl (cJ, 256, .inr (.inl fw)))] sz)) 0 0 (va_A [(mx, .inr (7, [.ref dr, .ref th, .ref bk, .ref wt, .ref tt, .ref lh, .ref la, .int sh, .long ab, .long be])), (dr, .inr (2, [.ref dp, .ref dc, .int (nI n)])), (dp, .inl (cI, 8, .inl fp)), (bk, .inr (1, [.ref bp])), (bp, .inl (cI, 1024, .inl fb)), (wt, .inr (6, [.ref wo, .int ev])), (wo, .inl (cJ, 256, .inr (.inl fw)))] sz) := by
  refine Met.ofW (cc := cX7_weight) (maxL := 3) (ret := (some .long)) (by decide) rfl ?_
  intro p e s m args below meth c s₁ B hml hv
  obtain ⟨rfl, hsz, hP, hK, hD0, hN⟩ := hv
  subst hsz
  have hx := B.exec
  have hb := B.bytes
  have hr := B.returns
  have hts := atoms_spec (ws := wsX7_weight) B.pre
  have hown : s.vm.findClass RX7 = some m.cls := findClass_of_methodNamed B.named
  have hlocks := B.notSynchronized
  have hD := hD0.self (sz := s.heap.size)
  generalize hAe : va_A [(mx, .inr (7, [.ref dr, .ref th, .ref bk, .ref wt, .ref tt, .ref lh, .ref la, .int sh, .long ab, .long be])), (dr, .inr (2, [.ref dp, .ref dc, .int (nI n)])), (dp, .inl (cI, 8, .inl fp)), (bk, .inr (1, [.ref bp])), (bp, .inl (cI, 1024, .inl fb)), (wt, .inr (6, [.ref wo, .int ev])), (wo, .inl (cJ, 256, .inr (.inl fw)))] s.heap.size = A at hD ⊢
  have hA : ∀ q : Nat, s.heap.size ≤ q → A q := fun q h => by rw [← hAe]; exact Or.inr h
  have hS : va_S A s.heap s.heap [] := va_S.rf
  have hiX7 : ∀ w ∈ u_ws RX7 TX7 10, w ∈ wsX7_weight := by decide +kernel
  have hl := lv_entry ([.ref mx, .int p1, .int p2]) (n := 3) (Nat.le_of_ble_eq_true rfl)
  rw [lg_entry_eq]
  generalize (lg_sl ([.ref mx, .int p1, .int p2]) ++ List.replicate (3 - (lg_sl ([.ref mx, .int p1, .int p2])).length) Slot.unset).toArray = ls at hl ⊢
  have hl : lv_has ls 3 [(0, .ref mx), (1, .int p1), (2, .int p2)] := hl
  refine lv_aload_n hx hb dX7_weight_0 rfl (lv_at hl 0 rfl) ?_
  refine lv_iload_n hx hb dX7_weight_1 rfl (lv_at hl 1 rfl) ?_
  have hPc := hP.sub (ws' := [(mx, .inr (7, [.ref dr, .ref th, .ref bk, .ref wt, .ref tt, .ref lh, .ref la, .int sh, .long ab, .long be])), (dr, .inr (2, [.ref dp, .ref dc, .int (nI n)]))]) [0, 1] rfl
  refine va_calli (va_runV (As := [.int p1]) (rest := []) ⟨hx, hb, hml, hown, hts⟩ (mz_h_x_isSetting l dC dI cI cJ cZ mx dr th bk wt tt lh la sh ab be dp dc n p1 s.heap (by first | assumption | omega)) (cwV 1 hts gX7_weight_X7_isSetting rfl rfl rfl (by decide +kernel) ⟨Nat.le_of_ble_eq_true rfl, Nat.le_of_ble_eq_true rfl⟩) ⟨fun a U g mk q => mz_blP q, va_recv hK hPc (ci := 7) (q0 := 0) rfl rfl, fun U hU hW => ⟨rfl, hU, hPc, va_K.moved hW.alike hK, mz_nw hW hN⟩⟩ rfl rfl hl.1 rfl (lv_room (Nat.le_of_ble_eq_true rfl)) dX7_weight_2 ⟨Nat.le_of_ble_eq_true rfl, Nat.le_of_ble_eq_true rfl⟩) hS (fun q _ h => h.elim) (fun q h => h.elim) (fun r_2 u t H1 locs ht hvm hw_2 hB hz1 hk1 hS => ?_)
  have hE : s.heap = H1 := hB.symm.trans ht
  subst hE
  rcases (show (r_2 = 1 ∧ mz_stg n p1) ∨ (r_2 = 0 ∧ ¬ mz_stg n p1) from hw_2) with ⟨rfl, hc_2⟩ | ⟨rfl, hc_2⟩
  · skip
    refine lv_if_eq (tgt := 16) hx hb dX7_weight_5 (by decide) (fun c_5 => absurd c_5 (by decide +kernel)) (fun _ => ?_)
    refine lv_aload_n hx hb dX7_weight_8 rfl (lv_at hl 0 rfl) ?_
    refine lv_iload_n hx hb dX7_weight_9 rfl (lv_at hl 2 rfl) ?_
    have hPc := hP.sub (ws' := [(mx, .inr (7, [.ref dr, .ref th, .ref bk, .ref wt, .ref tt, .ref lh, .ref la, .int sh, .long ab, .long be])), (dr, .inr (2, [.ref dp, .ref dc, .int (nI n)]))]) [0, 1] rfl
    refine va_calli (va_runV (As := [.int p2]) (rest := []) ⟨hx, hb, hml, hown, hts⟩ (mz_h_x_isSetting l dC dI cI cJ cZ mx dr th bk wt tt lh la sh ab be dp dc n p2 s.heap (by first | assumption | omega)) (cwV 1 hts gX7_weight_X7_isSetting rfl rfl rfl (by decide +kernel) ⟨Nat.le_of_ble_eq_true rfl, Nat.le_of_ble_eq_true rfl⟩) ⟨fun a U g mk q => mz_blP q, va_recv hK hPc (ci := 7) (q0 := 0) rfl rfl, fun U hU hW => ⟨rfl, hU, hPc, va_K.moved hW.alike hK, mz_nw hW hN⟩⟩ rfl rfl hl.1 rfl (lv_room (Nat.le_of_ble_eq_true rfl)) dX7_weight_10 ⟨Nat.le_of_ble_eq_true rfl, Nat.le_of_ble_eq_true rfl⟩) hS (fun q _ h => h.elim) (fun q h => h.elim) (fun r_10 u t H1 locs ht hvm hw_10 hB hz1 hk1 hS => ?_)
    have hE : s.heap = H1 := hB.symm.trans ht
    subst hE
    rcases (show (r_10 = 1 ∧ mz_stg n p2) ∨ (r_10 = 0 ∧ ¬ mz_stg n p2) from hw_10) with ⟨rfl, hc_10⟩ | ⟨rfl, hc_10⟩
    · skip
      refine lv_if_ne (tgt := 20) hx hb dX7_weight_13 (by decide) (fun _ => ?_) (fun c_13 => absurd c_13 (by decide +kernel))
      refine lv_aload_n hx hb dX7_weight_20 rfl (lv_at hl 0 rfl) ?_
      refine va_get (D := (dC, dI)) (ci := 7) (v := .ref wt) (C := RX7) (T := TX7) (N := 10) hx hb hts hiX7 hown hK hP 0 rfl rfl 3 (by decide) (hts (.fieldLink RX7 29 "MadeItSo" "weights" "LMadeItSo$Weights;") (by decide +kernel)) (fun _ h9 => h9) rfl dX7_weight_21 ?_
      refine lv_aload_n hx hb dX7_weight_24 rfl (lv_at hl 0 rfl) ?_
      refine va_get (D := (dC, dI)) (ci := 7) (v := .ref dr) (C := RX7) (T := TX7) (N := 10) hx hb hts hiX7 hown hK hP 0 rfl rfl 0 (by decide) (hts (.fieldLink RX7 12 "MadeItSo" "drawing" "LMadeItSo$Drawing;") (by decide +kernel)) (fun _ h9 => h9) rfl dX7_weight_25 ?_
      refine lv_aload_n hx hb dX7_weight_28 rfl (lv_at hl 0 rfl) ?_
      refine va_get (D := (dC, dI)) (ci := 7) (v := .ref bk) (C := RX7) (T := TX7) (N := 10) hx hb hts hiX7 hown hK hP 0 rfl rfl 2 (by decide) (hts (.fieldLink RX7 22 "MadeItSo" "books" "LMadeItSo$Books;") (by decide +kernel)) (fun _ h9 => h9) rfl dX7_weight_29 ?_
      refine lv_iload_n hx hb dX7_weight_32 rfl (lv_at hl 2 rfl) ?_
      have hPc := hP.sub (ws' := [(wt, .inr (6, [.ref wo, .int ev])), (wo, .inl (cJ, 256, .inr (.inl fw))), (dr, .inr (2, [.ref dp, .ref dc, .int (nI n)])), (dp, .inl (cI, 8, .inl fp)), (bk, .inr (1, [.ref bp])), (bp, .inl (cI, 1024, .inl fb))]) [5, 6, 1, 2, 3, 4] rfl
      have hDc := hD.sub (ws' := [(wt, .inr (6, [.ref wo, .int ev])), (wo, .inl (cJ, 256, .inr (.inl fw))), (dr, .inr (2, [.ref dp, .ref dc, .int (nI n)])), (dp, .inl (cI, 8, .inl fp)), (bk, .inr (1, [.ref bp])), (bp, .inl (cI, 1024, .inl fb))]) [5, 6, 1, 2, 3, 4] (by decide) rfl
      have hFc := va_free (wc := [(wt, .inr (6, [.ref wo, .int ev])), (wo, .inl (cJ, 256, .inr (.inl fw))), (dr, .inr (2, [.ref dp, .ref dc, .int (nI n)])), (dp, .inl (cI, 8, .inl fp)), (bk, .inr (1, [.ref bp])), (bp, .inl (cI, 1024, .inl fb))]) hD hS hA [5, 6, 1, 2, 3, 4] rfl
      refine va_callv (va_runV (As := [.ref dr, .ref bk, .int p2]) (rest := []) ⟨hx, hb, hml, hown, hts⟩ (mz_k_weigh l dC dI cI cJ cZ wt wo ev fw dr dp dc n fp bk bp fb p2 s.heap.size (by first | assumption | omega) (by first | assumption | omega) (by first | assumption | omega)) (cwV 3 hts gX7_weight_X6_weigh rfl rfl rfl (by decide +kernel) ⟨Nat.le_of_ble_eq_true rfl, Nat.le_of_ble_eq_true rfl⟩) ⟨fun a U g mk q => mz_blI q, va_recv hK hPc (ci := 6) (q0 := 0) rfl rfl, fun U hU hW => ⟨rfl, by rw [hU], by rw [hU]; exact hPc, va_K.moved hW.alike hK, hDc.weaken (fun _ _ _ _ => trivial), mz_nw hW hN⟩⟩ rfl rfl hl.1 rfl (lv_room (Nat.le_of_ble_eq_true rfl)) dX7_weight_33 ⟨Nat.le_of_ble_eq_true rfl, Nat.le_of_ble_eq_true rfl⟩) hS (fun q _ h => hFc q h) hFc (fun u t H1 locs ht hvm hw_33 hB hz1 hk1 hS => ?_)
      obtain ⟨gw_33, hx0_33, hP1, hD1⟩ := hB
      rw [ht] at hP1
      obtain ⟨hP, hD⟩ := va_join (wr := [(mx, .inr (7, [.ref dr, .ref th, .ref bk, .ref wt, .ref tt, .ref lh, .ref la, .int sh, .long ab, .long be]))]) (w1 := [(wt, .inr (6, [.ref wo, .int (nI ((2 ^ n - 1)))])), (wo, .inl (cJ, 256, .inr (.inl gw_33))), (dr, .inr (2, [.ref dp, .ref dc, .int (nI n)])), (dp, .inl (cI, 8, .inl fp)), (bk, .inr (1, [.ref bp])), (bp, .inl (cI, 1024, .inl fb))]) hP hD [5, 6, 1, 2, 3, 4] [0] rfl rfl (by decide) (by decide) hk1 hFc hP1 hD1
      generalize H1 = H at hP hS ⊢
      have hP : va_P (dC, dI) vwCl [(mx, .inr (7, [.ref dr, .ref th, .ref bk, .ref wt, .ref tt, .ref lh, .ref la, .int sh, .long ab, .long be])), (wt, .inr (6, [.ref wo, .int (nI ((2 ^ n - 1)))])), (wo, .inl (cJ, 256, .inr (.inl gw_33))), (dr, .inr (2, [.ref dp, .ref dc, .int (nI n)])), (dp, .inl (cI, 8, .inl fp)), (bk, .inr (1, [.ref bp])), (bp, .inl (cI, 1024, .inl fb))] H := hP
      have hD : va_D A [(mx, .inr (7, [.ref dr, .ref th, .ref bk, .ref wt, .ref tt, .ref lh, .ref la, .int sh, .long ab, .long be])), (wt, .inr (6, [.ref wo, .int (nI ((2 ^ n - 1)))])), (wo, .inl (cJ, 256, .inr (.inl gw_33))), (dr, .inr (2, [.ref dp, .ref dc, .int (nI n)])), (dp, .inl (cI, 8, .inl fp)), (bk, .inr (1, [.ref bp])), (bp, .inl (cI, 1024, .inl fb))] := hD
      refine lv_aload_n hx hb dX7_weight_36 rfl (lv_at hl 0 rfl) ?_
      refine va_get (D := (dC, dI)) (ci := 7) (v := .ref wt) (C := RX7) (T := TX7) (N := 10) hx hb hts hiX7 hown hK hP 0 rfl rfl 3 (by decide) (hts (.fieldLink RX7 29 "MadeItSo" "weights" "LMadeItSo$Weights;") (by decide +kernel)) (fun _ h9 => h9) rfl dX7_weight_37 ?_
      refine lv_iload_n hx hb dX7_weight_40 rfl (lv_at hl 1 rfl) ?_
      have hPc := hP.sub (ws' := []) [] rfl
      refine va_calli (va_runS (As := [.int p1]) (rest := [.ref wt]) ⟨hx, hb, hml, hown, hts⟩ (mz_h_heapOf l dC dI cI cJ cZ p1 H ) (va_cwS 1 hts gX7_weight_X7_heapOf rfl rfl rfl (by decide +kernel) ⟨Nat.le_of_ble_eq_true rfl, Nat.le_of_ble_eq_true rfl⟩) ⟨fun a U g mk q => mz_blP q, fun U hU hW => ⟨rfl, hU, hPc, va_K.moved hW.alike hK, mz_nw hW hN⟩⟩ rfl rfl hl.1 rfl (lv_room (Nat.le_of_ble_eq_true rfl)) dX7_weight_41 ⟨Nat.le_of_ble_eq_true rfl, Nat.le_of_ble_eq_true rfl⟩) hS (fun q _ h => h.elim) (fun q h => h.elim) (fun r_41 u t H1 locs ht hvm hw_41 hB hz1 hk1 hS => ?_)
      have hE : H = H1 := hB.symm.trans ht
      subst hE
      obtain rfl : r_41 = (p1 &&& 255) := hw_41
      refine lv_iload_n hx hb dX7_weight_44 rfl (lv_at hl 1 rfl) ?_
      have hPc := hP.sub (ws' := []) [] rfl
      refine va_calli (va_runS (As := [.int p1]) (rest := [.int (p1 &&& 255), .ref wt]) ⟨hx, hb, hml, hown, hts⟩ (mz_h_onesOf l dC dI cI cJ cZ p1 H ) (va_cwS 1 hts gX7_weight_X7_onesOf rfl rfl rfl (by decide +kernel) ⟨Nat.le_of_ble_eq_true rfl, Nat.le_of_ble_eq_true rfl⟩) ⟨fun a U g mk q => mz_blP q, fun U hU hW => ⟨rfl, hU, hPc, va_K.moved hW.alike hK, mz_nw hW hN⟩⟩ rfl rfl hl.1 rfl (lv_room (Nat.le_of_ble_eq_true rfl)) dX7_weight_45 ⟨Nat.le_of_ble_eq_true rfl, Nat.le_of_ble_eq_true rfl⟩) hS (fun q _ h => h.elim) (fun q h => h.elim) (fun r_45 u t H1 locs ht hvm hw_45 hB hz1 hk1 hS => ?_)
      have hE : H = H1 := hB.symm.trans ht
      subst hE
      obtain rfl : r_45 = ((p1 >>> (8 &&& 31)) &&& 255) := hw_45
      have hPc := hP.sub (ws' := [(wt, .inr (6, [.ref wo, .int (nI ((2 ^ n - 1)))])), (wo, .inl (cJ, 256, .inr (.inl gw_33)))]) [1, 2] rfl
      refine va_calll (va_runV (As := [.int (p1 &&& 255), .int ((p1 >>> (8 &&& 31)) &&& 255)]) (rest := []) ⟨hx, hb, hml, hown, hts⟩ (mz_k_having l dC dI cI cJ cZ wt wo (2 ^ n - 1) gw_33 (p1 &&& 255) ((p1 >>> (8 &&& 31)) &&& 255) H (by have := mz_2n hn; omega)) (cwV 2 hts gX7_weight_X6_having rfl rfl rfl (by decide +kernel) ⟨Nat.le_of_ble_eq_true rfl, Nat.le_of_ble_eq_true rfl⟩) ⟨fun a U g mk q => mz_blP q, va_recv hK hPc (ci := 6) (q0 := 0) rfl rfl, fun U hU hW => ⟨rfl, hU, hPc, va_K.moved hW.alike hK, mz_nw hW hN⟩⟩ rfl rfl hl.1 rfl (lv_room (Nat.le_of_ble_eq_true rfl)) dX7_weight_48 ⟨Nat.le_of_ble_eq_true rfl, Nat.le_of_ble_eq_true rfl⟩) hS (fun q _ h => h.elim) (fun q h => h.elim) (fun r_48 u t H1 locs ht hvm hw_48 hB hz1 hk1 hS => ?_)
      have hE : H = H1 := hB.symm.trans ht
      subst hE
      obtain rfl : r_48 = (mz_hv (nI (2 ^ n - 1)) gw_33 (p1 &&& 255) ((p1 >>> (8 &&& 31)) &&& 255)) := hw_48
      have hP9 := hP.sub (ws' := [(mx, .inr (7, [.ref dr, .ref th, .ref bk, .ref wt, .ref tt, .ref lh, .ref la, .int sh, .long ab, .long be])), (dr, .inr (2, [.ref dp, .ref dc, .int (nI n)])), (dp, .inl (cI, 8, .inl fp)), (bk, .inr (1, [.ref bp])), (bp, .inl (cI, 1024, .inl fb)), (wt, .inr (6, [.ref wo, .int (nI ((2 ^ n - 1)))])), (wo, .inl (cJ, 256, .inr (.inl gw_33)))]) [0, 3, 4, 5, 6, 1, 2] rfl
      have hD9 := hD.sub (ws' := [(mx, .inr (7, [.ref dr, .ref th, .ref bk, .ref wt, .ref tt, .ref lh, .ref la, .int sh, .long ab, .long be])), (dr, .inr (2, [.ref dp, .ref dc, .int (nI n)])), (dp, .inl (cI, 8, .inl fp)), (bk, .inr (1, [.ref bp])), (bp, .inl (cI, 1024, .inl fb)), (wt, .inr (6, [.ref wo, .int (nI ((2 ^ n - 1)))])), (wo, .inl (cJ, 256, .inr (.inl gw_33)))]) [0, 3, 4, 5, 6, 1, 2] (by decide) rfl
      refine W.widen (k := 0) (n := 0) (Nat.le_of_ble_eq_true rfl) (Nat.le_of_ble_eq_true rfl) ?_
      exact W.lret (v := (mz_hv (nI (2 ^ n - 1)) gw_33 (p1 &&& 255) ((p1 >>> (8 &&& 31)) &&& 255))) hx hb hr (fun t ht hW => ⟨⟨(mz_hv (nI (2 ^ n - 1)) gw_33 (p1 &&& 255) ((p1 >>> (8 &&& 31)) &&& 255)), (), rfl, (mz_hv_wt hn hs1 hx0_33), (nI ((2 ^ n - 1))), gw_33, by rw [ht]; exact hP9, hD9⟩, hS.F ht⟩) hS.2.2 dX7_weight_51
    · skip
      refine lv_if_ne (tgt := 20) hx hb dX7_weight_13 (by decide) (fun c_13 => absurd (by decide +kernel) c_13) (fun _ => ?_)
      first | exact absurd hs1 hc_2 | exact absurd hs2 hc_10
  · skip
    refine lv_if_eq (tgt := 16) hx hb dX7_weight_5 (by decide) (fun _ => ?_) (fun c_5 => absurd (by decide +kernel) c_5)
    first | exact absurd hs1 hc_2 | exact absurd hs2 hc_10
set_option maxHeartbeats 1000000 in
set_option maxRecDepth 100000 in
theorem mz_k_x_weight_out (l : Launch) (dC : Nat → ClassId) (dI : Nat → Nat → Nat) (cI cJ cZ : ClassId) (mx : Nat) (dr : Nat) (th : Nat) (bk : Nat) (wt : Nat) (tt : Nat) (lh : Nat) (la : Nat) (sh : Int32) (ab : Int64) (be : Int64) (dp : Nat) (dc : Nat) (n : Nat) (p1 : Int32) (p2 : Int32) (Hq : Heap) (hn : n ≤ 8) (hnw : ¬ (mz_stg n p1 ∧ mz_stg n p2)) : Met l yX7_weight wsX7_weight ({ frames := 3, cells := 0, slots := 0, locals := 62 }) (va_Pc [.ref mx, .int p1, .int p2] (fun U => U.heap = Hq ∧ va_P (dC, dI) vwCl [(mx, .inr (7, [.ref dr, .ref th, .ref bk, .ref wt, .ref tt, .ref lh, .ref la, .int sh, .long ab, .long be])), (dr, .inr (2, [.ref dp, .ref dc, .int (nI n)]))] Hq ∧ va_K (dC, dI) vwCl [(cI, FieldType.int), (cJ, FieldType.long), (cZ, FieldType.boolean)] U ∧ mz_N U)) (va_Ql (fun (r : Int64) (_ : Unit) => r = (-1)) (fun _ t => t.heap = Hq) (fun _ : Nat => False)) 0 0 (fun _ : Nat => False) := by
  refine Met.ofW (cc := cX7_weight) (maxL := 3) (ret := (some .long)) (by decide) rfl ?_
  intro p e s m args below meth c s₁ B hml hv
  obtain ⟨rfl, hH, hP, hK, hN⟩ := hv
  subst hH
  have hx := B.exec
  have hb := B.bytes
  have hr := B.returns
  have hts := atoms_spec (ws := wsX7_weight) B.pre
  have hown : s.vm.findClass RX7 = some m.cls := findClass_of_methodNamed B.named
  have hlocks := B.notSynchronized
  have hS : va_S (fun _ : Nat => False) s.heap s.heap [] := va_S.rf
  have hl := lv_entry ([.ref mx, .int p1, .int p2]) (n := 3) (Nat.le_of_ble_eq_true rfl)
  rw [lg_entry_eq]
  generalize (lg_sl ([.ref mx, .int p1, .int p2]) ++ List.replicate (3 - (lg_sl ([.ref mx, .int p1, .int p2])).length) Slot.unset).toArray = ls at hl ⊢
  have hl : lv_has ls 3 [(0, .ref mx), (1, .int p1), (2, .int p2)] := hl
  refine lv_aload_n hx hb dX7_weight_0 rfl (lv_at hl 0 rfl) ?_
  refine lv_iload_n hx hb dX7_weight_1 rfl (lv_at hl 1 rfl) ?_
  have hPc := hP.sub (ws' := [(mx, .inr (7, [.ref dr, .ref th, .ref bk, .ref wt, .ref tt, .ref lh, .ref la, .int sh, .long ab, .long be])), (dr, .inr (2, [.ref dp, .ref dc, .int (nI n)]))]) [0, 1] rfl
  refine va_calli (va_runV (As := [.int p1]) (rest := []) ⟨hx, hb, hml, hown, hts⟩ (mz_h_x_isSetting l dC dI cI cJ cZ mx dr th bk wt tt lh la sh ab be dp dc n p1 s.heap (by first | assumption | omega)) (cwV 1 hts gX7_weight_X7_isSetting rfl rfl rfl (by decide +kernel) ⟨Nat.le_of_ble_eq_true rfl, Nat.le_of_ble_eq_true rfl⟩) ⟨fun a U g mk q => mz_blP q, va_recv hK hPc (ci := 7) (q0 := 0) rfl rfl, fun U hU hW => ⟨rfl, hU, hPc, va_K.moved hW.alike hK, mz_nw hW hN⟩⟩ rfl rfl hl.1 rfl (lv_room (Nat.le_of_ble_eq_true rfl)) dX7_weight_2 ⟨Nat.le_of_ble_eq_true rfl, Nat.le_of_ble_eq_true rfl⟩) hS (fun q _ h => h.elim) (fun q h => h.elim) (fun r_2 u t H1 locs ht hvm hw_2 hB hz1 hk1 hS => ?_)
  have hE : s.heap = H1 := hB.symm.trans ht
  subst hE
  rcases (show (r_2 = 1 ∧ mz_stg n p1) ∨ (r_2 = 0 ∧ ¬ mz_stg n p1) from hw_2) with ⟨rfl, hc_2⟩ | ⟨rfl, hc_2⟩
  · skip
    refine lv_if_eq (tgt := 16) hx hb dX7_weight_5 (by decide) (fun c_5 => absurd c_5 (by decide +kernel)) (fun _ => ?_)
    refine lv_aload_n hx hb dX7_weight_8 rfl (lv_at hl 0 rfl) ?_
    refine lv_iload_n hx hb dX7_weight_9 rfl (lv_at hl 2 rfl) ?_
    have hPc := hP.sub (ws' := [(mx, .inr (7, [.ref dr, .ref th, .ref bk, .ref wt, .ref tt, .ref lh, .ref la, .int sh, .long ab, .long be])), (dr, .inr (2, [.ref dp, .ref dc, .int (nI n)]))]) [0, 1] rfl
    refine va_calli (va_runV (As := [.int p2]) (rest := []) ⟨hx, hb, hml, hown, hts⟩ (mz_h_x_isSetting l dC dI cI cJ cZ mx dr th bk wt tt lh la sh ab be dp dc n p2 s.heap (by first | assumption | omega)) (cwV 1 hts gX7_weight_X7_isSetting rfl rfl rfl (by decide +kernel) ⟨Nat.le_of_ble_eq_true rfl, Nat.le_of_ble_eq_true rfl⟩) ⟨fun a U g mk q => mz_blP q, va_recv hK hPc (ci := 7) (q0 := 0) rfl rfl, fun U hU hW => ⟨rfl, hU, hPc, va_K.moved hW.alike hK, mz_nw hW hN⟩⟩ rfl rfl hl.1 rfl (lv_room (Nat.le_of_ble_eq_true rfl)) dX7_weight_10 ⟨Nat.le_of_ble_eq_true rfl, Nat.le_of_ble_eq_true rfl⟩) hS (fun q _ h => h.elim) (fun q h => h.elim) (fun r_10 u t H1 locs ht hvm hw_10 hB hz1 hk1 hS => ?_)
    have hE : s.heap = H1 := hB.symm.trans ht
    subst hE
    rcases (show (r_10 = 1 ∧ mz_stg n p2) ∨ (r_10 = 0 ∧ ¬ mz_stg n p2) from hw_10) with ⟨rfl, hc_10⟩ | ⟨rfl, hc_10⟩
    · skip
      refine lv_if_ne (tgt := 20) hx hb dX7_weight_13 (by decide) (fun _ => ?_) (fun c_13 => absurd c_13 (by decide +kernel))
      exact absurd ⟨hc_2, hc_10⟩ hnw
    · skip
      refine lv_if_ne (tgt := 20) hx hb dX7_weight_13 (by decide) (fun c_13 => absurd (by decide +kernel) c_13) (fun _ => ?_)
      refine lv_ldc2 hx hb hown (hts (.constantLong RX7 121 (-1)) (by decide +kernel)) dX7_weight_16 ?_
      refine W.widen (k := 0) (n := 0) (Nat.le_of_ble_eq_true rfl) (Nat.le_of_ble_eq_true rfl) ?_
      exact W.lret (v := (-1)) hx hb hr (fun t ht hW => ⟨⟨(-1), (), rfl, rfl, ht⟩, hS.F ht⟩) hS.2.2 dX7_weight_19
  · skip
    refine lv_if_eq (tgt := 16) hx hb dX7_weight_5 (by decide) (fun _ => ?_) (fun c_5 => absurd (by decide +kernel) c_5)
    refine lv_ldc2 hx hb hown (hts (.constantLong RX7 121 (-1)) (by decide +kernel)) dX7_weight_16 ?_
    refine W.widen (k := 0) (n := 0) (Nat.le_of_ble_eq_true rfl) (Nat.le_of_ble_eq_true rfl) ?_
    exact W.lret (v := (-1)) hx hb hr (fun t ht hW => ⟨⟨(-1), (), rfl, rfl, ht⟩, hS.F ht⟩) hS.2.2 dX7_weight_19
set_option maxHeartbeats 1000000 in
set_option maxRecDepth 100000 in
theorem mz_k_m_weightOf (l : Launch) (dC : Nat → ClassId) (dI : Nat → Nat → Nat) (cI cJ cZ : ClassId) (mo : Nat) (m1 : Nat) (m2 : Nat) (m3 : Nat) (m6 : Nat) (m7 : Nat) (m8 : Nat) (m9 : Nat) (m10 : Nat) (m11 : Nat) (m12 : Nat) (m13 : Nat) (m14 : Nat) (m15 : Nat) (m16 : Nat) (n : Nat) (ka : Int64) (kb : Int64) (fp : Nat → Int32) (fb : Nat → Int32) (kc : Nat) (p2 : Int32) (Hq : Heap) (hn : n ≤ 8) (hself : ∀ k, k < n → ∀ on, mz_rw (fp k) on 8 < 128) (hgb : ∀ k, k < n → ∀ j, j < 32 → mz_t (fp k) j = true → j < n) (hkc : kc < 2 ^ n) (hset : mz_stg n p2) : Met l yX8_weightOf wsX8_weightOf ({ frames := 1, cells := 0, slots := 0, locals := 25 }) (va_Pc [.ref mo, .int (nI kc), .int p2] (fun U => U.heap = Hq ∧ va_P (dC, dI) vwCl [(mo, .inr (8, [.int (nI n), .ref m1, .ref m2, .ref m3, .long ka, .long kb, .ref m6, .ref m7, .ref m8, .ref m9, .ref m10, .ref m11, .ref m12, .ref m13, .ref m14, .ref m15, .ref m16])), (m2, .inl (cI, 8, .inl fp)), (m3, .inl (cI, 1024, .inl fb))] Hq ∧ va_K (dC, dI) vwCl [(cI, FieldType.int), (cJ, FieldType.long), (cZ, FieldType.boolean)] U ∧ mz_N U)) (va_Ql (fun (r : Int64) (_ : Unit) => r = (mz_wt n fp fb p2 kc)) (fun _ t => t.heap = Hq) (fun _ : Nat => False)) 0 0 (fun _ : Nat => False) := by
  refine Met.ofW (cc := cX8_weightOf) (maxL := 7) (ret := (some .long)) (by decide) rfl ?_
  intro p e s m args below meth c s₁ B hml hv
  obtain ⟨rfl, hH, hP, hK, hN⟩ := hv
  subst hH
  have hx := B.exec
  have hb := B.bytes
  have hr := B.returns
  have hts := atoms_spec (ws := wsX8_weightOf) B.pre
  have hown : s.vm.findClass RX8 = some m.cls := findClass_of_methodNamed B.named
  have hlocks := B.notSynchronized
  have hS : va_S (fun _ : Nat => False) s.heap s.heap [] := va_S.rf
  have hiX8 : ∀ w ∈ u_ws RX8 TX8 17, w ∈ wsX8_weightOf := by decide +kernel
  have hl := lv_entry ([.ref mo, .int (nI kc), .int p2]) (n := 7) (Nat.le_of_ble_eq_true rfl)
  rw [lg_entry_eq]
  generalize (lg_sl ([.ref mo, .int (nI kc), .int p2]) ++ List.replicate (7 - (lg_sl ([.ref mo, .int (nI kc), .int p2])).length) Slot.unset).toArray = ls at hl ⊢
  have hl : lv_has ls 7 [(0, .ref mo), (1, .int (nI kc)), (2, .int p2)] := hl
  have hc2_ : kc < 256 := Nat.lt_of_lt_of_le hkc (mz_2n hn)
  refine lv_iload_n hx hb dX8_weightOf_0 rfl (lv_at hl 1 rfl) ?_
  refine lv_iload_n hx hb dX8_weightOf_1 rfl (lv_at hl 2 rfl) ?_
  refine lv_bipush (v := 8) hx hb dX8_weightOf_2 (by decide +kernel) ?_
  refine lv_ishr hx hb dX8_weightOf_4 ?_
  refine lv_ixor hx hb dX8_weightOf_5 ?_
  refine lv_iload_n hx hb dX8_weightOf_6 rfl (lv_at hl 2 rfl) ?_
  refine lv_iand hx hb dX8_weightOf_7 ?_
  refine lv_sipush (v := 255) hx hb dX8_weightOf_8 (by decide +kernel) ?_
  refine lv_iand hx hb dX8_weightOf_11 ?_
  refine lv_if_eq (tgt := 17) hx hb dX8_weightOf_12 (by decide) (fun c_12 => ?_) (fun c_12 => ?_)
  · skip
    refine lv_lconst (v := 1) hx hb dX8_weightOf_17 (by decide +kernel) ?_
    refine lv_lstore_n (lv' := [(3, .long 1), (0, .ref mo), (1, .int (nI kc)), (2, .int p2)]) hx hb dX8_weightOf_18 rfl hl (by decide) rfl (fun ls hl => ?_)
    refine lv_iconst (v := 0) hx hb dX8_weightOf_19 (by decide +kernel) ?_
    refine lv_istore (lv' := [(5, .int 0), (3, .long 1), (0, .ref mo), (1, .int (nI kc)), (2, .int p2)]) hx hb dX8_weightOf_20 hl (by decide) rfl (fun ls hl => ?_)
    refine mz_loopU (fun k H locs ls => ∃ (i_22 : Nat), ∃ (x3_22 : Int64), i_22 ≤ n ∧ (x3_22 = mz_pr (mz_fac fp fb p2 kc) (nI (2 ^ n - 1)) i_22) ∧ H = s.heap ∧ va_S (fun _ : Nat => False) s.heap H locs ∧ lv_has ls 7 [(5, .int (nI i_22)), (3, .long x3_22), (0, .ref mo), (1, .int (nI kc)), (2, .int p2)] ∧ k = n - i_22) ?_ _ _ _ _ ⟨0, 1, by omega, rfl, rfl, hS, lv_sub hl [0, 1, 2, 3, 4] rfl, rfl⟩
    intro k_22 H locs ls hI_22 ih_22
    obtain ⟨i_22, x3_22, hi_22, hx_22, hH_22, hS, hl, hk_22⟩ := hI_22
    subst hH_22
    refine lv_iload hx hb dX8_weightOf_22 (lv_at hl 0 rfl) ?_
    refine lv_aload_n hx hb dX8_weightOf_24 rfl (lv_at hl 2 rfl) ?_
    refine va_get (D := (dC, dI)) (ci := 8) (v := .int (nI n)) (C := RX8) (T := TX8) (N := 17) hx hb hts hiX8 hown hK hP 0 rfl rfl 0 (by decide) (hts (.fieldLink RX8 58 "MadeItSoModel" "many" "I") (by decide +kernel)) (fun _ h9 => h9) rfl dX8_weightOf_25 ?_
    refine lv_icmp_ge (tgt := 87) hx hb dX8_weightOf_28 (by decide) (fun c_28 => ?_) (fun c_28 => ?_)
    · skip
      have d_28 : n ≤ i_22 := (nI_leI (a := n) (b := i_22) (by omega) (by omega)).mp c_28
      refine lv_lload_n hx hb dX8_weightOf_87 rfl (lv_at hl 1 rfl) ?_
      refine W.widen (k := 0) (n := 0) (Nat.le_of_ble_eq_true rfl) (Nat.le_of_ble_eq_true rfl) ?_
      exact W.lret (v := x3_22) hx hb hr (fun t ht hW => ⟨⟨x3_22, (), rfl, (by rw [hx_22, show i_22 = n by omega]; rfl), ht⟩, hS.F ht⟩) hS.2.2 dX8_weightOf_88
    · skip
      have d_28 : ¬ n ≤ i_22 := fun h => c_28 ((nI_leI (a := n) (b := i_22) (by omega) (by omega)).mpr h)
      refine lv_aload_n hx hb dX8_weightOf_31 rfl (lv_at hl 2 rfl) ?_
      refine lv_iload hx hb dX8_weightOf_32 (lv_at hl 0 rfl) ?_
      refine lv_iload_n hx hb dX8_weightOf_34 rfl (lv_at hl 3 rfl) ?_
      have hPc := hP.sub (ws' := [(mo, .inr (8, [.int (nI n), .ref m1, .ref m2, .ref m3, .long ka, .long kb, .ref m6, .ref m7, .ref m8, .ref m9, .ref m10, .ref m11, .ref m12, .ref m13, .ref m14, .ref m15, .ref m16])), (m2, .inl (cI, 8, .inl fp)), (m3, .inl (cI, 1024, .inl fb))]) [0, 1, 2] rfl
      refine va_calli (va_runV (As := [.int (nI i_22), .int (nI kc)]) (rest := []) ⟨hx, hb, hml, hown, hts⟩ (mz_h_m_partsOf l dC dI cI cJ cZ mo m1 m2 m3 m6 m7 m8 m9 m10 m11 m12 m13 m14 m15 m16 n ka kb fp fb i_22 (nI kc) s.heap (by first | assumption | omega) (by first | assumption | omega) (by first | assumption | omega) (by first | assumption | omega)) (cwV 2 hts gX8_weightOf_X8_partsOf rfl rfl rfl (by decide +kernel) ⟨Nat.le_of_ble_eq_true rfl, Nat.le_of_ble_eq_true rfl⟩) ⟨fun a U g mk q => mz_blP q, va_recv hK hPc (ci := 8) (q0 := 0) rfl rfl, fun U hU hW => ⟨rfl, hU, hPc, va_K.moved hW.alike hK, mz_nw hW hN⟩⟩ rfl rfl hl.1 rfl (lv_room (Nat.le_of_ble_eq_true rfl)) dX8_weightOf_35 ⟨Nat.le_of_ble_eq_true rfl, Nat.le_of_ble_eq_true rfl⟩) hS (fun q _ h => h.elim) (fun q h => h.elim) (fun r_35 u t H1 locs ht hvm hw_35 hB hz1 hk1 hS => ?_)
      have hE : s.heap = H1 := hB.symm.trans ht
      subst hE
      obtain rfl : r_35 = (fb (128 * i_22 + mz_rw (fp i_22) (nI kc) 8)) := hw_35
      refine lv_istore (lv' := [(6, .int (fb (128 * i_22 + mz_rw (fp i_22) (nI kc) 8))), (5, .int (nI i_22)), (3, .long x3_22), (0, .ref mo), (1, .int (nI kc)), (2, .int p2)]) hx hb dX8_weightOf_38 hl (by decide) rfl (fun ls hl => ?_)
      refine lv_lload_n hx hb dX8_weightOf_40 rfl (lv_at hl 2 rfl) ?_
      refine lv_iload_n hx hb dX8_weightOf_41 rfl (lv_at hl 5 rfl) ?_
      refine lv_iload hx hb dX8_weightOf_42 (lv_at hl 1 rfl) ?_
      refine lv_ishr hx hb dX8_weightOf_44 ?_
      refine lv_iconst (v := 1) hx hb dX8_weightOf_45 (by decide +kernel) ?_
      refine lv_iand hx hb dX8_weightOf_46 ?_
      refine lv_iconst (v := 1) hx hb dX8_weightOf_47 (by decide +kernel) ?_
      refine lv_icmp_ne (tgt := 57) hx hb dX8_weightOf_48 (by decide) (fun c_48 => ?_) (fun c_48 => ?_)
      · skip
        refine lv_iload_n hx hb dX8_weightOf_57 rfl (lv_at hl 4 rfl) ?_
        refine lv_iload hx hb dX8_weightOf_58 (lv_at hl 1 rfl) ?_
        refine lv_ishr hx hb dX8_weightOf_60 ?_
        refine lv_iconst (v := 1) hx hb dX8_weightOf_61 (by decide +kernel) ?_
        refine lv_iand hx hb dX8_weightOf_62 ?_
        refine lv_iconst (v := 1) hx hb dX8_weightOf_63 (by decide +kernel) ?_
        refine lv_icmp_ne (tgt := 73) hx hb dX8_weightOf_64 (by decide) (fun c_64 => ?_) (fun c_64 => ?_)
        · skip
          refine lv_bipush (v := 100) hx hb dX8_weightOf_73 (by decide +kernel) ?_
          refine lv_iload hx hb dX8_weightOf_75 (lv_at hl 0 rfl) ?_
          refine lv_isub hx hb dX8_weightOf_77 ?_
          refine lv_i2l hx hb dX8_weightOf_78 rfl ?_
          refine lv_topl (fun v_78 ev_78 => ?_)
          refine lv_lmul hx hb dX8_weightOf_79 ?_
          refine lv_topl (fun v_79 ev_79 => ?_)
          refine lv_lstore_n (lv' := [(3, .long v_79), (6, .int (fb (128 * i_22 + mz_rw (fp i_22) (nI kc) 8))), (5, .int (nI i_22)), (0, .ref mo), (1, .int (nI kc)), (2, .int p2)]) hx hb dX8_weightOf_80 rfl hl (by decide) rfl (fun ls hl => ?_)
          refine lv_iinc (v := (nI (i_22 + 1))) (lv' := [(5, .int (nI (i_22 + 1))), (3, .long v_79), (6, .int (fb (128 * i_22 + mz_rw (fp i_22) (nI kc) 8))), (0, .ref mo), (1, .int (nI kc)), (2, .int p2)]) hx hb dX8_weightOf_81 hl (k := 2) rfl (nI_1 _) (by decide) rfl (fun ls hl => ?_)
          refine lv_goto (tgt := 22) hx hb dX8_weightOf_84 (by decide) ?_
          exact ih_22 _ (by omega) _ _ _ ⟨(i_22 + 1), v_79, by omega, (by rw [ev_79]; exact mz_pr_s hx_22 (mz_all_t hn (by omega)) (mz_fa_0 (mz_t_n (by omega) c_48) (mz_tc_n hc2_ (by omega) c_64) ev_78)), rfl, hS, lv_sub hl [0, 1, 3, 4, 5] rfl, rfl⟩
        · skip
          refine lv_iload hx hb dX8_weightOf_67 (lv_at hl 0 rfl) ?_
          refine lv_i2l hx hb dX8_weightOf_69 rfl ?_
          refine lv_topl (fun v_69 ev_69 => ?_)
          refine lv_goto (tgt := 79) hx hb dX8_weightOf_70 (by decide) ?_
          refine lv_lmul hx hb dX8_weightOf_79 ?_
          refine lv_topl (fun v_79 ev_79 => ?_)
          refine lv_lstore_n (lv' := [(3, .long v_79), (6, .int (fb (128 * i_22 + mz_rw (fp i_22) (nI kc) 8))), (5, .int (nI i_22)), (0, .ref mo), (1, .int (nI kc)), (2, .int p2)]) hx hb dX8_weightOf_80 rfl hl (by decide) rfl (fun ls hl => ?_)
          refine lv_iinc (v := (nI (i_22 + 1))) (lv' := [(5, .int (nI (i_22 + 1))), (3, .long v_79), (6, .int (fb (128 * i_22 + mz_rw (fp i_22) (nI kc) 8))), (0, .ref mo), (1, .int (nI kc)), (2, .int p2)]) hx hb dX8_weightOf_81 hl (k := 2) rfl (nI_1 _) (by decide) rfl (fun ls hl => ?_)
          refine lv_goto (tgt := 22) hx hb dX8_weightOf_84 (by decide) ?_
          exact ih_22 _ (by omega) _ _ _ ⟨(i_22 + 1), v_79, by omega, (by rw [ev_79]; exact mz_pr_s hx_22 (mz_all_t hn (by omega)) (mz_fa_1 (mz_t_n (by omega) c_48) (mz_tc_y hc2_ (by omega) c_64) ev_69)), rfl, hS, lv_sub hl [0, 1, 3, 4, 5] rfl, rfl⟩
      · skip
        refine lv_ldc2 hx hb hown (hts (.constantLong RX8 96 (100)) (by decide +kernel)) dX8_weightOf_51 ?_
        refine lv_goto (tgt := 79) hx hb dX8_weightOf_54 (by decide) ?_
        refine lv_lmul hx hb dX8_weightOf_79 ?_
        refine lv_topl (fun v_79 ev_79 => ?_)
        refine lv_lstore_n (lv' := [(3, .long v_79), (6, .int (fb (128 * i_22 + mz_rw (fp i_22) (nI kc) 8))), (5, .int (nI i_22)), (0, .ref mo), (1, .int (nI kc)), (2, .int p2)]) hx hb dX8_weightOf_80 rfl hl (by decide) rfl (fun ls hl => ?_)
        refine lv_iinc (v := (nI (i_22 + 1))) (lv' := [(5, .int (nI (i_22 + 1))), (3, .long v_79), (6, .int (fb (128 * i_22 + mz_rw (fp i_22) (nI kc) 8))), (0, .ref mo), (1, .int (nI kc)), (2, .int p2)]) hx hb dX8_weightOf_81 hl (k := 2) rfl (nI_1 _) (by decide) rfl (fun ls hl => ?_)
        refine lv_goto (tgt := 22) hx hb dX8_weightOf_84 (by decide) ?_
        exact ih_22 _ (by omega) _ _ _ ⟨(i_22 + 1), v_79, by omega, (by rw [ev_79]; exact mz_pr_s hx_22 (mz_all_t hn (by omega)) (mz_fa_d (mz_t_y (by omega) c_48) ((mz_agr hc2_).mp c_12 i_22 (by omega) (mz_t_y (by omega) c_48)))), rfl, hS, lv_sub hl [0, 1, 3, 4, 5] rfl, rfl⟩
  · skip
    refine lv_lconst (v := 0) hx hb dX8_weightOf_15 (by decide +kernel) ?_
    refine W.widen (k := 0) (n := 0) (Nat.le_of_ble_eq_true rfl) (Nat.le_of_ble_eq_true rfl) ?_
    exact W.lret (v := 0) hx hb hr (fun t ht hW => ⟨⟨0, (), rfl, (mz_wt_z hn hkc hset c_12), ht⟩, hS.F ht⟩) hS.2.2 dX8_weightOf_16
set_option maxHeartbeats 1000000 in
set_option maxRecDepth 100000 in
theorem mz_k_m_sum (l : Launch) (dC : Nat → ClassId) (dI : Nat → Nat → Nat) (cI cJ cZ : ClassId) (mo : Nat) (m1 : Nat) (m2 : Nat) (m3 : Nat) (m6 : Nat) (m7 : Nat) (m8 : Nat) (m9 : Nat) (m10 : Nat) (m11 : Nat) (m12 : Nat) (m13 : Nat) (m14 : Nat) (m15 : Nat) (m16 : Nat) (n : Nat) (ka : Int64) (kb : Int64) (fp : Nat → Int32) (fb : Nat → Int32) (p1 : Int32) (p2 : Int32) (Hq : Heap) (hn : n ≤ 8) (hself : ∀ k, k < n → ∀ on, mz_rw (fp k) on 8 < 128) (hgb : ∀ k, k < n → ∀ j, j < 32 → mz_t (fp k) j = true → j < n) (hs1 : mz_stg n p1) (hs2 : mz_stg n p2) : Met l yX8_sum wsX8_sum ({ frames := 2, cells := 0, slots := 0, locals := 51 }) (va_Pc [.ref mo, .int p1, .int p2] (fun U => U.heap = Hq ∧ va_P (dC, dI) vwCl [(mo, .inr (8, [.int (nI n), .ref m1, .ref m2, .ref m3, .long ka, .long kb, .ref m6, .ref m7, .ref m8, .ref m9, .ref m10, .ref m11, .ref m12, .ref m13, .ref m14, .ref m15, .ref m16])), (m2, .inl (cI, 8, .inl fp)), (m3, .inl (cI, 1024, .inl fb))] Hq ∧ va_K (dC, dI) vwCl [(cI, FieldType.int), (cJ, FieldType.long), (cZ, FieldType.boolean)] U ∧ mz_N U)) (va_Ql (fun (r : Int64) (_ : Unit) => r = (mz_cs (mz_wt n fp fb p2) (p1 &&& 255) ((p1 >>> (8 &&& 31)) &&& 255) n)) (fun _ t => t.heap = Hq) (fun _ : Nat => False)) 0 0 (fun _ : Nat => False) := by
  refine Met.ofW (cc := cX8_sum) (maxL := 6) (ret := (some .long)) (by decide) rfl ?_
  intro p e s m args below meth c s₁ B hml hv
  obtain ⟨rfl, hH, hP, hK, hN⟩ := hv
  subst hH
  have hx := B.exec
  have hb := B.bytes
  have hr := B.returns
  have hts := atoms_spec (ws := wsX8_sum) B.pre
  have hown : s.vm.findClass RX8 = some m.cls := findClass_of_methodNamed B.named
  have hlocks := B.notSynchronized
  have hS : va_S (fun _ : Nat => False) s.heap s.heap [] := va_S.rf
  have hiX8 : ∀ w ∈ u_ws RX8 TX8 17, w ∈ wsX8_sum := by decide +kernel
  have hl := lv_entry ([.ref mo, .int p1, .int p2]) (n := 6) (Nat.le_of_ble_eq_true rfl)
  rw [lg_entry_eq]
  generalize (lg_sl ([.ref mo, .int p1, .int p2]) ++ List.replicate (6 - (lg_sl ([.ref mo, .int p1, .int p2])).length) Slot.unset).toArray = ls at hl ⊢
  have hl : lv_has ls 6 [(0, .ref mo), (1, .int p1), (2, .int p2)] := hl
  obtain ⟨N2, hN2⟩ : ∃ k : Nat, k = 2 ^ n := ⟨_, rfl⟩
  have h2n : N2 ≤ 256 := by rw [hN2]; exact mz_2n hn
  refine lv_lconst (v := 0) hx hb dX8_sum_0 (by decide +kernel) ?_
  refine lv_lstore_n (lv' := [(3, .long 0), (0, .ref mo), (1, .int p1), (2, .int p2)]) hx hb dX8_sum_1 rfl hl (by decide) rfl (fun ls hl => ?_)
  refine lv_iconst (v := 0) hx hb dX8_sum_2 (by decide +kernel) ?_
  refine lv_istore (lv' := [(5, .int 0), (3, .long 0), (0, .ref mo), (1, .int p1), (2, .int p2)]) hx hb dX8_sum_3 hl (by decide) rfl (fun ls hl => ?_)
  refine mz_loopU (fun k H locs ls => ∃ (i_5 : Nat), ∃ (x3_5 : Int64), i_5 ≤ N2 ∧ (x3_5 = mz_su (fun c => if mz_mtc (p1 &&& 255) ((p1 >>> (8 &&& 31)) &&& 255) c n = true then mz_wt n fp fb p2 c else 0) i_5) ∧ H = s.heap ∧ va_S (fun _ : Nat => False) s.heap H locs ∧ lv_has ls 6 [(5, .int (nI i_5)), (3, .long x3_5), (0, .ref mo), (1, .int p1), (2, .int p2)] ∧ k = N2 - i_5) ?_ _ _ _ _ ⟨0, 0, by omega, rfl, rfl, hS, lv_sub hl [0, 1, 2, 3, 4] rfl, rfl⟩
  intro k_5 H locs ls hI_5 ih_5
  obtain ⟨i_5, x3_5, hi_5, hs_5, hH_5, hS, hl, hk_5⟩ := hI_5
  subst hH_5
  refine lv_iload hx hb dX8_sum_5 (lv_at hl 0 rfl) ?_
  refine lv_iconst (v := 1) hx hb dX8_sum_7 (by decide +kernel) ?_
  refine lv_aload_n hx hb dX8_sum_8 rfl (lv_at hl 2 rfl) ?_
  refine va_get (D := (dC, dI)) (ci := 8) (v := .int (nI n)) (C := RX8) (T := TX8) (N := 17) hx hb hts hiX8 hown hK hP 0 rfl rfl 0 (by decide) (hts (.fieldLink RX8 58 "MadeItSoModel" "many" "I") (by decide +kernel)) (fun _ h9 => h9) rfl dX8_sum_9 ?_
  refine lv_ishl hx hb dX8_sum_12 ?_
  refine mz_ti (y := (nI N2)) (by rw [hN2]; exact mz_sh1 (by omega)) ?_
  refine lv_icmp_ge (tgt := 48) hx hb dX8_sum_13 (by decide) (fun c_13 => ?_) (fun c_13 => ?_)
  · skip
    have d_13 : N2 ≤ i_5 := (nI_leI (a := N2) (b := i_5) (by omega) (by omega)).mp c_13
    refine lv_lload_n hx hb dX8_sum_48 rfl (lv_at hl 1 rfl) ?_
    refine W.widen (k := 0) (n := 0) (Nat.le_of_ble_eq_true rfl) (Nat.le_of_ble_eq_true rfl) ?_
    exact W.lret (v := x3_5) hx hb hr (fun t ht hW => ⟨⟨x3_5, (), rfl, (by rw [hs_5, show i_5 = N2 by omega, hN2]; rfl), ht⟩, hS.F ht⟩) hS.2.2 dX8_sum_49
  · skip
    have d_13 : ¬ N2 ≤ i_5 := fun h => c_13 ((nI_leI (a := N2) (b := i_5) (by omega) (by omega)).mpr h)
    refine lv_iload hx hb dX8_sum_16 (lv_at hl 0 rfl) ?_
    refine lv_iload_n hx hb dX8_sum_18 rfl (lv_at hl 3 rfl) ?_
    refine lv_bipush (v := 8) hx hb dX8_sum_19 (by decide +kernel) ?_
    refine lv_ishr hx hb dX8_sum_21 ?_
    refine lv_ixor hx hb dX8_sum_22 ?_
    refine lv_iload_n hx hb dX8_sum_23 rfl (lv_at hl 3 rfl) ?_
    refine lv_iand hx hb dX8_sum_24 ?_
    refine lv_sipush (v := 255) hx hb dX8_sum_25 (by decide +kernel) ?_
    refine lv_iand hx hb dX8_sum_28 ?_
    refine lv_if_ne (tgt := 42) hx hb dX8_sum_29 (by decide) (fun c_29 => ?_) (fun c_29 => ?_)
    · skip
      refine lv_iinc (v := (nI (i_5 + 1))) (lv' := [(5, .int (nI (i_5 + 1))), (3, .long x3_5), (0, .ref mo), (1, .int p1), (2, .int p2)]) hx hb dX8_sum_42 hl (k := 0) rfl (nI_1 _) (by decide) rfl (fun ls hl => ?_)
      refine lv_goto (tgt := 5) hx hb dX8_sum_45 (by decide) ?_
      exact ih_5 _ (by omega) _ _ _ ⟨(i_5 + 1), x3_5, by omega, (mz_su_n (P := fun c => mz_mtc (p1 &&& 255) ((p1 >>> (8 &&& 31)) &&& 255) c n) hs_5 (fun q => c_29 ((mz_cond hn (by rw [← hN2]; omega) hs1).mpr q))), rfl, hS, lv_sub hl [0, 1, 2, 3, 4] rfl, rfl⟩
    · skip
      refine lv_lload_n hx hb dX8_sum_32 rfl (lv_at hl 1 rfl) ?_
      refine lv_aload_n hx hb dX8_sum_33 rfl (lv_at hl 2 rfl) ?_
      refine lv_iload hx hb dX8_sum_34 (lv_at hl 0 rfl) ?_
      refine lv_iload_n hx hb dX8_sum_36 rfl (lv_at hl 4 rfl) ?_
      have hPc := hP.sub (ws' := [(mo, .inr (8, [.int (nI n), .ref m1, .ref m2, .ref m3, .long ka, .long kb, .ref m6, .ref m7, .ref m8, .ref m9, .ref m10, .ref m11, .ref m12, .ref m13, .ref m14, .ref m15, .ref m16])), (m2, .inl (cI, 8, .inl fp)), (m3, .inl (cI, 1024, .inl fb))]) [0, 1, 2] rfl
      refine va_calll (va_runV (As := [.int (nI i_5), .int p2]) (rest := [.long x3_5]) ⟨hx, hb, hml, hown, hts⟩ (mz_k_m_weightOf l dC dI cI cJ cZ mo m1 m2 m3 m6 m7 m8 m9 m10 m11 m12 m13 m14 m15 m16 n ka kb fp fb i_5 p2 s.heap (by first | assumption | omega) (by first | assumption | omega) (by first | assumption | omega) (by rw [← hN2]; omega) hs2) (cwV 2 hts gX8_sum_X8_weightOf rfl rfl rfl (by decide +kernel) ⟨Nat.le_of_ble_eq_true rfl, Nat.le_of_ble_eq_true rfl⟩) ⟨fun a U g mk q => mz_blP q, va_recv hK hPc (ci := 8) (q0 := 0) rfl rfl, fun U hU hW => ⟨rfl, hU, hPc, va_K.moved hW.alike hK, mz_nw hW hN⟩⟩ rfl rfl hl.1 rfl (lv_room (Nat.le_of_ble_eq_true rfl)) dX8_sum_37 ⟨Nat.le_of_ble_eq_true rfl, Nat.le_of_ble_eq_true rfl⟩) hS (fun q _ h => h.elim) (fun q h => h.elim) (fun r_37 u t H1 locs ht hvm hw_37 hB hz1 hk1 hS => ?_)
      have hE : s.heap = H1 := hB.symm.trans ht
      subst hE
      obtain rfl : r_37 = (mz_wt n fp fb p2 i_5) := hw_37
      refine lv_ladd hx hb dX8_sum_40 ?_
      refine lv_topl (fun v_40 ev_40 => ?_)
      refine lv_lstore_n (lv' := [(3, .long v_40), (5, .int (nI i_5)), (0, .ref mo), (1, .int p1), (2, .int p2)]) hx hb dX8_sum_41 rfl hl (by decide) rfl (fun ls hl => ?_)
      refine lv_iinc (v := (nI (i_5 + 1))) (lv' := [(5, .int (nI (i_5 + 1))), (3, .long v_40), (0, .ref mo), (1, .int p1), (2, .int p2)]) hx hb dX8_sum_42 hl (k := 1) rfl (nI_1 _) (by decide) rfl (fun ls hl => ?_)
      refine lv_goto (tgt := 5) hx hb dX8_sum_45 (by decide) ?_
      exact ih_5 _ (by omega) _ _ _ ⟨(i_5 + 1), v_40, by omega, (by rw [ev_40]; exact mz_su_y (P := fun c => mz_mtc (p1 &&& 255) ((p1 >>> (8 &&& 31)) &&& 255) c n) hs_5 ((mz_cond hn (by rw [← hN2]; omega) hs1).mp c_29) rfl), rfl, hS, lv_sub hl [0, 1, 2, 3, 4] rfl, rfl⟩
set_option maxHeartbeats 1000000 in
set_option maxRecDepth 100000 in
theorem mz_k_m_weight (l : Launch) (dC : Nat → ClassId) (dI : Nat → Nat → Nat) (cI cJ cZ : ClassId) (mo : Nat) (m1 : Nat) (m2 : Nat) (m3 : Nat) (m6 : Nat) (m7 : Nat) (m8 : Nat) (m9 : Nat) (m10 : Nat) (m11 : Nat) (m12 : Nat) (m13 : Nat) (m14 : Nat) (m15 : Nat) (m16 : Nat) (n : Nat) (ka : Int64) (kb : Int64) (fp : Nat → Int32) (fb : Nat → Int32) (p1 : Int32) (p2 : Int32) (Hq : Heap) (hn : n ≤ 8) (hself : ∀ k, k < n → ∀ on, mz_rw (fp k) on 8 < 128) (hgb : ∀ k, k < n → ∀ j, j < 32 → mz_t (fp k) j = true → j < n) (hs1 : mz_stg n p1) (hs2 : mz_stg n p2) : Met l yX8_weight wsX8_weight ({ frames := 3, cells := 0, slots := 0, locals := 76 }) (va_Pc [.ref mo, .int p1, .int p2] (fun U => U.heap = Hq ∧ va_P (dC, dI) vwCl [(mo, .inr (8, [.int (nI n), .ref m1, .ref m2, .ref m3, .long ka, .long kb, .ref m6, .ref m7, .ref m8, .ref m9, .ref m10, .ref m11, .ref m12, .ref m13, .ref m14, .ref m15, .ref m16])), (m2, .inl (cI, 8, .inl fp)), (m3, .inl (cI, 1024, .inl fb))] Hq ∧ va_K (dC, dI) vwCl [(cI, FieldType.int), (cJ, FieldType.long), (cZ, FieldType.boolean)] U ∧ mz_N U)) (va_Ql (fun (r : Int64) (_ : Unit) => r = (mz_cs (mz_wt n fp fb p2) (p1 &&& 255) ((p1 >>> (8 &&& 31)) &&& 255) n)) (fun _ t => t.heap = Hq) (fun _ : Nat => False)) 0 0 (fun _ : Nat => False) := by
  refine Met.ofW (cc := cX8_weight) (maxL := 3) (ret := (some .long)) (by decide) rfl ?_
  intro p e s m args below meth c s₁ B hml hv
  obtain ⟨rfl, hH, hP, hK, hN⟩ := hv
  subst hH
  have hx := B.exec
  have hb := B.bytes
  have hr := B.returns
  have hts := atoms_spec (ws := wsX8_weight) B.pre
  have hown : s.vm.findClass RX8 = some m.cls := findClass_of_methodNamed B.named
  have hlocks := B.notSynchronized
  have hS : va_S (fun _ : Nat => False) s.heap s.heap [] := va_S.rf
  have hl := lv_entry ([.ref mo, .int p1, .int p2]) (n := 3) (Nat.le_of_ble_eq_true rfl)
  rw [lg_entry_eq]
  generalize (lg_sl ([.ref mo, .int p1, .int p2]) ++ List.replicate (3 - (lg_sl ([.ref mo, .int p1, .int p2])).length) Slot.unset).toArray = ls at hl ⊢
  have hl : lv_has ls 3 [(0, .ref mo), (1, .int p1), (2, .int p2)] := hl
  refine lv_aload_n hx hb dX8_weight_0 rfl (lv_at hl 0 rfl) ?_
  refine lv_iload_n hx hb dX8_weight_1 rfl (lv_at hl 1 rfl) ?_
  have hPc := hP.sub (ws' := [(mo, .inr (8, [.int (nI n), .ref m1, .ref m2, .ref m3, .long ka, .long kb, .ref m6, .ref m7, .ref m8, .ref m9, .ref m10, .ref m11, .ref m12, .ref m13, .ref m14, .ref m15, .ref m16]))]) [0] rfl
  refine va_calli (va_runV (As := [.int p1]) (rest := []) ⟨hx, hb, hml, hown, hts⟩ (mz_h_m_isSetting l dC dI cI cJ cZ mo m1 m2 m3 m6 m7 m8 m9 m10 m11 m12 m13 m14 m15 m16 n ka kb p1 s.heap (by first | assumption | omega)) (cwV 1 hts gX8_weight_X8_isSetting rfl rfl rfl (by decide +kernel) ⟨Nat.le_of_ble_eq_true rfl, Nat.le_of_ble_eq_true rfl⟩) ⟨fun a U g mk q => mz_blP q, va_recv hK hPc (ci := 8) (q0 := 0) rfl rfl, fun U hU hW => ⟨rfl, hU, hPc, va_K.moved hW.alike hK, mz_nw hW hN⟩⟩ rfl rfl hl.1 rfl (lv_room (Nat.le_of_ble_eq_true rfl)) dX8_weight_2 ⟨Nat.le_of_ble_eq_true rfl, Nat.le_of_ble_eq_true rfl⟩) hS (fun q _ h => h.elim) (fun q h => h.elim) (fun r_2 u t H1 locs ht hvm hw_2 hB hz1 hk1 hS => ?_)
  have hE : s.heap = H1 := hB.symm.trans ht
  subst hE
  rcases (show (r_2 = 1 ∧ mz_stg n p1) ∨ (r_2 = 0 ∧ ¬ mz_stg n p1) from hw_2) with ⟨rfl, hc_2⟩ | ⟨rfl, hc_2⟩
  · skip
    refine lv_if_eq (tgt := 25) hx hb dX8_weight_5 (by decide) (fun c_5 => absurd c_5 (by decide +kernel)) (fun _ => ?_)
    refine lv_aload_n hx hb dX8_weight_8 rfl (lv_at hl 0 rfl) ?_
    refine lv_iload_n hx hb dX8_weight_9 rfl (lv_at hl 2 rfl) ?_
    have hPc := hP.sub (ws' := [(mo, .inr (8, [.int (nI n), .ref m1, .ref m2, .ref m3, .long ka, .long kb, .ref m6, .ref m7, .ref m8, .ref m9, .ref m10, .ref m11, .ref m12, .ref m13, .ref m14, .ref m15, .ref m16]))]) [0] rfl
    refine va_calli (va_runV (As := [.int p2]) (rest := []) ⟨hx, hb, hml, hown, hts⟩ (mz_h_m_isSetting l dC dI cI cJ cZ mo m1 m2 m3 m6 m7 m8 m9 m10 m11 m12 m13 m14 m15 m16 n ka kb p2 s.heap (by first | assumption | omega)) (cwV 1 hts gX8_weight_X8_isSetting rfl rfl rfl (by decide +kernel) ⟨Nat.le_of_ble_eq_true rfl, Nat.le_of_ble_eq_true rfl⟩) ⟨fun a U g mk q => mz_blP q, va_recv hK hPc (ci := 8) (q0 := 0) rfl rfl, fun U hU hW => ⟨rfl, hU, hPc, va_K.moved hW.alike hK, mz_nw hW hN⟩⟩ rfl rfl hl.1 rfl (lv_room (Nat.le_of_ble_eq_true rfl)) dX8_weight_10 ⟨Nat.le_of_ble_eq_true rfl, Nat.le_of_ble_eq_true rfl⟩) hS (fun q _ h => h.elim) (fun q h => h.elim) (fun r_10 u t H1 locs ht hvm hw_10 hB hz1 hk1 hS => ?_)
    have hE : s.heap = H1 := hB.symm.trans ht
    subst hE
    rcases (show (r_10 = 1 ∧ mz_stg n p2) ∨ (r_10 = 0 ∧ ¬ mz_stg n p2) from hw_10) with ⟨rfl, hc_10⟩ | ⟨rfl, hc_10⟩
    · skip
      refine lv_if_eq (tgt := 25) hx hb dX8_weight_13 (by decide) (fun c_13 => absurd c_13 (by decide +kernel)) (fun _ => ?_)
      refine lv_aload_n hx hb dX8_weight_16 rfl (lv_at hl 0 rfl) ?_
      refine lv_iload_n hx hb dX8_weight_17 rfl (lv_at hl 1 rfl) ?_
      refine lv_iload_n hx hb dX8_weight_18 rfl (lv_at hl 2 rfl) ?_
      have hPc := hP.sub (ws' := [(mo, .inr (8, [.int (nI n), .ref m1, .ref m2, .ref m3, .long ka, .long kb, .ref m6, .ref m7, .ref m8, .ref m9, .ref m10, .ref m11, .ref m12, .ref m13, .ref m14, .ref m15, .ref m16])), (m2, .inl (cI, 8, .inl fp)), (m3, .inl (cI, 1024, .inl fb))]) [0, 1, 2] rfl
      refine va_calll (va_runV (As := [.int p1, .int p2]) (rest := []) ⟨hx, hb, hml, hown, hts⟩ (mz_k_m_sum l dC dI cI cJ cZ mo m1 m2 m3 m6 m7 m8 m9 m10 m11 m12 m13 m14 m15 m16 n ka kb fp fb p1 p2 s.heap (by first | assumption | omega) (by first | assumption | omega) (by first | assumption | omega) (by first | assumption | omega) (by first | assumption | omega)) (cwV 2 hts gX8_weight_X8_sum rfl rfl rfl (by decide +kernel) ⟨Nat.le_of_ble_eq_true rfl, Nat.le_of_ble_eq_true rfl⟩) ⟨fun a U g mk q => mz_blP q, va_recv hK hPc (ci := 8) (q0 := 0) rfl rfl, fun U hU hW => ⟨rfl, hU, hPc, va_K.moved hW.alike hK, mz_nw hW hN⟩⟩ rfl rfl hl.1 rfl (lv_room (Nat.le_of_ble_eq_true rfl)) dX8_weight_19 ⟨Nat.le_of_ble_eq_true rfl, Nat.le_of_ble_eq_true rfl⟩) hS (fun q _ h => h.elim) (fun q h => h.elim) (fun r_19 u t H1 locs ht hvm hw_19 hB hz1 hk1 hS => ?_)
      have hE : s.heap = H1 := hB.symm.trans ht
      subst hE
      obtain rfl : r_19 = (mz_cs (mz_wt n fp fb p2) (p1 &&& 255) ((p1 >>> (8 &&& 31)) &&& 255) n) := hw_19
      refine lv_goto (tgt := 28) hx hb dX8_weight_22 (by decide) ?_
      refine W.widen (k := 0) (n := 0) (Nat.le_of_ble_eq_true rfl) (Nat.le_of_ble_eq_true rfl) ?_
      exact W.lret (v := (mz_cs (mz_wt n fp fb p2) (p1 &&& 255) ((p1 >>> (8 &&& 31)) &&& 255) n)) hx hb hr (fun t ht hW => ⟨⟨(mz_cs (mz_wt n fp fb p2) (p1 &&& 255) ((p1 >>> (8 &&& 31)) &&& 255) n), (), rfl, rfl, ht⟩, hS.F ht⟩) hS.2.2 dX8_weight_28
    · skip
      refine lv_if_eq (tgt := 25) hx hb dX8_weight_13 (by decide) (fun _ => ?_) (fun c_13 => absurd (by decide +kernel) c_13)
      first | exact absurd hs1 hc_2 | exact absurd hs2 hc_10
  · skip
    refine lv_if_eq (tgt := 25) hx hb dX8_weight_5 (by decide) (fun _ => ?_) (fun c_5 => absurd (by decide +kernel) c_5)
    first | exact absurd hs1 hc_2 | exact absurd hs2 hc_10
set_option maxHeartbeats 1000000 in
set_option maxRecDepth 100000 in
theorem mz_k_m_weight_out (l : Launch) (dC : Nat → ClassId) (dI : Nat → Nat → Nat) (cI cJ cZ : ClassId) (mo : Nat) (m1 : Nat) (m2 : Nat) (m3 : Nat) (m6 : Nat) (m7 : Nat) (m8 : Nat) (m9 : Nat) (m10 : Nat) (m11 : Nat) (m12 : Nat) (m13 : Nat) (m14 : Nat) (m15 : Nat) (m16 : Nat) (n : Nat) (ka : Int64) (kb : Int64) (p1 : Int32) (p2 : Int32) (Hq : Heap) (hn : n ≤ 8) (hnw : ¬ (mz_stg n p1 ∧ mz_stg n p2)) : Met l yX8_weight wsX8_weight ({ frames := 2, cells := 0, slots := 0, locals := 42 }) (va_Pc [.ref mo, .int p1, .int p2] (fun U => U.heap = Hq ∧ va_P (dC, dI) vwCl [(mo, .inr (8, [.int (nI n), .ref m1, .ref m2, .ref m3, .long ka, .long kb, .ref m6, .ref m7, .ref m8, .ref m9, .ref m10, .ref m11, .ref m12, .ref m13, .ref m14, .ref m15, .ref m16]))] Hq ∧ va_K (dC, dI) vwCl [(cI, FieldType.int), (cJ, FieldType.long), (cZ, FieldType.boolean)] U ∧ mz_N U)) (va_Ql (fun (r : Int64) (_ : Unit) => r = (-1)) (fun _ t => t.heap = Hq) (fun _ : Nat => False)) 0 0 (fun _ : Nat => False) := by
  refine Met.ofW (cc := cX8_weight) (maxL := 3) (ret := (some .long)) (by decide) rfl ?_
  intro p e s m args below meth c s₁ B hml hv
  obtain ⟨rfl, hH, hP, hK, hN⟩ := hv
  subst hH
  have hx := B.exec
  have hb := B.bytes
  have hr := B.returns
  have hts := atoms_spec (ws := wsX8_weight) B.pre
  have hown : s.vm.findClass RX8 = some m.cls := findClass_of_methodNamed B.named
  have hlocks := B.notSynchronized
  have hS : va_S (fun _ : Nat => False) s.heap s.heap [] := va_S.rf
  have hl := lv_entry ([.ref mo, .int p1, .int p2]) (n := 3) (Nat.le_of_ble_eq_true rfl)
  rw [lg_entry_eq]
  generalize (lg_sl ([.ref mo, .int p1, .int p2]) ++ List.replicate (3 - (lg_sl ([.ref mo, .int p1, .int p2])).length) Slot.unset).toArray = ls at hl ⊢
  have hl : lv_has ls 3 [(0, .ref mo), (1, .int p1), (2, .int p2)] := hl
  refine lv_aload_n hx hb dX8_weight_0 rfl (lv_at hl 0 rfl) ?_
  refine lv_iload_n hx hb dX8_weight_1 rfl (lv_at hl 1 rfl) ?_
  have hPc := hP.sub (ws' := [(mo, .inr (8, [.int (nI n), .ref m1, .ref m2, .ref m3, .long ka, .long kb, .ref m6, .ref m7, .ref m8, .ref m9, .ref m10, .ref m11, .ref m12, .ref m13, .ref m14, .ref m15, .ref m16]))]) [0] rfl
  refine va_calli (va_runV (As := [.int p1]) (rest := []) ⟨hx, hb, hml, hown, hts⟩ (mz_h_m_isSetting l dC dI cI cJ cZ mo m1 m2 m3 m6 m7 m8 m9 m10 m11 m12 m13 m14 m15 m16 n ka kb p1 s.heap (by first | assumption | omega)) (cwV 1 hts gX8_weight_X8_isSetting rfl rfl rfl (by decide +kernel) ⟨Nat.le_of_ble_eq_true rfl, Nat.le_of_ble_eq_true rfl⟩) ⟨fun a U g mk q => mz_blP q, va_recv hK hPc (ci := 8) (q0 := 0) rfl rfl, fun U hU hW => ⟨rfl, hU, hPc, va_K.moved hW.alike hK, mz_nw hW hN⟩⟩ rfl rfl hl.1 rfl (lv_room (Nat.le_of_ble_eq_true rfl)) dX8_weight_2 ⟨Nat.le_of_ble_eq_true rfl, Nat.le_of_ble_eq_true rfl⟩) hS (fun q _ h => h.elim) (fun q h => h.elim) (fun r_2 u t H1 locs ht hvm hw_2 hB hz1 hk1 hS => ?_)
  have hE : s.heap = H1 := hB.symm.trans ht
  subst hE
  rcases (show (r_2 = 1 ∧ mz_stg n p1) ∨ (r_2 = 0 ∧ ¬ mz_stg n p1) from hw_2) with ⟨rfl, hc_2⟩ | ⟨rfl, hc_2⟩
  · skip
    refine lv_if_eq (tgt := 25) hx hb dX8_weight_5 (by decide) (fun c_5 => absurd c_5 (by decide +kernel)) (fun _ => ?_)
    refine lv_aload_n hx hb dX8_weight_8 rfl (lv_at hl 0 rfl) ?_
    refine lv_iload_n hx hb dX8_weight_9 rfl (lv_at hl 2 rfl) ?_
    have hPc := hP.sub (ws' := [(mo, .inr (8, [.int (nI n), .ref m1, .ref m2, .ref m3, .long ka, .long kb, .ref m6, .ref m7, .ref m8, .ref m9, .ref m10, .ref m11, .ref m12, .ref m13, .ref m14, .ref m15, .ref m16]))]) [0] rfl
    refine va_calli (va_runV (As := [.int p2]) (rest := []) ⟨hx, hb, hml, hown, hts⟩ (mz_h_m_isSetting l dC dI cI cJ cZ mo m1 m2 m3 m6 m7 m8 m9 m10 m11 m12 m13 m14 m15 m16 n ka kb p2 s.heap (by first | assumption | omega)) (cwV 1 hts gX8_weight_X8_isSetting rfl rfl rfl (by decide +kernel) ⟨Nat.le_of_ble_eq_true rfl, Nat.le_of_ble_eq_true rfl⟩) ⟨fun a U g mk q => mz_blP q, va_recv hK hPc (ci := 8) (q0 := 0) rfl rfl, fun U hU hW => ⟨rfl, hU, hPc, va_K.moved hW.alike hK, mz_nw hW hN⟩⟩ rfl rfl hl.1 rfl (lv_room (Nat.le_of_ble_eq_true rfl)) dX8_weight_10 ⟨Nat.le_of_ble_eq_true rfl, Nat.le_of_ble_eq_true rfl⟩) hS (fun q _ h => h.elim) (fun q h => h.elim) (fun r_10 u t H1 locs ht hvm hw_10 hB hz1 hk1 hS => ?_)
    have hE : s.heap = H1 := hB.symm.trans ht
    subst hE
    rcases (show (r_10 = 1 ∧ mz_stg n p2) ∨ (r_10 = 0 ∧ ¬ mz_stg n p2) from hw_10) with ⟨rfl, hc_10⟩ | ⟨rfl, hc_10⟩
    · skip
      refine lv_if_eq (tgt := 25) hx hb dX8_weight_13 (by decide) (fun c_13 => absurd c_13 (by decide +kernel)) (fun _ => ?_)
      exact absurd ⟨hc_2, hc_10⟩ hnw
    · skip
      refine lv_if_eq (tgt := 25) hx hb dX8_weight_13 (by decide) (fun _ => ?_) (fun c_13 => absurd (by decide +kernel) c_13)
      refine lv_ldc2 hx hb hown (hts (.constantLong RX8 108 (-1)) (by decide +kernel)) dX8_weight_25 ?_
      refine W.widen (k := 0) (n := 0) (Nat.le_of_ble_eq_true rfl) (Nat.le_of_ble_eq_true rfl) ?_
      exact W.lret (v := (-1)) hx hb hr (fun t ht hW => ⟨⟨(-1), (), rfl, rfl, ht⟩, hS.F ht⟩) hS.2.2 dX8_weight_28
  · skip
    refine lv_if_eq (tgt := 25) hx hb dX8_weight_5 (by decide) (fun _ => ?_) (fun c_5 => absurd (by decide +kernel) c_5)
    refine lv_ldc2 hx hb hown (hts (.constantLong RX8 108 (-1)) (by decide +kernel)) dX8_weight_25 ?_
    refine W.widen (k := 0) (n := 0) (Nat.le_of_ble_eq_true rfl) (Nat.le_of_ble_eq_true rfl) ?_
    exact W.lret (v := (-1)) hx hb hr (fun t ht hW => ⟨⟨(-1), (), rfl, rfl, ht⟩, hS.F ht⟩) hS.2.2 dX8_weight_28
