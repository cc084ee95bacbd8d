/-! exact answers of the class -/
set_option maxHeartbeats 1000000 in
set_option maxRecDepth 100000 in
theorem mz_e_inHeap (l : Launch) (dC : Nat → ClassId) (dI : Nat → Nat → Nat) (cI cJ cZ : ClassId) (p0 : Int32) (j : Nat) (Hq : Heap) (hj : j < 32) : Met l yX7_inHeap wsX7_inHeap ({ frames := 0, cells := 0, slots := 0, locals := 0 }) (va_Pc [.int p0, .int (nI j)] (fun U => U.heap = Hq ∧ va_P (dC, dI) vwCl [] Hq ∧ va_K (dC, dI) vwCl [(cI, FieldType.int), (cJ, FieldType.long), (cZ, FieldType.boolean)] U ∧ mz_N U)) (va_Qi (fun (r : Int32) (_ : Unit) => (r = 1 ∧ mz_t p0 j = true) ∨ (r = 0 ∧ mz_t p0 j = false)) (fun _ t => t.heap = Hq) (fun _ : Nat => False)) 0 0 (fun _ : Nat => False) := by
  refine Met.ofW (cc := cX7_inHeap) (maxL := 2) (ret := (some .boolean)) (by decide) rfl ?_
  intro p e s m args below meth c s₁ B hml hv
  obtain ⟨rfl, hH, hP, hK, hN⟩ := hv
  subst hH
  have hx := B.exec
  have hb := B.bytes
  have hr := B.returns
  have hts := atoms_spec (ws := wsX7_inHeap) B.pre
  have hown : s.vm.findClass RX7 = some m.cls := findClass_of_methodNamed B.named
  have hlocks := B.notSynchronized
  have hS : va_S (fun _ : Nat => False) s.heap s.heap [] := va_S.rf
  have hl := lv_entry ([.int p0, .int (nI j)]) (n := 2) (Nat.le_of_ble_eq_true rfl)
  rw [lg_entry_eq]
  generalize (lg_sl ([.int p0, .int (nI j)]) ++ List.replicate (2 - (lg_sl ([.int p0, .int (nI j)])).length) Slot.unset).toArray = ls at hl ⊢
  have hl : lv_has ls 2 [(0, .int p0), (1, .int (nI j))] := hl
  refine lv_iload_n hx hb dX7_inHeap_0 rfl (lv_at hl 0 rfl) ?_
  refine lv_iload_n hx hb dX7_inHeap_1 rfl (lv_at hl 1 rfl) ?_
  refine lv_ishr hx hb dX7_inHeap_2 ?_
  refine lv_iconst (v := 1) hx hb dX7_inHeap_3 (by decide +kernel) ?_
  refine lv_iand hx hb dX7_inHeap_4 ?_
  refine lv_iconst (v := 1) hx hb dX7_inHeap_5 (by decide +kernel) ?_
  refine lv_icmp_ne (tgt := 13) hx hb dX7_inHeap_6 (by decide) (fun c_6 => ?_) (fun c_6 => ?_)
  · skip
    refine lv_iconst (v := 0) hx hb dX7_inHeap_13 (by decide +kernel) ?_
    refine W.widen (k := 0) (n := 0) (Nat.le_of_ble_eq_true rfl) (Nat.le_of_ble_eq_true rfl) ?_
    exact W.zret (v := 0) hx hb hr (mz_nz (by decide +kernel)) (fun t ht hW => ⟨⟨0, (), rfl, Or.inr ⟨rfl, mz_t_n hj c_6⟩, ht⟩, hS.F ht⟩) hS.2.2 dX7_inHeap_14
  · skip
    refine lv_iconst (v := 1) hx hb dX7_inHeap_9 (by decide +kernel) ?_
    refine lv_goto (tgt := 14) hx hb dX7_inHeap_10 (by decide) ?_
    refine W.widen (k := 0) (n := 0) (Nat.le_of_ble_eq_true rfl) (Nat.le_of_ble_eq_true rfl) ?_
    exact W.zret (v := 1) hx hb hr (mz_nz (by decide +kernel)) (fun t ht hW => ⟨⟨1, (), rfl, Or.inl ⟨rfl, mz_t_y hj c_6⟩, ht⟩, hS.F ht⟩) hS.2.2 dX7_inHeap_14
set_option maxHeartbeats 1000000 in
set_option maxRecDepth 100000 in
theorem mz_e_gather (l : Launch) (dC : Nat → ClassId) (dI : Nat → Nat → Nat) (cI cJ cZ : ClassId) (ar : Nat) (f : Nat → Int32) (p0 : Int32) (Hq : Heap)  : Met l yX2_gather wsX2_gather ({ frames := 1, cells := 0, slots := 0, locals := 21 }) (va_Pc [.int p0, .ref ar] (fun U => U.heap = Hq ∧ va_P (dC, dI) vwCl [(ar, .inl (cI, 8, .inl f))] Hq ∧ va_K (dC, dI) vwCl [(cI, FieldType.int), (cJ, FieldType.long), (cZ, FieldType.boolean)] U ∧ mz_N U)) (va_Qi (fun (r : Int32) (_ : Unit) => mz_ga f p0 8 r) (fun _ t => t.heap = Hq) (fun _ : Nat => False)) 0 0 (fun _ : Nat => False) := by
  refine Met.ofW (cc := cX2_gather) (maxL := 4) (ret := (some .int)) (by decide) rfl ?_
  intro p e s m args below meth c s₁ B hml hv
  obtain ⟨rfl, hH, hP, hK, hN⟩ := hv
  subst hH
  have hx := B.exec
  have hb := B.bytes
  have hr := B.returns
  have hts := atoms_spec (ws := wsX2_gather) B.pre
  have hown : s.vm.findClass RX2 = some m.cls := findClass_of_methodNamed B.named
  have hlocks := B.notSynchronized
  have hS : va_S (fun _ : Nat => False) s.heap s.heap [] := va_S.rf
  have hl := lv_entry ([.int p0, .ref ar]) (n := 4) (Nat.le_of_ble_eq_true rfl)
  rw [lg_entry_eq]
  generalize (lg_sl ([.int p0, .ref ar]) ++ List.replicate (4 - (lg_sl ([.int p0, .ref ar])).length) Slot.unset).toArray = ls at hl ⊢
  have hl : lv_has ls 4 [(0, .int p0), (1, .ref ar)] := hl
  refine lv_iconst (v := 0) hx hb dX2_gather_0 (by decide +kernel) ?_
  refine lv_istore_n (lv' := [(2, .int 0), (0, .int p0), (1, .ref ar)]) hx hb dX2_gather_1 rfl hl (by decide) rfl (fun ls hl => ?_)
  refine lv_iconst (v := 0) hx hb dX2_gather_2 (by decide +kernel) ?_
  refine lv_istore_n (lv' := [(3, .int 0), (2, .int 0), (0, .int p0), (1, .ref ar)]) hx hb dX2_gather_3 rfl hl (by decide) rfl (fun ls hl => ?_)
  refine mz_loopU (fun k H locs ls => ∃ (i_4 : Nat), ∃ (x2_4 : Int32), i_4 ≤ 8 ∧ (mz_ga f p0 i_4 x2_4) ∧ H = s.heap ∧ va_S (fun _ : Nat => False) s.heap H locs ∧ lv_has ls 4 [(3, .int (nI i_4)), (2, .int x2_4), (0, .int p0), (1, .ref ar)] ∧ k = 8 - i_4) ?_ _ _ _ _ ⟨0, 0, by omega, mz_ga_0, rfl, hS, lv_sub hl [0, 1, 2, 3] rfl, rfl⟩
  intro k_4 H locs ls hI_4 ih_4
  obtain ⟨i_4, x2_4, hi_4, hg_4, hH_4, hS, hl, hk_4⟩ := hI_4
  subst hH_4
  refine lv_iload_n hx hb dX2_gather_4 rfl (lv_at hl 0 rfl) ?_
  refine lv_aload_n hx hb dX2_gather_5 rfl (lv_at hl 3 rfl) ?_
  refine va_alen (v := 8) hx hb hK hP 0 0 rfl rfl rfl dX2_gather_6 ?_
  refine lv_icmp_ge (tgt := 30) hx hb dX2_gather_7 (by decide) (fun c_7 => ?_) (fun c_7 => ?_)
  · skip
    have d_7 : 8 ≤ i_4 := (nI_leI (a := 8) (b := i_4) (by omega) (by omega)).mp c_7
    refine lv_iload_n hx hb dX2_gather_30 rfl (lv_at hl 1 rfl) ?_
    refine W.widen (k := 0) (n := 0) (Nat.le_of_ble_eq_true rfl) (Nat.le_of_ble_eq_true rfl) ?_
    exact W.iret (v := x2_4) hx hb hr (fun t ht hW => ⟨⟨x2_4, (), rfl, (by obtain rfl : i_4 = 8 := (by omega); exact hg_4), ht⟩, hS.F ht⟩) hS.2.2 dX2_gather_31
  · skip
    have d_7 : ¬ 8 ≤ i_4 := fun h => c_7 ((nI_leI (a := 8) (b := i_4) (by omega) (by omega)).mpr h)
    refine lv_iload_n hx hb dX2_gather_10 rfl (lv_at hl 2 rfl) ?_
    refine lv_iload_n hx hb dX2_gather_11 rfl (lv_at hl 0 rfl) ?_
    have hPc := hP.sub (ws' := []) [] rfl
    refine va_calli (va_runSN (As := [.int p0, .int (nI i_4)]) (rest := []) ⟨hx, hb, hml, hown, hts⟩ (mz_e_inHeap l dC dI cI cJ cZ p0 i_4 s.heap (by first | assumption | omega)) ⟨va_cnB (host := "MadeItSo") 2 hts gX2_gather_X7_inHeap_n26 rfl rfl rfl (hN (RX2, 26, yX7_inHeap, "MadeItSo") (by decide +kernel)) (hts (.initialized RX7) (by decide +kernel)) (by decide +kernel) ⟨Nat.le_of_ble_eq_true rfl, Nat.le_of_ble_eq_true rfl⟩, hts (.static yX7_inHeap) (by decide +kernel), trivial⟩ ⟨fun a U g mk q => mz_blP q, fun U hU hW => ⟨rfl, hU, hPc, va_K.moved hW.alike hK, mz_nw hW hN⟩⟩ rfl rfl hl.1 rfl (lv_room (Nat.le_of_ble_eq_true rfl)) dX2_gather_12 ⟨Nat.le_of_ble_eq_true rfl, Nat.le_of_ble_eq_true rfl⟩) hS (fun q _ h => h.elim) (fun q h => h.elim) (fun r_12 u t H1 locs ht hvm hw_12 hB hz1 hk1 hS => ?_)
    have hE : s.heap = H1 := hB.symm.trans ht
    subst hE
    rcases (show (r_12 = 1 ∧ mz_t p0 i_4 = true) ∨ (r_12 = 0 ∧ mz_t p0 i_4 = false) from hw_12) with ⟨rfl, ht_12⟩ | ⟨rfl, ht_12⟩
    · skip
      refine lv_if_eq (tgt := 24) hx hb dX2_gather_15 (by decide) (fun c_15 => absurd c_15 (by decide +kernel)) (fun _ => ?_)
      refine lv_iload_n hx hb dX2_gather_18 rfl (lv_at hl 1 rfl) ?_
      refine lv_aload_n hx hb dX2_gather_19 rfl (lv_at hl 3 rfl) ?_
      refine lv_iload_n hx hb dX2_gather_20 rfl (lv_at hl 0 rfl) ?_
      refine va_iald hx hb hK hP 0 0 rfl rfl (vp_in_nI (by omega) (by omega)) dX2_gather_21 ?_
      refine mz_ti (y := (f i_4)) (by rw [mz_cl (by omega)]) ?_
      refine lv_ior hx hb dX2_gather_22 ?_
      refine lv_istore_n (lv' := [(2, .int (x2_4 ||| (f i_4))), (3, .int (nI i_4)), (0, .int p0), (1, .ref ar)]) hx hb dX2_gather_23 rfl hl (by decide) rfl (fun ls hl => ?_)
      refine lv_iinc (v := (nI (i_4 + 1))) (lv' := [(3, .int (nI (i_4 + 1))), (2, .int (x2_4 ||| (f i_4))), (0, .int p0), (1, .ref ar)]) hx hb dX2_gather_24 hl (k := 1) rfl (nI_1 _) (by decide) rfl (fun ls hl => ?_)
      refine lv_goto (tgt := 4) hx hb dX2_gather_27 (by decide) ?_
      exact ih_4 _ (by omega) _ _ _ ⟨(i_4 + 1), (x2_4 ||| (f i_4)), by omega, (by first | exact mz_ga_y hg_4 ht_12 | exact mz_ga_n hg_4 ht_12), rfl, hS, lv_sub hl [0, 1, 2, 3] rfl, rfl⟩
    · skip
      refine lv_if_eq (tgt := 24) hx hb dX2_gather_15 (by decide) (fun _ => ?_) (fun c_15 => absurd (by decide +kernel) c_15)
      refine lv_iinc (v := (nI (i_4 + 1))) (lv' := [(3, .int (nI (i_4 + 1))), (2, .int x2_4), (0, .int p0), (1, .ref ar)]) hx hb dX2_gather_24 hl (k := 0) rfl (nI_1 _) (by decide) rfl (fun ls hl => ?_)
      refine lv_goto (tgt := 4) hx hb dX2_gather_27 (by decide) ?_
      exact ih_4 _ (by omega) _ _ _ ⟨(i_4 + 1), x2_4, by omega, (by first | exact mz_ga_y hg_4 ht_12 | exact mz_ga_n hg_4 ht_12), rfl, hS, lv_sub hl [0, 1, 2, 3] rfl, rfl⟩
set_option maxHeartbeats 1000000 in
set_option maxRecDepth 100000 in
theorem mz_e_spread_c (l : Launch) (dC : Nat → ClassId) (dI : Nat → Nat → Nat) (cI cJ cZ : ClassId) (dr : Nat) (dp : Nat) (dc : Nat) (n : Nat) (fc : Nat → Int32) (p0 : Int32) (Hq : Heap) (hf8 : ∀ k, k < 8 → ∀ j, j < 32 → mz_t (fc k) j = true → j < 8) : Met l yX2_spread wsX2_spread ({ frames := 2, cells := 0, slots := 0, locals := 44 }) (va_Pc [.ref dr, .int p0, .ref dc] (fun U => U.heap = Hq ∧ va_P (dC, dI) vwCl [(dr, .inr (2, [.ref dp, .ref dc, .int (nI n)])), (dc, .inl (cI, 8, .inl fc))] Hq ∧ va_K (dC, dI) vwCl [(cI, FieldType.int), (cJ, FieldType.long), (cZ, FieldType.boolean)] U ∧ mz_N U)) (va_Qi (fun (r : Int32) (_ : Unit) => mz_lst fc p0 r) (fun _ t => t.heap = Hq) (fun _ : Nat => False)) 0 0 (fun _ : Nat => False) := by
  refine Met.ofW (cc := cX2_spread) (maxL := 6) (ret := (some .int)) (by decide) rfl ?_
  intro p e s m args below meth c s₁ B hml hv
  obtain ⟨rfl, hH, hP, hK, hN⟩ := hv
  subst hH
  have hx := B.exec
  have hb := B.bytes
  have hr := B.returns
  have hts := atoms_spec (ws := wsX2_spread) B.pre
  have hown : s.vm.findClass RX2 = some m.cls := findClass_of_methodNamed B.named
  have hlocks := B.notSynchronized
  have hS : va_S (fun _ : Nat => False) s.heap s.heap [] := va_S.rf
  have hl := lv_entry ([.ref dr, .int p0, .ref dc]) (n := 6) (Nat.le_of_ble_eq_true rfl)
  rw [lg_entry_eq]
  generalize (lg_sl ([.ref dr, .int p0, .ref dc]) ++ List.replicate (6 - (lg_sl ([.ref dr, .int p0, .ref dc])).length) Slot.unset).toArray = ls at hl ⊢
  have hl : lv_has ls 6 [(0, .ref dr), (1, .int p0), (2, .ref dc)] := hl
  refine lv_iload_n hx hb dX2_spread_0 rfl (lv_at hl 1 rfl) ?_
  refine lv_istore_n (lv' := [(3, .int p0), (0, .ref dr), (1, .int p0), (2, .ref dc)]) hx hb dX2_spread_1 rfl hl (by decide) rfl (fun ls hl => ?_)
  refine lv_iconst (v := 0) hx hb dX2_spread_2 (by decide +kernel) ?_
  refine lv_istore (lv' := [(4, .int 0), (3, .int p0), (0, .ref dr), (1, .int p0), (2, .ref dc)]) hx hb dX2_spread_3 hl (by decide) rfl (fun ls hl => ?_)
  refine mz_loopU (fun k H locs ls => ∃ (i_5 : Nat), ∃ (x3_5 : Int32), i_5 ≤ 8 ∧ (mz_ss p0 x3_5) ∧ (∀ F, mz_cl2 fc F → mz_ss p0 F → mz_ss x3_5 F) ∧ (i_5 = 0 ∨ mz_un x3_5 8 + i_5 + 1 ≤ 8) ∧ H = s.heap ∧ va_S (fun _ : Nat => False) s.heap H locs ∧ lv_has ls 6 [(4, .int (nI i_5)), (3, .int x3_5), (0, .ref dr), (1, .int p0), (2, .ref dc)] ∧ k = 8 - i_5) ?_ _ _ _ _ ⟨0, p0, by omega, (fun _ _ h => h), (fun _ _ h => h), (Or.inl rfl), rfl, hS, lv_sub hl [0, 1, 2, 3, 4] rfl, rfl⟩
  intro k_5 H locs ls hI_5 ih_5
  obtain ⟨i_5, x3_5, hi_5, h1_5, h3_5, hu_5, hH_5, hS, hl, hk_5⟩ := hI_5
  subst hH_5
  refine lv_iload hx hb dX2_spread_5 (lv_at hl 0 rfl) ?_
  refine lv_bipush (v := 8) hx hb dX2_spread_7 (by decide +kernel) ?_
  refine lv_icmp_ge (tgt := 39) hx hb dX2_spread_9 (by decide) (fun c_9 => ?_) (fun c_9 => ?_)
  · skip
    have d_9 : 8 ≤ i_5 := (nI_leI (a := 8) (b := i_5) (by omega) (by omega)).mp c_9
    refine lv_iload_n hx hb dX2_spread_39 rfl (lv_at hl 1 rfl) ?_
    refine W.widen (k := 0) (n := 0) (Nat.le_of_ble_eq_true rfl) (Nat.le_of_ble_eq_true rfl) ?_
    exact W.iret (v := x3_5) hx hb hr (fun t ht hW => ⟨⟨x3_5, (), rfl, (by exfalso; omega), ht⟩, hS.F ht⟩) hS.2.2 dX2_spread_40
  · skip
    have d_9 : ¬ 8 ≤ i_5 := fun h => c_9 ((nI_leI (a := 8) (b := i_5) (by omega) (by omega)).mpr h)
    refine lv_iload_n hx hb dX2_spread_12 rfl (lv_at hl 1 rfl) ?_
    refine lv_iload_n hx hb dX2_spread_13 rfl (lv_at hl 1 rfl) ?_
    refine lv_aload_n hx hb dX2_spread_14 rfl (lv_at hl 4 rfl) ?_
    have hPc := hP.sub (ws' := [(dc, .inl (cI, 8, .inl fc))]) [1] rfl
    refine va_calli (va_runS (As := [.int x3_5, .ref dc]) (rest := [.int x3_5]) ⟨hx, hb, hml, hown, hts⟩ (mz_e_gather l dC dI cI cJ cZ dc fc x3_5 s.heap ) (va_cwS 2 hts gX2_spread_X2_gather rfl rfl rfl (by decide +kernel) ⟨Nat.le_of_ble_eq_true rfl, Nat.le_of_ble_eq_true rfl⟩) ⟨fun a U g mk q => mz_blP q, fun U hU hW => ⟨rfl, hU, hPc, va_K.moved hW.alike hK, mz_nw hW hN⟩⟩ rfl rfl hl.1 rfl (lv_room (Nat.le_of_ble_eq_true rfl)) dX2_spread_15 ⟨Nat.le_of_ble_eq_true rfl, Nat.le_of_ble_eq_true rfl⟩) hS (fun q _ h => h.elim) (fun q h => h.elim) (fun r_15 u t H1 locs ht hvm hw_15 hB hz1 hk1 hS => ?_)
    have hE : s.heap = H1 := hB.symm.trans ht
    subst hE
    refine lv_ior hx hb dX2_spread_18 ?_
    refine lv_istore (lv' := [(5, .int (x3_5 ||| r_15)), (4, .int (nI i_5)), (3, .int x3_5), (0, .ref dr), (1, .int p0), (2, .ref dc)]) hx hb dX2_spread_19 hl (by decide) rfl (fun ls hl => ?_)
    refine lv_iload hx hb dX2_spread_21 (lv_at hl 0 rfl) ?_
    refine lv_iload_n hx hb dX2_spread_23 rfl (lv_at hl 2 rfl) ?_
    refine lv_icmp_ne (tgt := 30) hx hb dX2_spread_24 (by decide) (fun c_24 => ?_) (fun c_24 => ?_)
    · skip
      refine lv_iload hx hb dX2_spread_30 (lv_at hl 0 rfl) ?_
      refine lv_istore_n (lv' := [(3, .int (x3_5 ||| r_15)), (5, .int (x3_5 ||| r_15)), (4, .int (nI i_5)), (0, .ref dr), (1, .int p0), (2, .ref dc)]) hx hb dX2_spread_32 rfl hl (by decide) rfl (fun ls hl => ?_)
      refine lv_iinc (v := (nI (i_5 + 1))) (lv' := [(4, .int (nI (i_5 + 1))), (3, .int (x3_5 ||| r_15)), (5, .int (x3_5 ||| r_15)), (0, .ref dr), (1, .int p0), (2, .ref dc)]) hx hb dX2_spread_33 hl (k := 2) rfl (nI_1 _) (by decide) rfl (fun ls hl => ?_)
      refine lv_goto (tgt := 5) hx hb dX2_spread_36 (by decide) ?_
      exact ih_5 _ (by omega) _ _ _ ⟨(i_5 + 1), (x3_5 ||| r_15), by omega, (mz_lst_sup h1_5), (mz_lst_min hw_15 h3_5), (Or.inr (by have h9 := mz_un_grow hw_15 hf8 c_24; omega)), rfl, hS, lv_sub hl [0, 1, 3, 4, 5] rfl, rfl⟩
    · skip
      refine lv_goto (tgt := 39) hx hb dX2_spread_27 (by decide) ?_
      refine lv_iload_n hx hb dX2_spread_39 rfl (lv_at hl 2 rfl) ?_
      refine W.widen (k := 0) (n := 0) (Nat.le_of_ble_eq_true rfl) (Nat.le_of_ble_eq_true rfl) ?_
      exact W.iret (v := x3_5) hx hb hr (fun t ht hW => ⟨⟨x3_5, (), rfl, (mz_lst_done hw_15 c_24 h1_5 h3_5), ht⟩, hS.F ht⟩) hS.2.2 dX2_spread_40
set_option maxHeartbeats 1000000 in
set_option maxRecDepth 100000 in
theorem mz_e_childrenOf (l : Launch) (dC : Nat → ClassId) (dI : Nat → Nat → Nat) (cI cJ cZ : ClassId) (dr : Nat) (dp : Nat) (dc : Nat) (n : Nat) (fc : Nat → Int32) (j : Nat) (Hq : Heap) (hn : n ≤ 8) (hj : j < n) : Met l yX2_childrenOf wsX2_childrenOf ({ frames := 1, cells := 0, slots := 0, locals := 21 }) (va_Pc [.ref dr, .int (nI j)] (fun U => U.heap = Hq ∧ va_P (dC, dI) vwCl [(dr, .inr (2, [.ref dp, .ref dc, .int (nI n)])), (dc, .inl (cI, 8, .inl fc))] Hq ∧ va_K (dC, dI) vwCl [(cI, FieldType.int), (cJ, FieldType.long), (cZ, FieldType.boolean)] U ∧ mz_N U)) (va_Qi (fun (r : Int32) (_ : Unit) => r = (fc j)) (fun _ t => t.heap = Hq) (fun _ : Nat => False)) 0 0 (fun _ : Nat => False) := by
  refine Met.ofW (cc := cX2_childrenOf) (maxL := 2) (ret := (some .int)) (by decide) rfl ?_
  intro p e s m args below meth c s₁ B hml hv
  obtain ⟨rfl, hH, hP, hK, hN⟩ := hv
  subst hH
  have hx := B.exec
  have hb := B.bytes
  have hr := B.returns
  have hts := atoms_spec (ws := wsX2_childrenOf) B.pre
  have hown : s.vm.findClass RX2 = some m.cls := findClass_of_methodNamed B.named
  have hlocks := B.notSynchronized
  have hS : va_S (fun _ : Nat => False) s.heap s.heap [] := va_S.rf
  have hiX2 : ∀ w ∈ u_ws RX2 TX2 3, w ∈ wsX2_childrenOf := by decide +kernel
  have hl := lv_entry ([.ref dr, .int (nI j)]) (n := 2) (Nat.le_of_ble_eq_true rfl)
  rw [lg_entry_eq]
  generalize (lg_sl ([.ref dr, .int (nI j)]) ++ List.replicate (2 - (lg_sl ([.ref dr, .int (nI j)])).length) Slot.unset).toArray = ls at hl ⊢
  have hl : lv_has ls 2 [(0, .ref dr), (1, .int (nI j))] := hl
  refine lv_aload_n hx hb dX2_childrenOf_0 rfl (lv_at hl 0 rfl) ?_
  refine lv_iload_n hx hb dX2_childrenOf_1 rfl (lv_at hl 1 rfl) ?_
  have hPc := hP.sub (ws' := [(dr, .inr (2, [.ref dp, .ref dc, .int (nI n)]))]) [0] rfl
  refine va_calli (va_runV (As := [.int (nI j)]) (rest := []) ⟨hx, hb, hml, hown, hts⟩ (mz_d_has_in l dC dI cI cJ cZ dr dp dc n j s.heap (by first | assumption | omega) (by first | assumption | omega)) (cwV 1 hts gX2_childrenOf_X2_has rfl rfl rfl (by decide +kernel) ⟨Nat.le_of_ble_eq_true rfl, Nat.le_of_ble_eq_true rfl⟩) ⟨fun a U g mk q => mz_blP q, va_recv hK hPc (ci := 2) (q0 := 0) rfl rfl, fun U hU hW => ⟨rfl, hU, hPc, va_K.moved hW.alike hK, mz_nw hW hN⟩⟩ rfl rfl hl.1 rfl (lv_room (Nat.le_of_ble_eq_true rfl)) dX2_childrenOf_2 ⟨Nat.le_of_ble_eq_true rfl, Nat.le_of_ble_eq_true rfl⟩) hS (fun q _ h => h.elim) (fun q h => h.elim) (fun r_2 u t H1 locs ht hvm hw_2 hB hz1 hk1 hS => ?_)
  have hE : s.heap = H1 := hB.symm.trans ht
  subst hE
  obtain rfl : r_2 = 1 := hw_2
  refine lv_if_eq (tgt := 17) hx hb dX2_childrenOf_5 (by decide) (fun c_5 => absurd c_5 (by decide +kernel)) (fun _ => ?_)
  refine lv_aload_n hx hb dX2_childrenOf_8 rfl (lv_at hl 0 rfl) ?_
  refine va_get (D := (dC, dI)) (ci := 2) (v := .ref dc) (C := RX2) (T := TX2) (N := 3) hx hb hts hiX2 hown hK hP 0 rfl rfl 1 (by decide) (hts (.fieldLink RX2 15 "MadeItSo$Drawing" "children" "[I") (by decide +kernel)) (fun _ h9 => h9) rfl dX2_childrenOf_9 ?_
  refine lv_iload_n hx hb dX2_childrenOf_12 rfl (lv_at hl 1 rfl) ?_
  refine va_iald hx hb hK hP 1 0 rfl rfl (vp_in_nI (by omega) (by omega)) dX2_childrenOf_13 ?_
  refine mz_ti (y := (fc j)) (by rw [mz_cl (by omega)]) ?_
  refine lv_goto (tgt := 18) hx hb dX2_childrenOf_14 (by decide) ?_
  refine W.widen (k := 0) (n := 0) (Nat.le_of_ble_eq_true rfl) (Nat.le_of_ble_eq_true rfl) ?_
  exact W.iret (v := (fc j)) hx hb hr (fun t ht hW => ⟨⟨(fc j), (), rfl, rfl, ht⟩, hS.F ht⟩) hS.2.2 dX2_childrenOf_18
set_option maxHeartbeats 1000000 in
set_option maxRecDepth 100000 in
theorem mz_e_parentsOf (l : Launch) (dC : Nat → ClassId) (dI : Nat → Nat → Nat) (cI cJ cZ : ClassId) (dr : Nat) (dp : Nat) (dc : Nat) (n : Nat) (fp : Nat → Int32) (j : Nat) (Hq : Heap) (hn : n ≤ 8) (hj : j < n) : Met l yX2_parentsOf wsX2_parentsOf ({ frames := 1, cells := 0, slots := 0, locals := 21 }) (va_Pc [.ref dr, .int (nI j)] (fun U => U.heap = Hq ∧ va_P (dC, dI) vwCl [(dr, .inr (2, [.ref dp, .ref dc, .int (nI n)])), (dp, .inl (cI, 8, .inl fp))] Hq ∧ va_K (dC, dI) vwCl [(cI, FieldType.int), (cJ, FieldType.long), (cZ, FieldType.boolean)] U ∧ mz_N U)) (va_Qi (fun (r : Int32) (_ : Unit) => r = (fp j)) (fun _ t => t.heap = Hq) (fun _ : Nat => False)) 0 0 (fun _ : Nat => False) := by
  refine Met.ofW (cc := cX2_parentsOf) (maxL := 2) (ret := (some .int)) (by decide) rfl ?_
  intro p e s m args below meth c s₁ B hml hv
  obtain ⟨rfl, hH, hP, hK, hN⟩ := hv
  subst hH
  have hx := B.exec
  have hb := B.bytes
  have hr := B.returns
  have hts := atoms_spec (ws := wsX2_parentsOf) B.pre
  have hown : s.vm.findClass RX2 = some m.cls := findClass_of_methodNamed B.named
  have hlocks := B.notSynchronized
  have hS : va_S (fun _ : Nat => False) s.heap s.heap [] := va_S.rf
  have hiX2 : ∀ w ∈ u_ws RX2 TX2 3, w ∈ wsX2_parentsOf := by decide +kernel
  have hl := lv_entry ([.ref dr, .int (nI j)]) (n := 2) (Nat.le_of_ble_eq_true rfl)
  rw [lg_entry_eq]
  generalize (lg_sl ([.ref dr, .int (nI j)]) ++ List.replicate (2 - (lg_sl ([.ref dr, .int (nI j)])).length) Slot.unset).toArray = ls at hl ⊢
  have hl : lv_has ls 2 [(0, .ref dr), (1, .int (nI j))] := hl
  refine lv_aload_n hx hb dX2_parentsOf_0 rfl (lv_at hl 0 rfl) ?_
  refine lv_iload_n hx hb dX2_parentsOf_1 rfl (lv_at hl 1 rfl) ?_
  have hPc := hP.sub (ws' := [(dr, .inr (2, [.ref dp, .ref dc, .int (nI n)]))]) [0] rfl
  refine va_calli (va_runV (As := [.int (nI j)]) (rest := []) ⟨hx, hb, hml, hown, hts⟩ (mz_d_has_in l dC dI cI cJ cZ dr dp dc n j s.heap (by first | assumption | omega) (by first | assumption | omega)) (cwV 1 hts gX2_parentsOf_X2_has rfl rfl rfl (by decide +kernel) ⟨Nat.le_of_ble_eq_true rfl, Nat.le_of_ble_eq_true rfl⟩) ⟨fun a U g mk q => mz_blP q, va_recv hK hPc (ci := 2) (q0 := 0) rfl rfl, fun U hU hW => ⟨rfl, hU, hPc, va_K.moved hW.alike hK, mz_nw hW hN⟩⟩ rfl rfl hl.1 rfl (lv_room (Nat.le_of_ble_eq_true rfl)) dX2_parentsOf_2 ⟨Nat.le_of_ble_eq_true rfl, Nat.le_of_ble_eq_true rfl⟩) hS (fun q _ h => h.elim) (fun q h => h.elim) (fun r_2 u t H1 locs ht hvm hw_2 hB hz1 hk1 hS => ?_)
  have hE : s.heap = H1 := hB.symm.trans ht
  subst hE
  obtain rfl : r_2 = 1 := hw_2
  refine lv_if_eq (tgt := 17) hx hb dX2_parentsOf_5 (by decide) (fun c_5 => absurd c_5 (by decide +kernel)) (fun _ => ?_)
  refine lv_aload_n hx hb dX2_parentsOf_8 rfl (lv_at hl 0 rfl) ?_
  refine va_get (D := (dC, dI)) (ci := 2) (v := .ref dp) (C := RX2) (T := TX2) (N := 3) hx hb hts hiX2 hown hK hP 0 rfl rfl 0 (by decide) (hts (.fieldLink RX2 9 "MadeItSo$Drawing" "parents" "[I") (by decide +kernel)) (fun _ h9 => h9) rfl dX2_parentsOf_9 ?_
  refine lv_iload_n hx hb dX2_parentsOf_12 rfl (lv_at hl 1 rfl) ?_
  refine va_iald hx hb hK hP 1 0 rfl rfl (vp_in_nI (by omega) (by omega)) dX2_parentsOf_13 ?_
  refine mz_ti (y := (fp j)) (by rw [mz_cl (by omega)]) ?_
  refine lv_goto (tgt := 18) hx hb dX2_parentsOf_14 (by decide) ?_
  refine W.widen (k := 0) (n := 0) (Nat.le_of_ble_eq_true rfl) (Nat.le_of_ble_eq_true rfl) ?_
  exact W.iret (v := (fp j)) hx hb hr (fun t ht hW => ⟨⟨(fp j), (), rfl, rfl, ht⟩, hS.F ht⟩) hS.2.2 dX2_parentsOf_18
set_option maxHeartbeats 1000000 in
set_option maxRecDepth 100000 in
theorem mz_e_joinedTo (l : Launch) (dC : Nat → ClassId) (dI : Nat → Nat → Nat) (cI cJ cZ : ClassId) (dr : Nat) (dp : Nat) (dc : Nat) (n : Nat) (fp : Nat → Int32) (fc : Nat → Int32) (j : Nat) (Hq : Heap) (hn : n ≤ 8) (hj : j < n) : Met l yX2_joinedTo wsX2_joinedTo ({ frames := 1, cells := 0, slots := 0, locals := 21 }) (va_Pc [.ref dr, .int (nI j)] (fun U => U.heap = Hq ∧ va_P (dC, dI) vwCl [(dr, .inr (2, [.ref dp, .ref dc, .int (nI n)])), (dp, .inl (cI, 8, .inl fp)), (dc, .inl (cI, 8, .inl fc))] Hq ∧ va_K (dC, dI) vwCl [(cI, FieldType.int), (cJ, FieldType.long), (cZ, FieldType.boolean)] U ∧ mz_N U)) (va_Qi (fun (r : Int32) (_ : Unit) => r = ((fp j) ||| (fc j))) (fun _ t => t.heap = Hq) (fun _ : Nat => False)) 0 0 (fun _ : Nat => False) := by
  refine Met.ofW (cc := cX2_joinedTo) (maxL := 2) (ret := (some .int)) (by decide) rfl ?_
  intro p e s m args below meth c s₁ B hml hv
  obtain ⟨rfl, hH, hP, hK, hN⟩ := hv
  subst hH
  have hx := B.exec
  have hb := B.bytes
  have hr := B.returns
  have hts := atoms_spec (ws := wsX2_joinedTo) B.pre
  have hown : s.vm.findClass RX2 = some m.cls := findClass_of_methodNamed B.named
  have hlocks := B.notSynchronized
  have hS : va_S (fun _ : Nat => False) s.heap s.heap [] := va_S.rf
  have hiX2 : ∀ w ∈ u_ws RX2 TX2 3, w ∈ wsX2_joinedTo := by decide +kernel
  have hl := lv_entry ([.ref dr, .int (nI j)]) (n := 2) (Nat.le_of_ble_eq_true rfl)
  rw [lg_entry_eq]
  generalize (lg_sl ([.ref dr, .int (nI j)]) ++ List.replicate (2 - (lg_sl ([.ref dr, .int (nI j)])).length) Slot.unset).toArray = ls at hl ⊢
  have hl : lv_has ls 2 [(0, .ref dr), (1, .int (nI j))] := hl
  refine lv_aload_n hx hb dX2_joinedTo_0 rfl (lv_at hl 0 rfl) ?_
  refine lv_iload_n hx hb dX2_joinedTo_1 rfl (lv_at hl 1 rfl) ?_
  have hPc := hP.sub (ws' := [(dr, .inr (2, [.ref dp, .ref dc, .int (nI n)]))]) [0] rfl
  refine va_calli (va_runV (As := [.int (nI j)]) (rest := []) ⟨hx, hb, hml, hown, hts⟩ (mz_d_has_in l dC dI cI cJ cZ dr dp dc n j s.heap (by first | assumption | omega) (by first | assumption | omega)) (cwV 1 hts gX2_joinedTo_X2_has rfl rfl rfl (by decide +kernel) ⟨Nat.le_of_ble_eq_true rfl, Nat.le_of_ble_eq_true rfl⟩) ⟨fun a U g mk q => mz_blP q, va_recv hK hPc (ci := 2) (q0 := 0) rfl rfl, fun U hU hW => ⟨rfl, hU, hPc, va_K.moved hW.alike hK, mz_nw hW hN⟩⟩ rfl rfl hl.1 rfl (lv_room (Nat.le_of_ble_eq_true rfl)) dX2_joinedTo_2 ⟨Nat.le_of_ble_eq_true rfl, Nat.le_of_ble_eq_true rfl⟩) hS (fun q _ h => h.elim) (fun q h => h.elim) (fun r_2 u t H1 locs ht hvm hw_2 hB hz1 hk1 hS => ?_)
  have hE : s.heap = H1 := hB.symm.trans ht
  subst hE
  obtain rfl : r_2 = 1 := hw_2
  refine lv_if_eq (tgt := 24) hx hb dX2_joinedTo_5 (by decide) (fun c_5 => absurd c_5 (by decide +kernel)) (fun _ => ?_)
  refine lv_aload_n hx hb dX2_joinedTo_8 rfl (lv_at hl 0 rfl) ?_
  refine va_get (D := (dC, dI)) (ci := 2) (v := .ref dp) (C := RX2) (T := TX2) (N := 3) hx hb hts hiX2 hown hK hP 0 rfl rfl 0 (by decide) (hts (.fieldLink RX2 9 "MadeItSo$Drawing" "parents" "[I") (by decide +kernel)) (fun _ h9 => h9) rfl dX2_joinedTo_9 ?_
  refine lv_iload_n hx hb dX2_joinedTo_12 rfl (lv_at hl 1 rfl) ?_
  refine va_iald hx hb hK hP 1 0 rfl rfl (vp_in_nI (by omega) (by omega)) dX2_joinedTo_13 ?_
  refine mz_ti (y := (fp j)) (by rw [mz_cl (by omega)]) ?_
  refine lv_aload_n hx hb dX2_joinedTo_14 rfl (lv_at hl 0 rfl) ?_
  refine va_get (D := (dC, dI)) (ci := 2) (v := .ref dc) (C := RX2) (T := TX2) (N := 3) hx hb hts hiX2 hown hK hP 0 rfl rfl 1 (by decide) (hts (.fieldLink RX2 15 "MadeItSo$Drawing" "children" "[I") (by decide +kernel)) (fun _ h9 => h9) rfl dX2_joinedTo_15 ?_
  refine lv_iload_n hx hb dX2_joinedTo_18 rfl (lv_at hl 1 rfl) ?_
  refine va_iald hx hb hK hP 2 0 rfl rfl (vp_in_nI (by omega) (by omega)) dX2_joinedTo_19 ?_
  refine mz_ti (y := (fc j)) (by rw [mz_cl (by omega)]) ?_
  refine lv_ior hx hb dX2_joinedTo_20 ?_
  refine lv_goto (tgt := 25) hx hb dX2_joinedTo_21 (by decide) ?_
  refine W.widen (k := 0) (n := 0) (Nat.le_of_ble_eq_true rfl) (Nat.le_of_ble_eq_true rfl) ?_
  exact W.iret (v := ((fp j) ||| (fc j))) hx hb hr (fun t ht hW => ⟨⟨((fp j) ||| (fc j)), (), rfl, rfl, ht⟩, hS.F ht⟩) hS.2.2 dX2_joinedTo_25
set_option maxHeartbeats 1000000 in
set_option maxRecDepth 100000 in
theorem mz_e_withAllBelow (l : Launch) (dC : Nat → ClassId) (dI : Nat → Nat → Nat) (cI cJ cZ : ClassId) (dr : Nat) (dp : Nat) (dc : Nat) (n : Nat) (fc : Nat → Int32) (p0 : Int32) (Hq : Heap) (hf8 : ∀ k, k < 8 → ∀ j, j < 32 → mz_t (fc k) j = true → j < 8) : Met l yX2_withAllBelow wsX2_withAllBelow ({ frames := 3, cells := 0, slots := 0, locals := 69 }) (va_Pc [.ref dr, .int p0] (fun U => U.heap = Hq ∧ va_P (dC, dI) vwCl [(dr, .inr (2, [.ref dp, .ref dc, .int (nI n)])), (dc, .inl (cI, 8, .inl fc))] Hq ∧ va_K (dC, dI) vwCl [(cI, FieldType.int), (cJ, FieldType.long), (cZ, FieldType.boolean)] U ∧ mz_N U)) (va_Qi (fun (r : Int32) (_ : Unit) => mz_lst fc p0 r) (fun _ t => t.heap = Hq) (fun _ : Nat => False)) 0 0 (fun _ : Nat => False) := by
  refine Met.ofW (cc := cX2_withAllBelow) (maxL := 2) (ret := (some .int)) (by decide) rfl ?_
  intro p e s m args below meth c s₁ B hml hv
  obtain ⟨rfl, hH, hP, hK, hN⟩ := hv
  subst hH
  have hx := B.exec
  have hb := B.bytes
  have hr := B.returns
  have hts := atoms_spec (ws := wsX2_withAllBelow) B.pre
  have hown : s.vm.findClass RX2 = some m.cls := findClass_of_methodNamed B.named
  have hlocks := B.notSynchronized
  have hS : va_S (fun _ : Nat => False) s.heap s.heap [] := va_S.rf
  have hiX2 : ∀ w ∈ u_ws RX2 TX2 3, w ∈ wsX2_withAllBelow := by decide +kernel
  have hl := lv_entry ([.ref dr, .int p0]) (n := 2) (Nat.le_of_ble_eq_true rfl)
  rw [lg_entry_eq]
  generalize (lg_sl ([.ref dr, .int p0]) ++ List.replicate (2 - (lg_sl ([.ref dr, .int p0])).length) Slot.unset).toArray = ls at hl ⊢
  have hl : lv_has ls 2 [(0, .ref dr), (1, .int p0)] := hl
  refine lv_aload_n hx hb dX2_withAllBelow_0 rfl (lv_at hl 0 rfl) ?_
  refine lv_iload_n hx hb dX2_withAllBelow_1 rfl (lv_at hl 1 rfl) ?_
  refine lv_aload_n hx hb dX2_withAllBelow_2 rfl (lv_at hl 0 rfl) ?_
  refine va_get (D := (dC, dI)) (ci := 2) (v := .ref dc) (C := RX2) (T := TX2) (N := 3) hx hb hts hiX2 hown hK hP 0 rfl rfl 1 (by decide) (hts (.fieldLink RX2 15 "MadeItSo$Drawing" "children" "[I") (by decide +kernel)) (fun _ h9 => h9) rfl dX2_withAllBelow_3 ?_
  have hPc := hP.sub (ws' := [(dr, .inr (2, [.ref dp, .ref dc, .int (nI n)])), (dc, .inl (cI, 8, .inl fc))]) [0, 1] rfl
  refine va_calli (va_runV (As := [.int p0, .ref dc]) (rest := []) ⟨hx, hb, hml, hown, hts⟩ (mz_e_spread_c l dC dI cI cJ cZ dr dp dc n fc p0 s.heap (by first | assumption | omega)) (cwV 2 hts gX2_withAllBelow_X2_spread rfl rfl rfl (by decide +kernel) ⟨Nat.le_of_ble_eq_true rfl, Nat.le_of_ble_eq_true rfl⟩) ⟨fun a U g mk q => mz_blP q, va_recv hK hPc (ci := 2) (q0 := 0) rfl rfl, fun U hU hW => ⟨rfl, hU, hPc, va_K.moved hW.alike hK, mz_nw hW hN⟩⟩ rfl rfl hl.1 rfl (lv_room (Nat.le_of_ble_eq_true rfl)) dX2_withAllBelow_6 ⟨Nat.le_of_ble_eq_true rfl, Nat.le_of_ble_eq_true rfl⟩) hS (fun q _ h => h.elim) (fun q h => h.elim) (fun r_6 u t H1 locs ht hvm hw_6 hB hz1 hk1 hS => ?_)
  have hE : s.heap = H1 := hB.symm.trans ht
  subst hE
  refine W.widen (k := 0) (n := 0) (Nat.le_of_ble_eq_true rfl) (Nat.le_of_ble_eq_true rfl) ?_
  exact W.iret (v := r_6) hx hb hr (fun t ht hW => ⟨⟨r_6, (), rfl, hw_6, ht⟩, hS.F ht⟩) hS.2.2 dX2_withAllBelow_9
set_option maxHeartbeats 1000000 in
set_option maxRecDepth 100000 in
theorem mz_e_allBelow (l : Launch) (dC : Nat → ClassId) (dI : Nat → Nat → Nat) (cI cJ cZ : ClassId) (dr : Nat) (dp : Nat) (dc : Nat) (n : Nat) (fc : Nat → Int32) (j : Nat) (Hq : Heap) (hn : n ≤ 8) (hj : j < n) (hf8 : ∀ k, k < 8 → ∀ j, j < 32 → mz_t (fc k) j = true → j < 8) : Met l yX2_allBelow wsX2_allBelow ({ frames := 4, cells := 0, slots := 0, locals := 90 }) (va_Pc [.ref dr, .int (nI j)] (fun U => U.heap = Hq ∧ va_P (dC, dI) vwCl [(dr, .inr (2, [.ref dp, .ref dc, .int (nI n)])), (dc, .inl (cI, 8, .inl fc))] Hq ∧ va_K (dC, dI) vwCl [(cI, FieldType.int), (cJ, FieldType.long), (cZ, FieldType.boolean)] U ∧ mz_N U)) (va_Qi (fun (r : Int32) (_ : Unit) => mz_lst fc (fc j) r) (fun _ t => t.heap = Hq) (fun _ : Nat => False)) 0 0 (fun _ : Nat => False) := by
  refine Met.ofW (cc := cX2_allBelow) (maxL := 2) (ret := (some .int)) (by decide) rfl ?_
  intro p e s m args below meth c s₁ B hml hv
  obtain ⟨rfl, hH, hP, hK, hN⟩ := hv
  subst hH
  have hx := B.exec
  have hb := B.bytes
  have hr := B.returns
  have hts := atoms_spec (ws := wsX2_allBelow) B.pre
  have hown : s.vm.findClass RX2 = some m.cls := findClass_of_methodNamed B.named
  have hlocks := B.notSynchronized
  have hS : va_S (fun _ : Nat => False) s.heap s.heap [] := va_S.rf
  have hl := lv_entry ([.ref dr, .int (nI j)]) (n := 2) (Nat.le_of_ble_eq_true rfl)
  rw [lg_entry_eq]
  generalize (lg_sl ([.ref dr, .int (nI j)]) ++ List.replicate (2 - (lg_sl ([.ref dr, .int (nI j)])).length) Slot.unset).toArray = ls at hl ⊢
  have hl : lv_has ls 2 [(0, .ref dr), (1, .int (nI j))] := hl
  refine lv_aload_n hx hb dX2_allBelow_0 rfl (lv_at hl 0 rfl) ?_
  refine lv_aload_n hx hb dX2_allBelow_1 rfl (lv_at hl 0 rfl) ?_
  refine lv_iload_n hx hb dX2_allBelow_2 rfl (lv_at hl 1 rfl) ?_
  have hPc := hP.sub (ws' := [(dr, .inr (2, [.ref dp, .ref dc, .int (nI n)])), (dc, .inl (cI, 8, .inl fc))]) [0, 1] rfl
  refine va_calli (va_runV (As := [.int (nI j)]) (rest := [.ref dr]) ⟨hx, hb, hml, hown, hts⟩ (mz_e_childrenOf l dC dI cI cJ cZ dr dp dc n fc j s.heap (by first | assumption | omega) (by first | assumption | omega)) (cwV 1 hts gX2_allBelow_X2_childrenOf rfl rfl rfl (by decide +kernel) ⟨Nat.le_of_ble_eq_true rfl, Nat.le_of_ble_eq_true rfl⟩) ⟨fun a U g mk q => mz_blP q, va_recv hK hPc (ci := 2) (q0 := 0) rfl rfl, fun U hU hW => ⟨rfl, hU, hPc, va_K.moved hW.alike hK, mz_nw hW hN⟩⟩ rfl rfl hl.1 rfl (lv_room (Nat.le_of_ble_eq_true rfl)) dX2_allBelow_3 ⟨Nat.le_of_ble_eq_true rfl, Nat.le_of_ble_eq_true rfl⟩) hS (fun q _ h => h.elim) (fun q h => h.elim) (fun r_3 u t H1 locs ht hvm hw_3 hB hz1 hk1 hS => ?_)
  have hE : s.heap = H1 := hB.symm.trans ht
  subst hE
  obtain rfl : r_3 = (fc j) := hw_3
  have hPc := hP.sub (ws' := [(dr, .inr (2, [.ref dp, .ref dc, .int (nI n)])), (dc, .inl (cI, 8, .inl fc))]) [0, 1] rfl
  refine va_calli (va_runV (As := [.int (fc j)]) (rest := []) ⟨hx, hb, hml, hown, hts⟩ (mz_e_withAllBelow l dC dI cI cJ cZ dr dp dc n fc (fc j) s.heap (by first | assumption | omega)) (cwV 1 hts gX2_allBelow_X2_withAllBelow rfl rfl rfl (by decide +kernel) ⟨Nat.le_of_ble_eq_true rfl, Nat.le_of_ble_eq_true rfl⟩) ⟨fun a U g mk q => mz_blP q, va_recv hK hPc (ci := 2) (q0 := 0) rfl rfl, fun U hU hW => ⟨rfl, hU, hPc, va_K.moved hW.alike hK, mz_nw hW hN⟩⟩ rfl rfl hl.1 rfl (lv_room (Nat.le_of_ble_eq_true rfl)) dX2_allBelow_6 ⟨Nat.le_of_ble_eq_true rfl, Nat.le_of_ble_eq_true rfl⟩) hS (fun q _ h => h.elim) (fun q h => h.elim) (fun r_6 u t H1 locs ht hvm hw_6 hB hz1 hk1 hS => ?_)
  have hE : s.heap = H1 := hB.symm.trans ht
  subst hE
  refine W.widen (k := 0) (n := 0) (Nat.le_of_ble_eq_true rfl) (Nat.le_of_ble_eq_true rfl) ?_
  exact W.iret (v := r_6) hx hb hr (fun t ht hW => ⟨⟨r_6, (), rfl, hw_6, ht⟩, hS.F ht⟩) hS.2.2 dX2_allBelow_9
set_option maxHeartbeats 1000000 in
set_option maxRecDepth 100000 in
theorem mz_e_canJoin (l : Launch) (dC : Nat → ClassId) (dI : Nat → Nat → Nat) (cI cJ cZ : ClassId) (dr : Nat) (dp : Nat) (dc : Nat) (n : Nat) (fp : Nat → Int32) (fc : Nat → Int32) (i : Nat) (j : Nat) (Hq : Heap) (hn : n ≤ 8) (hi : i < n) (hj : j < n) (hf8 : ∀ k, k < 8 → ∀ j, j < 32 → mz_t (fc k) j = true → j < 8) : Met l yX2_canJoin wsX2_canJoin ({ frames := 5, cells := 0, slots := 0, locals := 111 }) (va_Pc [.ref dr, .int (nI i), .int (nI j)] (fun U => U.heap = Hq ∧ va_P (dC, dI) vwCl [(dr, .inr (2, [.ref dp, .ref dc, .int (nI n)])), (dp, .inl (cI, 8, .inl fp)), (dc, .inl (cI, 8, .inl fc))] Hq ∧ va_K (dC, dI) vwCl [(cI, FieldType.int), (cJ, FieldType.long), (cZ, FieldType.boolean)] U ∧ mz_N U)) (va_Qi (fun (r : Int32) (_ : Unit) => (r = 1 ∧ (¬ i = j ∧ mz_t ((fp i) ||| (fc i)) j = false ∧ ∃ S, mz_lst fc (fc j) S ∧ mz_t S i = false)) ∨ (r = 0 ∧ (i = j ∨ mz_t ((fp i) ||| (fc i)) j = true ∨ ∃ S, mz_lst fc (fc j) S ∧ mz_t S i = true))) (fun _ t => t.heap = Hq) (fun _ : Nat => False)) 0 0 (fun _ : Nat => False) := by
  refine Met.ofW (cc := cX2_canJoin) (maxL := 3) (ret := (some .boolean)) (by decide) rfl ?_
  intro p e s m args below meth c s₁ B hml hv
  obtain ⟨rfl, hH, hP, hK, hN⟩ := hv
  subst hH
  have hx := B.exec
  have hb := B.bytes
  have hr := B.returns
  have hts := atoms_spec (ws := wsX2_canJoin) B.pre
  have hown : s.vm.findClass RX2 = some m.cls := findClass_of_methodNamed B.named
  have hlocks := B.notSynchronized
  have hS : va_S (fun _ : Nat => False) s.heap s.heap [] := va_S.rf
  have hl := lv_entry ([.ref dr, .int (nI i), .int (nI j)]) (n := 3) (Nat.le_of_ble_eq_true rfl)
  rw [lg_entry_eq]
  generalize (lg_sl ([.ref dr, .int (nI i), .int (nI j)]) ++ List.replicate (3 - (lg_sl ([.ref dr, .int (nI i), .int (nI j)])).length) Slot.unset).toArray = ls at hl ⊢
  have hl : lv_has ls 3 [(0, .ref dr), (1, .int (nI i)), (2, .int (nI j))] := hl
  refine lv_iload_n hx hb dX2_canJoin_0 rfl (lv_at hl 1 rfl) ?_
  refine lv_iload_n hx hb dX2_canJoin_1 rfl (lv_at hl 2 rfl) ?_
  refine lv_icmp_eq (tgt := 33) hx hb dX2_canJoin_2 (by decide) (fun c_2 => ?_) (fun c_2 => ?_)
  · skip
    have d_2 : i = j := (nI_eq (a := i) (b := j) (by omega) (by omega)).mp c_2
    refine lv_iconst (v := 0) hx hb dX2_canJoin_33 (by decide +kernel) ?_
    refine W.widen (k := 0) (n := 0) (Nat.le_of_ble_eq_true rfl) (Nat.le_of_ble_eq_true rfl) ?_
    exact W.zret (v := 0) hx hb hr (mz_nz (by decide +kernel)) (fun t ht hW => ⟨⟨0, (), rfl, Or.inr ⟨rfl, Or.inl d_2⟩, ht⟩, hS.F ht⟩) hS.2.2 dX2_canJoin_34
  · skip
    have d_2 : ¬ i = j := fun h => c_2 ((nI_eq (a := i) (b := j) (by omega) (by omega)).mpr h)
    refine lv_aload_n hx hb dX2_canJoin_5 rfl (lv_at hl 0 rfl) ?_
    refine lv_iload_n hx hb dX2_canJoin_6 rfl (lv_at hl 1 rfl) ?_
    have hPc := hP.sub (ws' := [(dr, .inr (2, [.ref dp, .ref dc, .int (nI n)])), (dp, .inl (cI, 8, .inl fp)), (dc, .inl (cI, 8, .inl fc))]) [0, 1, 2] rfl
    refine va_calli (va_runV (As := [.int (nI i)]) (rest := []) ⟨hx, hb, hml, hown, hts⟩ (mz_e_joinedTo l dC dI cI cJ cZ dr dp dc n fp fc i s.heap (by first | assumption | omega) (by first | assumption | omega)) (cwV 1 hts gX2_canJoin_X2_joinedTo rfl rfl rfl (by decide +kernel) ⟨Nat.le_of_ble_eq_true rfl, Nat.le_of_ble_eq_true rfl⟩) ⟨fun a U g mk q => mz_blP q, va_recv hK hPc (ci := 2) (q0 := 0) rfl rfl, fun U hU hW => ⟨rfl, hU, hPc, va_K.moved hW.alike hK, mz_nw hW hN⟩⟩ rfl rfl hl.1 rfl (lv_room (Nat.le_of_ble_eq_true rfl)) dX2_canJoin_7 ⟨Nat.le_of_ble_eq_true rfl, Nat.le_of_ble_eq_true rfl⟩) hS (fun q _ h => h.elim) (fun q h => h.elim) (fun r_7 u t H1 locs ht hvm hw_7 hB hz1 hk1 hS => ?_)
    have hE : s.heap = H1 := hB.symm.trans ht
    subst hE
    obtain rfl : r_7 = ((fp i) ||| (fc i)) := hw_7
    refine lv_iload_n hx hb dX2_canJoin_10 rfl (lv_at hl 2 rfl) ?_
    have hPc := hP.sub (ws' := []) [] rfl
    refine va_calli (va_runSN (As := [.int ((fp i) ||| (fc i)), .int (nI j)]) (rest := []) ⟨hx, hb, hml, hown, hts⟩ (mz_e_inHeap l dC dI cI cJ cZ ((fp i) ||| (fc i)) j s.heap (by first | assumption | omega)) ⟨va_cnB (host := "MadeItSo") 2 hts gX2_canJoin_X7_inHeap_n26 rfl rfl rfl (hN (RX2, 26, yX7_inHeap, "MadeItSo") (by decide +kernel)) (hts (.initialized RX7) (by decide +kernel)) (by decide +kernel) ⟨Nat.le_of_ble_eq_true rfl, Nat.le_of_ble_eq_true rfl⟩, hts (.static yX7_inHeap) (by decide +kernel), trivial⟩ ⟨fun a U g mk q => mz_blP q, fun U hU hW => ⟨rfl, hU, hPc, va_K.moved hW.alike hK, mz_nw hW hN⟩⟩ rfl rfl hl.1 rfl (lv_room (Nat.le_of_ble_eq_true rfl)) dX2_canJoin_11 ⟨Nat.le_of_ble_eq_true rfl, Nat.le_of_ble_eq_true rfl⟩) hS (fun q _ h => h.elim) (fun q h => h.elim) (fun r_11 u t H1 locs ht hvm hw_11 hB hz1 hk1 hS => ?_)
    have hE : s.heap = H1 := hB.symm.trans ht
    subst hE
    rcases (show (r_11 = 1 ∧ mz_t ((fp i) ||| (fc i)) j = true) ∨ (r_11 = 0 ∧ mz_t ((fp i) ||| (fc i)) j = false) from hw_11) with ⟨rfl, ht_11⟩ | ⟨rfl, ht_11⟩
    · skip
      refine lv_if_ne (tgt := 33) hx hb dX2_canJoin_14 (by decide) (fun _ => ?_) (fun c_14 => absurd c_14 (by decide +kernel))
      refine lv_iconst (v := 0) hx hb dX2_canJoin_33 (by decide +kernel) ?_
      refine W.widen (k := 0) (n := 0) (Nat.le_of_ble_eq_true rfl) (Nat.le_of_ble_eq_true rfl) ?_
      exact W.zret (v := 0) hx hb hr (mz_nz (by decide +kernel)) (fun t ht hW => ⟨⟨0, (), rfl, Or.inr ⟨rfl, Or.inr (Or.inl ht_11)⟩, ht⟩, hS.F ht⟩) hS.2.2 dX2_canJoin_34
    · skip
      refine lv_if_ne (tgt := 33) hx hb dX2_canJoin_14 (by decide) (fun c_14 => absurd (by decide +kernel) c_14) (fun _ => ?_)
      refine lv_aload_n hx hb dX2_canJoin_17 rfl (lv_at hl 0 rfl) ?_
      refine lv_iload_n hx hb dX2_canJoin_18 rfl (lv_at hl 2 rfl) ?_
      have hPc := hP.sub (ws' := [(dr, .inr (2, [.ref dp, .ref dc, .int (nI n)])), (dc, .inl (cI, 8, .inl fc))]) [0, 2] rfl
      refine va_calli (va_runV (As := [.int (nI j)]) (rest := []) ⟨hx, hb, hml, hown, hts⟩ (mz_e_allBelow l dC dI cI cJ cZ dr dp dc n fc j s.heap (by first | assumption | omega) (by first | assumption | omega) (by first | assumption | omega)) (cwV 1 hts gX2_canJoin_X2_allBelow rfl rfl rfl (by decide +kernel) ⟨Nat.le_of_ble_eq_true rfl, Nat.le_of_ble_eq_true rfl⟩) ⟨fun a U g mk q => mz_blP q, va_recv hK hPc (ci := 2) (q0 := 0) rfl rfl, fun U hU hW => ⟨rfl, hU, hPc, va_K.moved hW.alike hK, mz_nw hW hN⟩⟩ rfl rfl hl.1 rfl (lv_room (Nat.le_of_ble_eq_true rfl)) dX2_canJoin_19 ⟨Nat.le_of_ble_eq_true rfl, Nat.le_of_ble_eq_true rfl⟩) hS (fun q _ h => h.elim) (fun q h => h.elim) (fun r_19 u t H1 locs ht hvm hw_19 hB hz1 hk1 hS => ?_)
      have hE : s.heap = H1 := hB.symm.trans ht
      subst hE
      refine lv_iload_n hx hb dX2_canJoin_22 rfl (lv_at hl 1 rfl) ?_
      have hPc := hP.sub (ws' := []) [] rfl
      refine va_calli (va_runSN (As := [.int r_19, .int (nI i)]) (rest := []) ⟨hx, hb, hml, hown, hts⟩ (mz_e_inHeap l dC dI cI cJ cZ r_19 i s.heap (by first | assumption | omega)) ⟨va_cnB (host := "MadeItSo") 2 hts gX2_canJoin_X7_inHeap_n26 rfl rfl rfl (hN (RX2, 26, yX7_inHeap, "MadeItSo") (by decide +kernel)) (hts (.initialized RX7) (by decide +kernel)) (by decide +kernel) ⟨Nat.le_of_ble_eq_true rfl, Nat.le_of_ble_eq_true rfl⟩, hts (.static yX7_inHeap) (by decide +kernel), trivial⟩ ⟨fun a U g mk q => mz_blP q, fun U hU hW => ⟨rfl, hU, hPc, va_K.moved hW.alike hK, mz_nw hW hN⟩⟩ rfl rfl hl.1 rfl (lv_room (Nat.le_of_ble_eq_true rfl)) dX2_canJoin_23 ⟨Nat.le_of_ble_eq_true rfl, Nat.le_of_ble_eq_true rfl⟩) hS (fun q _ h => h.elim) (fun q h => h.elim) (fun r_23 u t H1 locs ht hvm hw_23 hB hz1 hk1 hS => ?_)
      have hE : s.heap = H1 := hB.symm.trans ht
      subst hE
      rcases (show (r_23 = 1 ∧ mz_t r_19 i = true) ∨ (r_23 = 0 ∧ mz_t r_19 i = false) from hw_23) with ⟨rfl, ht_23⟩ | ⟨rfl, ht_23⟩
      · skip
        refine lv_if_ne (tgt := 33) hx hb dX2_canJoin_26 (by decide) (fun _ => ?_) (fun c_26 => absurd c_26 (by decide +kernel))
        refine lv_iconst (v := 0) hx hb dX2_canJoin_33 (by decide +kernel) ?_
        refine W.widen (k := 0) (n := 0) (Nat.le_of_ble_eq_true rfl) (Nat.le_of_ble_eq_true rfl) ?_
        exact W.zret (v := 0) hx hb hr (mz_nz (by decide +kernel)) (fun t ht hW => ⟨⟨0, (), rfl, Or.inr ⟨rfl, Or.inr (Or.inr ⟨_, hw_19, ht_23⟩)⟩, ht⟩, hS.F ht⟩) hS.2.2 dX2_canJoin_34
      · skip
        refine lv_if_ne (tgt := 33) hx hb dX2_canJoin_26 (by decide) (fun c_26 => absurd (by decide +kernel) c_26) (fun _ => ?_)
        refine lv_iconst (v := 1) hx hb dX2_canJoin_29 (by decide +kernel) ?_
        refine lv_goto (tgt := 34) hx hb dX2_canJoin_30 (by decide) ?_
        refine W.widen (k := 0) (n := 0) (Nat.le_of_ble_eq_true rfl) (Nat.le_of_ble_eq_true rfl) ?_
        exact W.zret (v := 1) hx hb hr (mz_nz (by decide +kernel)) (fun t ht hW => ⟨⟨1, (), rfl, Or.inl ⟨rfl, d_2, ht_11, _, hw_19, ht_23⟩, ht⟩, hS.F ht⟩) hS.2.2 dX2_canJoin_34
set_option maxHeartbeats 1000000 in
set_option maxRecDepth 100000 in
theorem mz_e_join (l : Launch) (dC : Nat → ClassId) (dI : Nat → Nat → Nat) (cI cJ cZ : ClassId) (dr : Nat) (dp : Nat) (dc : Nat) (n : Nat) (fp : Nat → Int32) (fc : Nat → Int32) (i : Nat) (j : Nat) (sz : Nat) (hn : n ≤ 8) (hi : i < n) (hj : j < n) : Met l yX2_join wsX2_join ({ frames := 1, cells := 0, slots := 0, locals := 21 }) (va_Pc [.ref dr, .int (nI i), .int (nI j)] (fun U => U.heap.size = sz ∧ va_P (dC, dI) vwCl [(dr, .inr (2, [.ref dp, .ref dc, .int (nI n)])), (dp, .inl (cI, 8, .inl fp)), (dc, .inl (cI, 8, .inl fc))] U.heap ∧ va_K (dC, dI) vwCl [(cI, FieldType.int), (cJ, FieldType.long), (cZ, FieldType.boolean)] U ∧ va_D (fun _ => True) [(dr, .inr (2, [.ref dp, .ref dc, .int (nI n)])), (dp, .inl (cI, 8, .inl fp)), (dc, .inl (cI, 8, .inl fc))] ∧ mz_N U)) (va_Qv (fun (_ : Unit) => True) (fun _ t => ∃ (gp : Nat → Int32), ∃ (gc : Nat → Int32), (gp = upd fp j ((fp j) ||| (1 <<< ((nI i) &&& 31)))) ∧ (gc = upd fc i ((fc i) ||| (1 <<< ((nI j) &&& 31)))) ∧ va_P (dC, dI) vwCl [(dr, .inr (2, [.ref dp, .ref dc, .int (nI n)])), (dp, .inl (cI, 8, .inl gp)), (dc, .inl (cI, 8, .inl gc))] t.heap ∧ va_D (va_A [(dr, .inr (2, [.ref dp, .ref dc, .int (nI n)])), (dp, .inl (cI, 8, .inl fp)), (dc, .inl (cI, 8, .inl fc))] sz) [(dr, .inr (2, [.ref dp, .ref dc, .int (nI n)])), (dp, .inl (cI, 8, .inl gp)), (dc, .inl (cI, 8, .inl gc))]) (va_A [(dr, .inr (2, [.ref dp, .ref dc, .int (nI n)])), (dp, .inl (cI, 8, .inl fp)), (dc, .inl (cI, 8, .inl fc))] sz)) 0 0 (va_A [(dr, .inr (2, [.ref dp, .ref dc, .int (nI n)])), (dp, .inl (cI, 8, .inl fp)), (dc, .inl (cI, 8, .inl fc))] sz) := by
  refine Met.ofW (cc := cX2_join) (maxL := 3) (ret := none) (by decide) rfl ?_
  intro p e s m args below meth c s₁ B hml hv
  obtain ⟨rfl, hsz, hP, hK, hD0, hN⟩ := hv
  subst hsz
  have hx := B.exec
  have hb := B.bytes
  have hr := B.returns
  have hts := atoms_spec (ws := wsX2_join) B.pre
  have hown : s.vm.findClass RX2 = some m.cls := findClass_of_methodNamed B.named
  have hlocks := B.notSynchronized
  have hD := hD0.self (sz := s.heap.size)
  generalize hAe : va_A [(dr, .inr (2, [.ref dp, .ref dc, .int (nI n)])), (dp, .inl (cI, 8, .inl fp)), (dc, .inl (cI, 8, .inl fc))] s.heap.size = A at hD ⊢
  have hA : ∀ q : Nat, s.heap.size ≤ q → A q := fun q h => by rw [← hAe]; exact Or.inr h
  have hS : va_S A s.heap s.heap [] := va_S.rf
  have hiX2 : ∀ w ∈ u_ws RX2 TX2 3, w ∈ wsX2_join := by decide +kernel
  have hl := lv_entry ([.ref dr, .int (nI i), .int (nI j)]) (n := 3) (Nat.le_of_ble_eq_true rfl)
  rw [lg_entry_eq]
  generalize (lg_sl ([.ref dr, .int (nI i), .int (nI j)]) ++ List.replicate (3 - (lg_sl ([.ref dr, .int (nI i), .int (nI j)])).length) Slot.unset).toArray = ls at hl ⊢
  have hl : lv_has ls 3 [(0, .ref dr), (1, .int (nI i)), (2, .int (nI j))] := hl
  refine lv_aload_n hx hb dX2_join_0 rfl (lv_at hl 0 rfl) ?_
  refine lv_iload_n hx hb dX2_join_1 rfl (lv_at hl 1 rfl) ?_
  have hPc := hP.sub (ws' := [(dr, .inr (2, [.ref dp, .ref dc, .int (nI n)]))]) [0] rfl
  refine va_calli (va_runV (As := [.int (nI i)]) (rest := []) ⟨hx, hb, hml, hown, hts⟩ (mz_d_has_in l dC dI cI cJ cZ dr dp dc n i s.heap (by first | assumption | omega) (by first | assumption | omega)) (cwV 1 hts gX2_join_X2_has rfl rfl rfl (by decide +kernel) ⟨Nat.le_of_ble_eq_true rfl, Nat.le_of_ble_eq_true rfl⟩) ⟨fun a U g mk q => mz_blP q, va_recv hK hPc (ci := 2) (q0 := 0) rfl rfl, fun U hU hW => ⟨rfl, hU, hPc, va_K.moved hW.alike hK, mz_nw hW hN⟩⟩ rfl rfl hl.1 rfl (lv_room (Nat.le_of_ble_eq_true rfl)) dX2_join_2 ⟨Nat.le_of_ble_eq_true rfl, Nat.le_of_ble_eq_true rfl⟩) hS (fun q _ h => h.elim) (fun q h => h.elim) (fun r_2 u t H1 locs ht hvm hw_2 hB hz1 hk1 hS => ?_)
  have hE : s.heap = H1 := hB.symm.trans ht
  subst hE
  obtain rfl : r_2 = 1 := hw_2
  refine lv_if_eq (tgt := 42) hx hb dX2_join_5 (by decide) (fun c_5 => absurd c_5 (by decide +kernel)) (fun _ => ?_)
  refine lv_aload_n hx hb dX2_join_8 rfl (lv_at hl 0 rfl) ?_
  refine lv_iload_n hx hb dX2_join_9 rfl (lv_at hl 2 rfl) ?_
  have hPc := hP.sub (ws' := [(dr, .inr (2, [.ref dp, .ref dc, .int (nI n)]))]) [0] rfl
  refine va_calli (va_runV (As := [.int (nI j)]) (rest := []) ⟨hx, hb, hml, hown, hts⟩ (mz_d_has_in l dC dI cI cJ cZ dr dp dc n j s.heap (by first | assumption | omega) (by first | assumption | omega)) (cwV 1 hts gX2_join_X2_has rfl rfl rfl (by decide +kernel) ⟨Nat.le_of_ble_eq_true rfl, Nat.le_of_ble_eq_true rfl⟩) ⟨fun a U g mk q => mz_blP q, va_recv hK hPc (ci := 2) (q0 := 0) rfl rfl, fun U hU hW => ⟨rfl, hU, hPc, va_K.moved hW.alike hK, mz_nw hW hN⟩⟩ rfl rfl hl.1 rfl (lv_room (Nat.le_of_ble_eq_true rfl)) dX2_join_10 ⟨Nat.le_of_ble_eq_true rfl, Nat.le_of_ble_eq_true rfl⟩) hS (fun q _ h => h.elim) (fun q h => h.elim) (fun r_10 u t H1 locs ht hvm hw_10 hB hz1 hk1 hS => ?_)
  have hE : s.heap = H1 := hB.symm.trans ht
  subst hE
  obtain rfl : r_10 = 1 := hw_10
  refine lv_if_eq (tgt := 42) hx hb dX2_join_13 (by decide) (fun c_13 => absurd c_13 (by decide +kernel)) (fun _ => ?_)
  refine lv_aload_n hx hb dX2_join_16 rfl (lv_at hl 0 rfl) ?_
  refine va_get (D := (dC, dI)) (ci := 2) (v := .ref dc) (C := RX2) (T := TX2) (N := 3) hx hb hts hiX2 hown hK hP 0 rfl rfl 1 (by decide) (hts (.fieldLink RX2 15 "MadeItSo$Drawing" "children" "[I") (by decide +kernel)) (fun _ h9 => h9) rfl dX2_join_17 ?_
  refine lv_iload_n hx hb dX2_join_20 rfl (lv_at hl 1 rfl) ?_
  refine lv_dup2_11 hx hb dX2_join_21 rfl rfl ?_
  refine va_iald hx hb hK hP 2 0 rfl rfl (vp_in_nI (by omega) (by omega)) dX2_join_22 ?_
  refine mz_ti (y := (fc i)) (by rw [mz_cl (by omega)]) ?_
  refine lv_iload_n hx hb dX2_join_23 rfl (lv_at hl 2 rfl) ?_
  have hPc := hP.sub (ws' := []) [] rfl
  refine va_calli (va_runSN (As := [.int (nI j)]) (rest := [.int (fc i), .int (nI i), .ref dc]) ⟨hx, hb, hml, hown, hts⟩ (mz_g_bit l dC dI cI cJ cZ (nI j) s.heap ) ⟨va_cnB (host := "MadeItSo") 1 hts gX2_join_X7_bit_n37 rfl rfl rfl (hN (RX2, 37, yX7_bit, "MadeItSo") (by decide +kernel)) (hts (.initialized RX7) (by decide +kernel)) (by decide +kernel) ⟨Nat.le_of_ble_eq_true rfl, Nat.le_of_ble_eq_true rfl⟩, hts (.static yX7_bit) (by decide +kernel), trivial⟩ ⟨fun a U g mk q => mz_blP q, fun U hU hW => ⟨rfl, hU, hPc, va_K.moved hW.alike hK, mz_nw hW hN⟩⟩ rfl rfl hl.1 rfl (lv_room (Nat.le_of_ble_eq_true rfl)) dX2_join_24 ⟨Nat.le_of_ble_eq_true rfl, Nat.le_of_ble_eq_true rfl⟩) hS (fun q _ h => h.elim) (fun q h => h.elim) (fun r_24 u t H1 locs ht hvm hw_24 hB hz1 hk1 hS => ?_)
  have hE : s.heap = H1 := hB.symm.trans ht
  subst hE
  obtain rfl : r_24 = (1 <<< ((nI j) &&& 31)) := hw_24
  refine lv_ior hx hb dX2_join_27 ?_
  refine va_iast hx hb hK hP hD hS 2 0 rfl rfl (vp_in_nI (by omega) (by omega)) dX2_join_28 (fun H locs hP hD hS => ?_)
  rw [mz_cl (n := i) (by omega)] at hP hD
  have hP : va_P (dC, dI) vwCl [(dr, .inr (2, [.ref dp, .ref dc, .int (nI n)])), (dp, .inl (cI, 8, .inl fp)), (dc, .inl (cI, 8, .inl (upd fc i ((fc i) ||| (1 <<< ((nI j) &&& 31))))))] H := hP
  have hD : va_D A [(dr, .inr (2, [.ref dp, .ref dc, .int (nI n)])), (dp, .inl (cI, 8, .inl fp)), (dc, .inl (cI, 8, .inl (upd fc i ((fc i) ||| (1 <<< ((nI j) &&& 31))))))] := hD
  refine lv_aload_n hx hb dX2_join_29 rfl (lv_at hl 0 rfl) ?_
  refine va_get (D := (dC, dI)) (ci := 2) (v := .ref dp) (C := RX2) (T := TX2) (N := 3) hx hb hts hiX2 hown hK hP 0 rfl rfl 0 (by decide) (hts (.fieldLink RX2 9 "MadeItSo$Drawing" "parents" "[I") (by decide +kernel)) (fun _ h9 => h9) rfl dX2_join_30 ?_
  refine lv_iload_n hx hb dX2_join_33 rfl (lv_at hl 2 rfl) ?_
  refine lv_dup2_11 hx hb dX2_join_34 rfl rfl ?_
  refine va_iald hx hb hK hP 1 0 rfl rfl (vp_in_nI (by omega) (by omega)) dX2_join_35 ?_
  refine mz_ti (y := (fp j)) (by rw [mz_cl (by omega)]) ?_
  refine lv_iload_n hx hb dX2_join_36 rfl (lv_at hl 1 rfl) ?_
  have hPc := hP.sub (ws' := []) [] rfl
  refine va_calli (va_runSN (As := [.int (nI i)]) (rest := [.int (fp j), .int (nI j), .ref dp]) ⟨hx, hb, hml, hown, hts⟩ (mz_g_bit l dC dI cI cJ cZ (nI i) H ) ⟨va_cnB (host := "MadeItSo") 1 hts gX2_join_X7_bit_n37 rfl rfl rfl (hN (RX2, 37, yX7_bit, "MadeItSo") (by decide +kernel)) (hts (.initialized RX7) (by decide +kernel)) (by decide +kernel) ⟨Nat.le_of_ble_eq_true rfl, Nat.le_of_ble_eq_true rfl⟩, hts (.static yX7_bit) (by decide +kernel), trivial⟩ ⟨fun a U g mk q => mz_blP q, fun U hU hW => ⟨rfl, hU, hPc, va_K.moved hW.alike hK, mz_nw hW hN⟩⟩ rfl rfl hl.1 rfl (lv_room (Nat.le_of_ble_eq_true rfl)) dX2_join_37 ⟨Nat.le_of_ble_eq_true rfl, Nat.le_of_ble_eq_true rfl⟩) hS (fun q _ h => h.elim) (fun q h => h.elim) (fun r_37 u t H1 locs ht hvm hw_37 hB hz1 hk1 hS => ?_)
  have hE : H = H1 := hB.symm.trans ht
  subst hE
  obtain rfl : r_37 = (1 <<< ((nI i) &&& 31)) := hw_37
  refine lv_ior hx hb dX2_join_40 ?_
  refine va_iast hx hb hK hP hD hS 1 0 rfl rfl (vp_in_nI (by omega) (by omega)) dX2_join_41 (fun H locs hP hD hS => ?_)
  rw [mz_cl (n := j) (by omega)] at hP hD
  have hP : va_P (dC, dI) vwCl [(dr, .inr (2, [.ref dp, .ref dc, .int (nI n)])), (dp, .inl (cI, 8, .inl (upd fp j ((fp j) ||| (1 <<< ((nI i) &&& 31)))))), (dc, .inl (cI, 8, .inl (upd fc i ((fc i) ||| (1 <<< ((nI j) &&& 31))))))] H := hP
  have hD : va_D A [(dr, .inr (2, [.ref dp, .ref dc, .int (nI n)])), (dp, .inl (cI, 8, .inl (upd fp j ((fp j) ||| (1 <<< ((nI i) &&& 31)))))), (dc, .inl (cI, 8, .inl (upd fc i ((fc i) ||| (1 <<< ((nI j) &&& 31))))))] := hD
  have hP9 := hP.sub (ws' := [(dr, .inr (2, [.ref dp, .ref dc, .int (nI n)])), (dp, .inl (cI, 8, .inl (upd fp j ((fp j) ||| (1 <<< ((nI i) &&& 31)))))), (dc, .inl (cI, 8, .inl (upd fc i ((fc i) ||| (1 <<< ((nI j) &&& 31))))))]) [0, 1, 2] rfl
  have hD9 := hD.sub (ws' := [(dr, .inr (2, [.ref dp, .ref dc, .int (nI n)])), (dp, .inl (cI, 8, .inl (upd fp j ((fp j) ||| (1 <<< ((nI i) &&& 31)))))), (dc, .inl (cI, 8, .inl (upd fc i ((fc i) ||| (1 <<< ((nI j) &&& 31))))))]) [0, 1, 2] (by decide) rfl
  refine W.widen (k := 0) (n := 0) (Nat.le_of_ble_eq_true rfl) (Nat.le_of_ble_eq_true rfl) ?_
  exact W.vret hx hb hr (fun t ht hW => ⟨⟨(), rfl, trivial, (upd fp j ((fp j) ||| (1 <<< ((nI i) &&& 31)))), (upd fc i ((fc i) ||| (1 <<< ((nI j) &&& 31)))), rfl, rfl, by rw [ht]; exact hP9, hD9⟩, hS.F ht⟩) hS.2.2 dX2_join_42
set_option maxHeartbeats 1000000 in
set_option maxRecDepth 100000 in
theorem mz_e_part (l : Launch) (dC : Nat → ClassId) (dI : Nat → Nat → Nat) (cI cJ cZ : ClassId) (dr : Nat) (dp : Nat) (dc : Nat) (n : Nat) (fp : Nat → Int32) (fc : Nat → Int32) (i : Nat) (j : Nat) (sz : Nat) (hn : n ≤ 8) (hi : i < n) (hj : j < n) : Met l yX2_part wsX2_part ({ frames := 1, cells := 0, slots := 0, locals := 21 }) (va_Pc [.ref dr, .int (nI i), .int (nI j)] (fun U => U.heap.size = sz ∧ va_P (dC, dI) vwCl [(dr, .inr (2, [.ref dp, .ref dc, .int (nI n)])), (dp, .inl (cI, 8, .inl fp)), (dc, .inl (cI, 8, .inl fc))] U.heap ∧ va_K (dC, dI) vwCl [(cI, FieldType.int), (cJ, FieldType.long), (cZ, FieldType.boolean)] U ∧ va_D (fun _ => True) [(dr, .inr (2, [.ref dp, .ref dc, .int (nI n)])), (dp, .inl (cI, 8, .inl fp)), (dc, .inl (cI, 8, .inl fc))] ∧ mz_N U)) (va_Qv (fun (_ : Unit) => True) (fun _ t => ∃ (gp : Nat → Int32), ∃ (gc : Nat → Int32), (gp = upd fp j ((fp j) &&& ((1 <<< ((nI i) &&& 31)) ^^^ (-1)))) ∧ (gc = upd fc i ((fc i) &&& ((1 <<< ((nI j) &&& 31)) ^^^ (-1)))) ∧ va_P (dC, dI) vwCl [(dr, .inr (2, [.ref dp, .ref dc, .int (nI n)])), (dp, .inl (cI, 8, .inl gp)), (dc, .inl (cI, 8, .inl gc))] t.heap ∧ va_D (va_A [(dr, .inr (2, [.ref dp, .ref dc, .int (nI n)])), (dp, .inl (cI, 8, .inl fp)), (dc, .inl (cI, 8, .inl fc))] sz) [(dr, .inr (2, [.ref dp, .ref dc, .int (nI n)])), (dp, .inl (cI, 8, .inl gp)), (dc, .inl (cI, 8, .inl gc))]) (va_A [(dr, .inr (2, [.ref dp, .ref dc, .int (nI n)])), (dp, .inl (cI, 8, .inl fp)), (dc, .inl (cI, 8, .inl fc))] sz)) 0 0 (va_A [(dr, .inr (2, [.ref dp, .ref dc, .int (nI n)])), (dp, .inl (cI, 8, .inl fp)), (dc, .inl (cI, 8, .inl fc))] sz) := by
  refine Met.ofW (cc := cX2_part) (maxL := 3) (ret := none) (by decide) rfl ?_
  intro p e s m args below meth c s₁ B hml hv
  obtain ⟨rfl, hsz, hP, hK, hD0, hN⟩ := hv
  subst hsz
  have hx := B.exec
  have hb := B.bytes
  have hr := B.returns
  have hts := atoms_spec (ws := wsX2_part) B.pre
  have hown : s.vm.findClass RX2 = some m.cls := findClass_of_methodNamed B.named
  have hlocks := B.notSynchronized
  have hD := hD0.self (sz := s.heap.size)
  generalize hAe : va_A [(dr, .inr (2, [.ref dp, .ref dc, .int (nI n)])), (dp, .inl (cI, 8, .inl fp)), (dc, .inl (cI, 8, .inl fc))] s.heap.size = A at hD ⊢
  have hA : ∀ q : Nat, s.heap.size ≤ q → A q := fun q h => by rw [← hAe]; exact Or.inr h
  have hS : va_S A s.heap s.heap [] := va_S.rf
  have hiX2 : ∀ w ∈ u_ws RX2 TX2 3, w ∈ wsX2_part := by decide +kernel
  have hl := lv_entry ([.ref dr, .int (nI i), .int (nI j)]) (n := 3) (Nat.le_of_ble_eq_true rfl)
  rw [lg_entry_eq]
  generalize (lg_sl ([.ref dr, .int (nI i), .int (nI j)]) ++ List.replicate (3 - (lg_sl ([.ref dr, .int (nI i), .int (nI j)])).length) Slot.unset).toArray = ls at hl ⊢
  have hl : lv_has ls 3 [(0, .ref dr), (1, .int (nI i)), (2, .int (nI j))] := hl
  refine lv_aload_n hx hb dX2_part_0 rfl (lv_at hl 0 rfl) ?_
  refine lv_iload_n hx hb dX2_part_1 rfl (lv_at hl 1 rfl) ?_
  have hPc := hP.sub (ws' := [(dr, .inr (2, [.ref dp, .ref dc, .int (nI n)]))]) [0] rfl
  refine va_calli (va_runV (As := [.int (nI i)]) (rest := []) ⟨hx, hb, hml, hown, hts⟩ (mz_d_has_in l dC dI cI cJ cZ dr dp dc n i s.heap (by first | assumption | omega) (by first | assumption | omega)) (cwV 1 hts gX2_part_X2_has rfl rfl rfl (by decide +kernel) ⟨Nat.le_of_ble_eq_true rfl, Nat.le_of_ble_eq_true rfl⟩) ⟨fun a U g mk q => mz_blP q, va_recv hK hPc (ci := 2) (q0 := 0) rfl rfl, fun U hU hW => ⟨rfl, hU, hPc, va_K.moved hW.alike hK, mz_nw hW hN⟩⟩ rfl rfl hl.1 rfl (lv_room (Nat.le_of_ble_eq_true rfl)) dX2_part_2 ⟨Nat.le_of_ble_eq_true rfl, Nat.le_of_ble_eq_true rfl⟩) hS (fun q _ h => h.elim) (fun q h => h.elim) (fun r_2 u t H1 locs ht hvm hw_2 hB hz1 hk1 hS => ?_)
  have hE : s.heap = H1 := hB.symm.trans ht
  subst hE
  obtain rfl : r_2 = 1 := hw_2
  refine lv_if_eq (tgt := 46) hx hb dX2_part_5 (by decide) (fun c_5 => absurd c_5 (by decide +kernel)) (fun _ => ?_)
  refine lv_aload_n hx hb dX2_part_8 rfl (lv_at hl 0 rfl) ?_
  refine lv_iload_n hx hb dX2_part_9 rfl (lv_at hl 2 rfl) ?_
  have hPc := hP.sub (ws' := [(dr, .inr (2, [.ref dp, .ref dc, .int (nI n)]))]) [0] rfl
  refine va_calli (va_runV (As := [.int (nI j)]) (rest := []) ⟨hx, hb, hml, hown, hts⟩ (mz_d_has_in l dC dI cI cJ cZ dr dp dc n j s.heap (by first | assumption | omega) (by first | assumption | omega)) (cwV 1 hts gX2_part_X2_has rfl rfl rfl (by decide +kernel) ⟨Nat.le_of_ble_eq_true rfl, Nat.le_of_ble_eq_true rfl⟩) ⟨fun a U g mk q => mz_blP q, va_recv hK hPc (ci := 2) (q0 := 0) rfl rfl, fun U hU hW => ⟨rfl, hU, hPc, va_K.moved hW.alike hK, mz_nw hW hN⟩⟩ rfl rfl hl.1 rfl (lv_room (Nat.le_of_ble_eq_true rfl)) dX2_part_10 ⟨Nat.le_of_ble_eq_true rfl, Nat.le_of_ble_eq_true rfl⟩) hS (fun q _ h => h.elim) (fun q h => h.elim) (fun r_10 u t H1 locs ht hvm hw_10 hB hz1 hk1 hS => ?_)
  have hE : s.heap = H1 := hB.symm.trans ht
  subst hE
  obtain rfl : r_10 = 1 := hw_10
  refine lv_if_eq (tgt := 46) hx hb dX2_part_13 (by decide) (fun c_13 => absurd c_13 (by decide +kernel)) (fun _ => ?_)
  refine lv_aload_n hx hb dX2_part_16 rfl (lv_at hl 0 rfl) ?_
  refine va_get (D := (dC, dI)) (ci := 2) (v := .ref dc) (C := RX2) (T := TX2) (N := 3) hx hb hts hiX2 hown hK hP 0 rfl rfl 1 (by decide) (hts (.fieldLink RX2 15 "MadeItSo$Drawing" "children" "[I") (by decide +kernel)) (fun _ h9 => h9) rfl dX2_part_17 ?_
  refine lv_iload_n hx hb dX2_part_20 rfl (lv_at hl 1 rfl) ?_
  refine lv_dup2_11 hx hb dX2_part_21 rfl rfl ?_
  refine va_iald hx hb hK hP 2 0 rfl rfl (vp_in_nI (by omega) (by omega)) dX2_part_22 ?_
  refine mz_ti (y := (fc i)) (by rw [mz_cl (by omega)]) ?_
  refine lv_iload_n hx hb dX2_part_23 rfl (lv_at hl 2 rfl) ?_
  have hPc := hP.sub (ws' := []) [] rfl
  refine va_calli (va_runSN (As := [.int (nI j)]) (rest := [.int (fc i), .int (nI i), .ref dc]) ⟨hx, hb, hml, hown, hts⟩ (mz_g_bit l dC dI cI cJ cZ (nI j) s.heap ) ⟨va_cnB (host := "MadeItSo") 1 hts gX2_part_X7_bit_n37 rfl rfl rfl (hN (RX2, 37, yX7_bit, "MadeItSo") (by decide +kernel)) (hts (.initialized RX7) (by decide +kernel)) (by decide +kernel) ⟨Nat.le_of_ble_eq_true rfl, Nat.le_of_ble_eq_true rfl⟩, hts (.static yX7_bit) (by decide +kernel), trivial⟩ ⟨fun a U g mk q => mz_blP q, fun U hU hW => ⟨rfl, hU, hPc, va_K.moved hW.alike hK, mz_nw hW hN⟩⟩ rfl rfl hl.1 rfl (lv_room (Nat.le_of_ble_eq_true rfl)) dX2_part_24 ⟨Nat.le_of_ble_eq_true rfl, Nat.le_of_ble_eq_true rfl⟩) hS (fun q _ h => h.elim) (fun q h => h.elim) (fun r_24 u t H1 locs ht hvm hw_24 hB hz1 hk1 hS => ?_)
  have hE : s.heap = H1 := hB.symm.trans ht
  subst hE
  obtain rfl : r_24 = (1 <<< ((nI j) &&& 31)) := hw_24
  refine lv_iconst (v := (-1)) hx hb dX2_part_27 (by decide +kernel) ?_
  refine lv_ixor hx hb dX2_part_28 ?_
  refine lv_iand hx hb dX2_part_29 ?_
  refine va_iast hx hb hK hP hD hS 2 0 rfl rfl (vp_in_nI (by omega) (by omega)) dX2_part_30 (fun H locs hP hD hS => ?_)
  rw [mz_cl (n := i) (by omega)] at hP hD
  have hP : va_P (dC, dI) vwCl [(dr, .inr (2, [.ref dp, .ref dc, .int (nI n)])), (dp, .inl (cI, 8, .inl fp)), (dc, .inl (cI, 8, .inl (upd fc i ((fc i) &&& ((1 <<< ((nI j) &&& 31)) ^^^ (-1))))))] H := hP
  have hD : va_D A [(dr, .inr (2, [.ref dp, .ref dc, .int (nI n)])), (dp, .inl (cI, 8, .inl fp)), (dc, .inl (cI, 8, .inl (upd fc i ((fc i) &&& ((1 <<< ((nI j) &&& 31)) ^^^ (-1))))))] := hD
  refine lv_aload_n hx hb dX2_part_31 rfl (lv_at hl 0 rfl) ?_
  refine va_get (D := (dC, dI)) (ci := 2) (v := .ref dp) (C := RX2) (T := TX2) (N := 3) hx hb hts hiX2 hown hK hP 0 rfl rfl 0 (by decide) (hts (.fieldLink RX2 9 "MadeItSo$Drawing" "parents" "[I") (by decide +kernel)) (fun _ h9 => h9) rfl dX2_part_32 ?_
  refine lv_iload_n hx hb dX2_part_35 rfl (lv_at hl 2 rfl) ?_
  refine lv_dup2_11 hx hb dX2_part_36 rfl rfl ?_
  refine va_iald hx hb hK hP 1 0 rfl rfl (vp_in_nI (by omega) (by omega)) dX2_part_37 ?_
  refine mz_ti (y := (fp j)) (by rw [mz_cl (by omega)]) ?_
  refine lv_iload_n hx hb dX2_part_38 rfl (lv_at hl 1 rfl) ?_
  have hPc := hP.sub (ws' := []) [] rfl
  refine va_calli (va_runSN (As := [.int (nI i)]) (rest := [.int (fp j), .int (nI j), .ref dp]) ⟨hx, hb, hml, hown, hts⟩ (mz_g_bit l dC dI cI cJ cZ (nI i) H ) ⟨va_cnB (host := "MadeItSo") 1 hts gX2_part_X7_bit_n37 rfl rfl rfl (hN (RX2, 37, yX7_bit, "MadeItSo") (by decide +kernel)) (hts (.initialized RX7) (by decide +kernel)) (by decide +kernel) ⟨Nat.le_of_ble_eq_true rfl, Nat.le_of_ble_eq_true rfl⟩, hts (.static yX7_bit) (by decide +kernel), trivial⟩ ⟨fun a U g mk q => mz_blP q, fun U hU hW => ⟨rfl, hU, hPc, va_K.moved hW.alike hK, mz_nw hW hN⟩⟩ rfl rfl hl.1 rfl (lv_room (Nat.le_of_ble_eq_true rfl)) dX2_part_39 ⟨Nat.le_of_ble_eq_true rfl, Nat.le_of_ble_eq_true rfl⟩) hS (fun q _ h => h.elim) (fun q h => h.elim) (fun r_39 u t H1 locs ht hvm hw_39 hB hz1 hk1 hS => ?_)
  have hE : H = H1 := hB.symm.trans ht
  subst hE
  obtain rfl : r_39 = (1 <<< ((nI i) &&& 31)) := hw_39
  refine lv_iconst (v := (-1)) hx hb dX2_part_42 (by decide +kernel) ?_
  refine lv_ixor hx hb dX2_part_43 ?_
  refine lv_iand hx hb dX2_part_44 ?_
  refine va_iast hx hb hK hP hD hS 1 0 rfl rfl (vp_in_nI (by omega) (by omega)) dX2_part_45 (fun H locs hP hD hS => ?_)
  rw [mz_cl (n := j) (by omega)] at hP hD
  have hP : va_P (dC, dI) vwCl [(dr, .inr (2, [.ref dp, .ref dc, .int (nI n)])), (dp, .inl (cI, 8, .inl (upd fp j ((fp j) &&& ((1 <<< ((nI i) &&& 31)) ^^^ (-1)))))), (dc, .inl (cI, 8, .inl (upd fc i ((fc i) &&& ((1 <<< ((nI j) &&& 31)) ^^^ (-1))))))] H := hP
  have hD : va_D A [(dr, .inr (2, [.ref dp, .ref dc, .int (nI n)])), (dp, .inl (cI, 8, .inl (upd fp j ((fp j) &&& ((1 <<< ((nI i) &&& 31)) ^^^ (-1)))))), (dc, .inl (cI, 8, .inl (upd fc i ((fc i) &&& ((1 <<< ((nI j) &&& 31)) ^^^ (-1))))))] := hD
  have hP9 := hP.sub (ws' := [(dr, .inr (2, [.ref dp, .ref dc, .int (nI n)])), (dp, .inl (cI, 8, .inl (upd fp j ((fp j) &&& ((1 <<< ((nI i) &&& 31)) ^^^ (-1)))))), (dc, .inl (cI, 8, .inl (upd fc i ((fc i) &&& ((1 <<< ((nI j) &&& 31)) ^^^ (-1))))))]) [0, 1, 2] rfl
  have hD9 := hD.sub (ws' := [(dr, .inr (2, [.ref dp, .ref dc, .int (nI n)])), (dp, .inl (cI, 8, .inl (upd fp j ((fp j) &&& ((1 <<< ((nI i) &&& 31)) ^^^ (-1)))))), (dc, .inl (cI, 8, .inl (upd fc i ((fc i) &&& ((1 <<< ((nI j) &&& 31)) ^^^ (-1))))))]) [0, 1, 2] (by decide) rfl
  refine W.widen (k := 0) (n := 0) (Nat.le_of_ble_eq_true rfl) (Nat.le_of_ble_eq_true rfl) ?_
  exact W.vret hx hb hr (fun t ht hW => ⟨⟨(), rfl, trivial, (upd fp j ((fp j) &&& ((1 <<< ((nI i) &&& 31)) ^^^ (-1)))), (upd fc i ((fc i) &&& ((1 <<< ((nI j) &&& 31)) ^^^ (-1)))), rfl, rfl, by rw [ht]; exact hP9, hD9⟩, hS.F ht⟩) hS.2.2 dX2_part_46
set_option maxHeartbeats 1000000 in
set_option maxRecDepth 100000 in
theorem mz_e_blank (l : Launch) (dC : Nat → ClassId) (dI : Nat → Nat → Nat) (cI cJ cZ : ClassId) (bk : Nat) (bp : Nat) (fb : Nat → Int32) (j : Nat) (sz : Nat) (hj : j < 8) : Met l yX1_blank wsX1_blank ({ frames := 0, cells := 0, slots := 0, locals := 0 }) (va_Pc [.ref bk, .int (nI j)] (fun U => U.heap.size = sz ∧ va_P (dC, dI) vwCl [(bk, .inr (1, [.ref bp])), (bp, .inl (cI, 1024, .inl fb))] U.heap ∧ va_K (dC, dI) vwCl [(cI, FieldType.int), (cJ, FieldType.long), (cZ, FieldType.boolean)] U ∧ va_D (fun _ => True) [(bk, .inr (1, [.ref bp])), (bp, .inl (cI, 1024, .inl fb))] ∧ mz_N U)) (va_Qv (fun (_ : Unit) => True) (fun _ t => ∃ (gb : Nat → Int32), (mz_bkp fb gb j 128) ∧ va_P (dC, dI) vwCl [(bk, .inr (1, [.ref bp])), (bp, .inl (cI, 1024, .inl gb))] t.heap ∧ va_D (va_A [(bk, .inr (1, [.ref bp])), (bp, .inl (cI, 1024, .inl fb))] sz) [(bk, .inr (1, [.ref bp])), (bp, .inl (cI, 1024, .inl gb))]) (va_A [(bk, .inr (1, [.ref bp])), (bp, .inl (cI, 1024, .inl fb))] sz)) 0 0 (va_A [(bk, .inr (1, [.ref bp])), (bp, .inl (cI, 1024, .inl fb))] sz) := by
  refine Met.ofW (cc := cX1_blank) (maxL := 3) (ret := none) (by decide) rfl ?_
  intro p e s m args below meth c s₁ B hml hv
  obtain ⟨rfl, hsz, hP, hK, hD0, hN⟩ := hv
  subst hsz
  have hx := B.exec
  have hb := B.bytes
  have hr := B.returns
  have hts := atoms_spec (ws := wsX1_blank) B.pre
  have hown : s.vm.findClass RX1 = some m.cls := findClass_of_methodNamed B.named
  have hlocks := B.notSynchronized
  have hD := hD0.self (sz := s.heap.size)
  generalize hAe : va_A [(bk, .inr (1, [.ref bp])), (bp, .inl (cI, 1024, .inl fb))] s.heap.size = A at hD ⊢
  have hA : ∀ q : Nat, s.heap.size ≤ q → A q := fun q h => by rw [← hAe]; exact Or.inr h
  have hS : va_S A s.heap s.heap [] := va_S.rf
  have hiX1 : ∀ w ∈ u_ws RX1 TX1 1, w ∈ wsX1_blank := by decide +kernel
  have hl := lv_entry ([.ref bk, .int (nI j)]) (n := 3) (Nat.le_of_ble_eq_true rfl)
  rw [lg_entry_eq]
  generalize (lg_sl ([.ref bk, .int (nI j)]) ++ List.replicate (3 - (lg_sl ([.ref bk, .int (nI j)])).length) Slot.unset).toArray = ls at hl ⊢
  have hl : lv_has ls 3 [(0, .ref bk), (1, .int (nI j))] := hl
  refine lv_iload_n hx hb dX1_blank_0 rfl (lv_at hl 1 rfl) ?_
  refine lv_if_lt (tgt := 39) hx hb dX1_blank_1 (by decide) (fun c_1 => ?_) (fun c_1 => ?_)
  · skip
    have d_1 : j < 0 := (nI_ltI (a := j) (b := 0) (by omega) (by omega)).mp c_1
    have hP9 := hP.sub (ws' := [(bk, .inr (1, [.ref bp])), (bp, .inl (cI, 1024, .inl fb))]) [0, 1] rfl
    have hD9 := hD.sub (ws' := [(bk, .inr (1, [.ref bp])), (bp, .inl (cI, 1024, .inl fb))]) [0, 1] (by decide) rfl
    refine W.widen (k := 0) (n := 0) (Nat.le_of_ble_eq_true rfl) (Nat.le_of_ble_eq_true rfl) ?_
    exact W.vret hx hb hr (fun t ht hW => ⟨⟨(), rfl, trivial, fb, (by first | (exfalso; omega) | (obtain rfl : i_12 = 128 := (by omega); exact hb_12)), by rw [ht]; exact hP9, hD9⟩, hS.F ht⟩) hS.2.2 dX1_blank_39
  · skip
    have d_1 : ¬ j < 0 := fun h => c_1 ((nI_ltI (a := j) (b := 0) (by omega) (by omega)).mpr h)
    refine lv_iload_n hx hb dX1_blank_4 rfl (lv_at hl 1 rfl) ?_
    refine lv_bipush (v := 8) hx hb dX1_blank_5 (by decide +kernel) ?_
    refine lv_icmp_ge (tgt := 39) hx hb dX1_blank_7 (by decide) (fun c_7 => ?_) (fun c_7 => ?_)
    · skip
      have d_7 : 8 ≤ j := (nI_leI (a := 8) (b := j) (by omega) (by omega)).mp c_7
      have hP9 := hP.sub (ws' := [(bk, .inr (1, [.ref bp])), (bp, .inl (cI, 1024, .inl fb))]) [0, 1] rfl
      have hD9 := hD.sub (ws' := [(bk, .inr (1, [.ref bp])), (bp, .inl (cI, 1024, .inl fb))]) [0, 1] (by decide) rfl
      refine W.widen (k := 0) (n := 0) (Nat.le_of_ble_eq_true rfl) (Nat.le_of_ble_eq_true rfl) ?_
      exact W.vret hx hb hr (fun t ht hW => ⟨⟨(), rfl, trivial, fb, (by first | (exfalso; omega) | (obtain rfl : i_12 = 128 := (by omega); exact hb_12)), by rw [ht]; exact hP9, hD9⟩, hS.F ht⟩) hS.2.2 dX1_blank_39
    · skip
      have d_7 : ¬ 8 ≤ j := fun h => c_7 ((nI_leI (a := 8) (b := j) (by omega) (by omega)).mpr h)
      refine lv_iconst (v := 0) hx hb dX1_blank_10 (by decide +kernel) ?_
      refine lv_istore_n (lv' := [(2, .int 0), (0, .ref bk), (1, .int (nI j))]) hx hb dX1_blank_11 rfl hl (by decide) rfl (fun ls hl => ?_)
      refine mz_loopU (fun k H locs ls => ∃ (i_12 : Nat), ∃ (fbp_12 : Nat → Int32), i_12 ≤ 128 ∧ (mz_bkp fb fbp_12 j i_12) ∧ va_P (dC, dI) vwCl [(bk, .inr (1, [.ref bp])), (bp, .inl (cI, 1024, .inl fbp_12))] H ∧ va_D A [(bk, .inr (1, [.ref bp])), (bp, .inl (cI, 1024, .inl fbp_12))] ∧ va_S A s.heap H locs ∧ lv_has ls 3 [(2, .int (nI i_12)), (0, .ref bk), (1, .int (nI j))] ∧ k = 128 - i_12) ?_ _ _ _ _ ⟨0, fb, by omega, mz_bk_0, hP, hD, hS, lv_sub hl [0, 1, 2] rfl, rfl⟩
      intro k_12 H locs ls hI_12 ih_12
      obtain ⟨i_12, fbp_12, hi_12, hb_12, hP, hD, hS, hl, hk_12⟩ := hI_12
      refine lv_iload_n hx hb dX1_blank_12 rfl (lv_at hl 0 rfl) ?_
      refine lv_sipush (v := 128) hx hb dX1_blank_13 (by decide +kernel) ?_
      refine lv_icmp_ge (tgt := 39) hx hb dX1_blank_16 (by decide) (fun c_16 => ?_) (fun c_16 => ?_)
      · skip
        have d_16 : 128 ≤ i_12 := (nI_leI (a := 128) (b := i_12) (by omega) (by omega)).mp c_16
        have hP9 := hP.sub (ws' := [(bk, .inr (1, [.ref bp])), (bp, .inl (cI, 1024, .inl fbp_12))]) [0, 1] rfl
        have hD9 := hD.sub (ws' := [(bk, .inr (1, [.ref bp])), (bp, .inl (cI, 1024, .inl fbp_12))]) [0, 1] (by decide) rfl
        refine W.widen (k := 0) (n := 0) (Nat.le_of_ble_eq_true rfl) (Nat.le_of_ble_eq_true rfl) ?_
        exact W.vret hx hb hr (fun t ht hW => ⟨⟨(), rfl, trivial, fbp_12, (by first | (exfalso; omega) | (obtain rfl : i_12 = 128 := (by omega); exact hb_12)), by rw [ht]; exact hP9, hD9⟩, hS.F ht⟩) hS.2.2 dX1_blank_39
      · skip
        have d_16 : ¬ 128 ≤ i_12 := fun h => c_16 ((nI_leI (a := 128) (b := i_12) (by omega) (by omega)).mpr h)
        refine lv_aload_n hx hb dX1_blank_19 rfl (lv_at hl 1 rfl) ?_
        refine va_get (D := (dC, dI)) (ci := 1) (v := .ref bp) (C := RX1) (T := TX1) (N := 1) hx hb hts hiX1 hown hK hP 0 rfl rfl 0 (by decide) (hts (.fieldLink RX1 9 "MadeItSo$Books" "parts" "[I") (by decide +kernel)) (fun _ h9 => h9) rfl dX1_blank_20 ?_
        refine lv_iload_n hx hb dX1_blank_23 rfl (lv_at hl 2 rfl) ?_
        refine lv_sipush (v := 128) hx hb dX1_blank_24 (by decide +kernel) ?_
        refine lv_imul hx hb dX1_blank_27 ?_
        refine mz_ti (y := (nI (j * 128))) (pk_mul _ _) ?_
        refine lv_iload_n hx hb dX1_blank_28 rfl (lv_at hl 0 rfl) ?_
        refine lv_iadd hx hb dX1_blank_29 ?_
        refine mz_ti (y := (nI (j * 128 + i_12))) (nI_add _ _) ?_
        refine lv_bipush (v := 50) hx hb dX1_blank_30 (by decide +kernel) ?_
        refine va_iast hx hb hK hP hD hS 1 0 rfl rfl (vp_in_nI (by omega) (by omega)) dX1_blank_32 (fun H locs hP hD hS => ?_)
        rw [mz_cl (n := j * 128 + i_12) (by omega)] at hP hD
        have hP : va_P (dC, dI) vwCl [(bk, .inr (1, [.ref bp])), (bp, .inl (cI, 1024, .inl (upd fbp_12 (j * 128 + i_12) 50)))] H := hP
        have hD : va_D A [(bk, .inr (1, [.ref bp])), (bp, .inl (cI, 1024, .inl (upd fbp_12 (j * 128 + i_12) 50)))] := hD
        refine lv_iinc (v := (nI (i_12 + 1))) (lv' := [(2, .int (nI (i_12 + 1))), (0, .ref bk), (1, .int (nI j))]) hx hb dX1_blank_33 hl (k := 0) rfl (nI_1 _) (by decide) rfl (fun ls hl => ?_)
        refine lv_goto (tgt := 12) hx hb dX1_blank_36 (by decide) ?_
        exact ih_12 _ (by omega) _ _ _ ⟨(i_12 + 1), (upd fbp_12 (j * 128 + i_12) 50), by omega, (mz_bk_s hb_12 (by omega)), hP, hD, hS, lv_sub hl [0, 1, 2] rfl, rfl⟩
set_option maxHeartbeats 1000000 in
set_option maxRecDepth 100000 in
theorem mz_e_x_arrow (l : Launch) (dC : Nat → ClassId) (dI : Nat → Nat → Nat) (cI cJ cZ : ClassId) (mx : Nat) (dr : Nat) (th : Nat) (bk : Nat) (wt : Nat) (tt : Nat) (lh : Nat) (la : Nat) (sh : Int32) (ab : Int64) (be : Int64) (dp : Nat) (dc : Nat) (n : Nat) (fp : Nat → Int32) (fc : Nat → Int32) (bp : Nat) (fb : Nat → Int32) (i : Nat) (j : Nat) (sz : Nat) (hn : n ≤ 8) (hi : i < n) (hj : j < n) (hf8 : ∀ k, k < 8 → ∀ j, j < 32 → mz_t (fc k) j = true → j < 8) : Met l yX7_arrow wsX7_arrow ({ frames := 6, cells := 0, slots := 0, locals := 133 }) (va_Pc [.ref mx, .int (nI i), .int (nI j)] (fun U => U.heap.size = sz ∧ va_P (dC, dI) vwCl [(mx, .inr (7, [.ref dr, .ref th, .ref bk, .ref wt, .ref tt, .ref lh, .ref la, .int sh, .long ab, .long be])), (dr, .inr (2, [.ref dp, .ref dc, .int (nI n)])), (dp, .inl (cI, 8, .inl fp)), (dc, .inl (cI, 8, .inl fc)), (bk, .inr (1, [.ref bp])), (bp, .inl (cI, 1024, .inl fb))] U.heap ∧ va_K (dC, dI) vwCl [(cI, FieldType.int), (cJ, FieldType.long), (cZ, FieldType.boolean)] U ∧ va_D (fun _ => True) [(mx, .inr (7, [.ref dr, .ref th, .ref bk, .ref wt, .ref tt, .ref lh, .ref la, .int sh, .long ab, .long be])), (dr, .inr (2, [.ref dp, .ref dc, .int (nI n)])), (dp, .inl (cI, 8, .inl fp)), (dc, .inl (cI, 8, .inl fc)), (bk, .inr (1, [.ref bp])), (bp, .inl (cI, 1024, .inl fb))] ∧ mz_N U)) (va_Qi (fun (r : Int32) (_ : Unit) => (r = 1 ∧ mz_can fp fc i j) ∨ (r = 0 ∧ mz_cant fp fc i j)) (fun _ t => ∃ (gp : Nat → Int32), ∃ (gc : Nat → Int32), ∃ (gb : Nat → Int32), (mz_can fp fc i j → (gp = upd fp j ((fp j) ||| (1 <<< ((nI i) &&& 31))) ∧ gc = upd fc i ((fc i) ||| (1 <<< ((nI j) &&& 31))) ∧ mz_bkp fb gb j 128)) ∧ (mz_cant fp fc i j → (gp = fp ∧ gc = fc ∧ gb = fb)) ∧ va_P (dC, dI) vwCl [(mx, .inr (7, [.ref dr, .ref th, .ref bk, .ref wt, .ref tt, .ref lh, .ref la, .int sh, .long ab, .long be])), (dr, .inr (2, [.ref dp, .ref dc, .int (nI n)])), (dp, .inl (cI, 8, .inl gp)), (dc, .inl (cI, 8, .inl gc)), (bk, .inr (1, [.ref bp])), (bp, .inl (cI, 1024, .inl gb))] t.heap ∧ va_D (va_A [(mx, .inr (7, [.ref dr, .ref th, .ref bk, .ref wt, .ref tt, .ref lh, .ref la, .int sh, .long ab, .long be])), (dr, .inr (2, [.ref dp, .ref dc, .int (nI n)])), (dp, .inl (cI, 8, .inl fp)), (dc, .inl (cI, 8, .inl fc)), (bk, .inr (1, [.ref bp])), (bp, .inl (cI, 1024, .inl fb))] sz) [(mx, .inr (7, [.ref dr, .ref th, .ref bk, .ref wt, .ref tt, .ref lh, .ref la, .int sh, .long ab, .long be])), (dr, .inr (2, [.ref dp, .ref dc, .int (nI n)])), (dp, .inl (cI, 8, .inl gp)), (dc, .inl (cI, 8, .inl gc)), (bk, .inr (1, [.ref bp])), (bp, .inl (cI, 1024, .inl gb))]) (va_A [(mx, .inr (7, [.ref dr, .ref th, .ref bk, .ref wt, .ref tt, .ref lh, .ref la, .int sh, .long ab, .long be])), (dr, .inr (2, [.ref dp, .ref dc, .int (nI n)])), (dp, .inl (cI, 8, .inl fp)), (dc, .inl (cI, 8, .inl fc)), (bk, .inr (1, [.ref bp])), (bp, .inl (cI, 1024, .inl fb))] sz)) 0 0 (va_A [(mx, .inr (7, [.ref dr, .ref th, .ref bk, .ref wt, .ref tt, .ref lh, .ref la, .int sh, .long ab, .long be])), (dr, .inr (2, [.ref dp, .ref dc, .int (nI n)])), (dp, .inl (cI, 8, .inl fp)), (dc, .inl (cI, 8, .inl fc)), (bk, .inr (1, [.ref bp])), (bp, .inl (cI, 1024, .inl fb))] sz) := by
  refine Met.ofW (cc := cX7_arrow) (maxL := 3) (ret := (some .boolean)) (by decide) rfl ?_
  intro p e s m args below meth c s₁ B hml hv
  obtain ⟨rfl, hsz, hP, hK, hD0, hN⟩ := hv
  subst hsz
  have hx := B.exec
  have hb := B.bytes
  have hr := B.returns
  have hts := atoms_spec (ws := wsX7_arrow) B.pre
  have hown : s.vm.findClass RX7 = some m.cls := findClass_of_methodNamed B.named
  have hlocks := B.notSynchronized
  have hD := hD0.self (sz := s.heap.size)
  generalize hAe : va_A [(mx, .inr (7, [.ref dr, .ref th, .ref bk, .ref wt, .ref tt, .ref lh, .ref la, .int sh, .long ab, .long be])), (dr, .inr (2, [.ref dp, .ref dc, .int (nI n)])), (dp, .inl (cI, 8, .inl fp)), (dc, .inl (cI, 8, .inl fc)), (bk, .inr (1, [.ref bp])), (bp, .inl (cI, 1024, .inl fb))] s.heap.size = A at hD ⊢
  have hA : ∀ q : Nat, s.heap.size ≤ q → A q := fun q h => by rw [← hAe]; exact Or.inr h
  have hS : va_S A s.heap s.heap [] := va_S.rf
  have hiX7 : ∀ w ∈ u_ws RX7 TX7 10, w ∈ wsX7_arrow := by decide +kernel
  have hl := lv_entry ([.ref mx, .int (nI i), .int (nI j)]) (n := 3) (Nat.le_of_ble_eq_true rfl)
  rw [lg_entry_eq]
  generalize (lg_sl ([.ref mx, .int (nI i), .int (nI j)]) ++ List.replicate (3 - (lg_sl ([.ref mx, .int (nI i), .int (nI j)])).length) Slot.unset).toArray = ls at hl ⊢
  have hl : lv_has ls 3 [(0, .ref mx), (1, .int (nI i)), (2, .int (nI j))] := hl
  refine lv_aload_n hx hb dX7_arrow_0 rfl (lv_at hl 0 rfl) ?_
  refine va_get (D := (dC, dI)) (ci := 7) (v := .ref dr) (C := RX7) (T := TX7) (N := 10) hx hb hts hiX7 hown hK hP 0 rfl rfl 0 (by decide) (hts (.fieldLink RX7 12 "MadeItSo" "drawing" "LMadeItSo$Drawing;") (by decide +kernel)) (fun _ h9 => h9) rfl dX7_arrow_1 ?_
  refine lv_iload_n hx hb dX7_arrow_4 rfl (lv_at hl 1 rfl) ?_
  have hPc := hP.sub (ws' := [(dr, .inr (2, [.ref dp, .ref dc, .int (nI n)]))]) [1] rfl
  refine va_calli (va_runV (As := [.int (nI i)]) (rest := []) ⟨hx, hb, hml, hown, hts⟩ (mz_d_has_in l dC dI cI cJ cZ dr dp dc n i s.heap (by first | assumption | omega) (by first | assumption | omega)) (cwV 1 hts gX7_arrow_X2_has rfl rfl rfl (by decide +kernel) ⟨Nat.le_of_ble_eq_true rfl, Nat.le_of_ble_eq_true rfl⟩) ⟨fun a U g mk q => mz_blP q, va_recv hK hPc (ci := 2) (q0 := 0) rfl rfl, fun U hU hW => ⟨rfl, hU, hPc, va_K.moved hW.alike hK, mz_nw hW hN⟩⟩ rfl rfl hl.1 rfl (lv_room (Nat.le_of_ble_eq_true rfl)) dX7_arrow_5 ⟨Nat.le_of_ble_eq_true rfl, Nat.le_of_ble_eq_true rfl⟩) hS (fun q _ h => h.elim) (fun q h => h.elim) (fun r_5 u t H1 locs ht hvm hw_5 hB hz1 hk1 hS => ?_)
  have hE : s.heap = H1 := hB.symm.trans ht
  subst hE
  obtain rfl : r_5 = 1 := hw_5
  refine lv_if_eq (tgt := 34) hx hb dX7_arrow_8 (by decide) (fun c_8 => absurd c_8 (by decide +kernel)) (fun _ => ?_)
  refine lv_aload_n hx hb dX7_arrow_11 rfl (lv_at hl 0 rfl) ?_
  refine va_get (D := (dC, dI)) (ci := 7) (v := .ref dr) (C := RX7) (T := TX7) (N := 10) hx hb hts hiX7 hown hK hP 0 rfl rfl 0 (by decide) (hts (.fieldLink RX7 12 "MadeItSo" "drawing" "LMadeItSo$Drawing;") (by decide +kernel)) (fun _ h9 => h9) rfl dX7_arrow_12 ?_
  refine lv_iload_n hx hb dX7_arrow_15 rfl (lv_at hl 2 rfl) ?_
  have hPc := hP.sub (ws' := [(dr, .inr (2, [.ref dp, .ref dc, .int (nI n)]))]) [1] rfl
  refine va_calli (va_runV (As := [.int (nI j)]) (rest := []) ⟨hx, hb, hml, hown, hts⟩ (mz_d_has_in l dC dI cI cJ cZ dr dp dc n j s.heap (by first | assumption | omega) (by first | assumption | omega)) (cwV 1 hts gX7_arrow_X2_has rfl rfl rfl (by decide +kernel) ⟨Nat.le_of_ble_eq_true rfl, Nat.le_of_ble_eq_true rfl⟩) ⟨fun a U g mk q => mz_blP q, va_recv hK hPc (ci := 2) (q0 := 0) rfl rfl, fun U hU hW => ⟨rfl, hU, hPc, va_K.moved hW.alike hK, mz_nw hW hN⟩⟩ rfl rfl hl.1 rfl (lv_room (Nat.le_of_ble_eq_true rfl)) dX7_arrow_16 ⟨Nat.le_of_ble_eq_true rfl, Nat.le_of_ble_eq_true rfl⟩) hS (fun q _ h => h.elim) (fun q h => h.elim) (fun r_16 u t H1 locs ht hvm hw_16 hB hz1 hk1 hS => ?_)
  have hE : s.heap = H1 := hB.symm.trans ht
  subst hE
  obtain rfl : r_16 = 1 := hw_16
  refine lv_if_eq (tgt := 34) hx hb dX7_arrow_19 (by decide) (fun c_19 => absurd c_19 (by decide +kernel)) (fun _ => ?_)
  refine lv_aload_n hx hb dX7_arrow_22 rfl (lv_at hl 0 rfl) ?_
  refine va_get (D := (dC, dI)) (ci := 7) (v := .ref dr) (C := RX7) (T := TX7) (N := 10) hx hb hts hiX7 hown hK hP 0 rfl rfl 0 (by decide) (hts (.fieldLink RX7 12 "MadeItSo" "drawing" "LMadeItSo$Drawing;") (by decide +kernel)) (fun _ h9 => h9) rfl dX7_arrow_23 ?_
  refine lv_iload_n hx hb dX7_arrow_26 rfl (lv_at hl 1 rfl) ?_
  refine lv_iload_n hx hb dX7_arrow_27 rfl (lv_at hl 2 rfl) ?_
  have hPc := hP.sub (ws' := [(dr, .inr (2, [.ref dp, .ref dc, .int (nI n)])), (dp, .inl (cI, 8, .inl fp)), (dc, .inl (cI, 8, .inl fc))]) [1, 2, 3] rfl
  refine va_calli (va_runV (As := [.int (nI i), .int (nI j)]) (rest := []) ⟨hx, hb, hml, hown, hts⟩ (mz_e_canJoin l dC dI cI cJ cZ dr dp dc n fp fc i j s.heap (by first | assumption | omega) (by first | assumption | omega) (by first | assumption | omega) (by first | assumption | omega)) (cwV 2 hts gX7_arrow_X2_canJoin rfl rfl rfl (by decide +kernel) ⟨Nat.le_of_ble_eq_true rfl, Nat.le_of_ble_eq_true rfl⟩) ⟨fun a U g mk q => mz_blP q, va_recv hK hPc (ci := 2) (q0 := 0) rfl rfl, fun U hU hW => ⟨rfl, hU, hPc, va_K.moved hW.alike hK, mz_nw hW hN⟩⟩ rfl rfl hl.1 rfl (lv_room (Nat.le_of_ble_eq_true rfl)) dX7_arrow_28 ⟨Nat.le_of_ble_eq_true rfl, Nat.le_of_ble_eq_true rfl⟩) hS (fun q _ h => h.elim) (fun q h => h.elim) (fun r_28 u t H1 locs ht hvm hw_28 hB hz1 hk1 hS => ?_)
  have hE : s.heap = H1 := hB.symm.trans ht
  subst hE
  rcases (show (r_28 = 1 ∧ (¬ i = j ∧ mz_t ((fp i) ||| (fc i)) j = false ∧ ∃ S, mz_lst fc (fc j) S ∧ mz_t S i = false)) ∨ (r_28 = 0 ∧ (i = j ∨ mz_t ((fp i) ||| (fc i)) j = true ∨ ∃ S, mz_lst fc (fc j) S ∧ mz_t S i = true)) from hw_28) with ⟨rfl, hc_28⟩ | ⟨rfl, hc_28⟩
  · skip
    refine lv_if_ne (tgt := 36) hx hb dX7_arrow_31 (by decide) (fun _ => ?_) (fun c_31 => absurd c_31 (by decide +kernel))
    refine lv_aload_n hx hb dX7_arrow_36 rfl (lv_at hl 0 rfl) ?_
    refine va_get (D := (dC, dI)) (ci := 7) (v := .ref dr) (C := RX7) (T := TX7) (N := 10) hx hb hts hiX7 hown hK hP 0 rfl rfl 0 (by decide) (hts (.fieldLink RX7 12 "MadeItSo" "drawing" "LMadeItSo$Drawing;") (by decide +kernel)) (fun _ h9 => h9) rfl dX7_arrow_37 ?_
    refine lv_iload_n hx hb dX7_arrow_40 rfl (lv_at hl 1 rfl) ?_
    refine lv_iload_n hx hb dX7_arrow_41 rfl (lv_at hl 2 rfl) ?_
    have hPc := hP.sub (ws' := [(dr, .inr (2, [.ref dp, .ref dc, .int (nI n)])), (dp, .inl (cI, 8, .inl fp)), (dc, .inl (cI, 8, .inl fc))]) [1, 2, 3] rfl
    have hDc := hD.sub (ws' := [(dr, .inr (2, [.ref dp, .ref dc, .int (nI n)])), (dp, .inl (cI, 8, .inl fp)), (dc, .inl (cI, 8, .inl fc))]) [1, 2, 3] (by decide) rfl
    have hFc := va_free (wc := [(dr, .inr (2, [.ref dp, .ref dc, .int (nI n)])), (dp, .inl (cI, 8, .inl fp)), (dc, .inl (cI, 8, .inl fc))]) hD hS hA [1, 2, 3] rfl
    refine va_callv (va_runV (As := [.int (nI i), .int (nI j)]) (rest := []) ⟨hx, hb, hml, hown, hts⟩ (mz_e_join l dC dI cI cJ cZ dr dp dc n fp fc i j s.heap.size (by first | assumption | omega) (by first | assumption | omega) (by first | assumption | omega)) (cwV 2 hts gX7_arrow_X2_join rfl rfl rfl (by decide +kernel) ⟨Nat.le_of_ble_eq_true rfl, Nat.le_of_ble_eq_true rfl⟩) ⟨fun a U g mk q => mz_blI q, va_recv hK hPc (ci := 2) (q0 := 0) rfl rfl, fun U hU hW => ⟨rfl, by rw [hU], by rw [hU]; exact hPc, va_K.moved hW.alike hK, hDc.weaken (fun _ _ _ _ => trivial), mz_nw hW hN⟩⟩ rfl rfl hl.1 rfl (lv_room (Nat.le_of_ble_eq_true rfl)) dX7_arrow_42 ⟨Nat.le_of_ble_eq_true rfl, Nat.le_of_ble_eq_true rfl⟩) hS (fun q _ h => hFc q h) hFc (fun u t H1 locs ht hvm hw_42 hB hz1 hk1 hS => ?_)
    obtain ⟨gp_42, gc_42, hx0_42, hx1_42, hP1, hD1⟩ := hB
    rw [ht] at hP1
    obtain ⟨hP, hD⟩ := va_join (wr := [(mx, .inr (7, [.ref dr, .ref th, .ref bk, .ref wt, .ref tt, .ref lh, .ref la, .int sh, .long ab, .long be])), (bk, .inr (1, [.ref bp])), (bp, .inl (cI, 1024, .inl fb))]) (w1 := [(dr, .inr (2, [.ref dp, .ref dc, .int (nI n)])), (dp, .inl (cI, 8, .inl gp_42)), (dc, .inl (cI, 8, .inl gc_42))]) hP hD [1, 2, 3] [0, 4, 5] rfl rfl (by decide) (by decide) hk1 hFc hP1 hD1
    generalize H1 = H at hP hS ⊢
    have hP : va_P (dC, dI) vwCl [(mx, .inr (7, [.ref dr, .ref th, .ref bk, .ref wt, .ref tt, .ref lh, .ref la, .int sh, .long ab, .long be])), (bk, .inr (1, [.ref bp])), (bp, .inl (cI, 1024, .inl fb)), (dr, .inr (2, [.ref dp, .ref dc, .int (nI n)])), (dp, .inl (cI, 8, .inl gp_42)), (dc, .inl (cI, 8, .inl gc_42))] H := hP
    have hD : va_D A [(mx, .inr (7, [.ref dr, .ref th, .ref bk, .ref wt, .ref tt, .ref lh, .ref la, .int sh, .long ab, .long be])), (bk, .inr (1, [.ref bp])), (bp, .inl (cI, 1024, .inl fb)), (dr, .inr (2, [.ref dp, .ref dc, .int (nI n)])), (dp, .inl (cI, 8, .inl gp_42)), (dc, .inl (cI, 8, .inl gc_42))] := hD
    refine lv_aload_n hx hb dX7_arrow_45 rfl (lv_at hl 0 rfl) ?_
    refine va_get (D := (dC, dI)) (ci := 7) (v := .ref bk) (C := RX7) (T := TX7) (N := 10) hx hb hts hiX7 hown hK hP 0 rfl rfl 2 (by decide) (hts (.fieldLink RX7 22 "MadeItSo" "books" "LMadeItSo$Books;") (by decide +kernel)) (fun _ h9 => h9) rfl dX7_arrow_46 ?_
    refine lv_iload_n hx hb dX7_arrow_49 rfl (lv_at hl 2 rfl) ?_
    have hPc := hP.sub (ws' := [(bk, .inr (1, [.ref bp])), (bp, .inl (cI, 1024, .inl fb))]) [1, 2] rfl
    have hDc := hD.sub (ws' := [(bk, .inr (1, [.ref bp])), (bp, .inl (cI, 1024, .inl fb))]) [1, 2] (by decide) rfl
    have hFc := va_free (wc := [(bk, .inr (1, [.ref bp])), (bp, .inl (cI, 1024, .inl fb))]) hD hS hA [1, 2] rfl
    refine va_callv (va_runV (As := [.int (nI j)]) (rest := []) ⟨hx, hb, hml, hown, hts⟩ (mz_e_blank l dC dI cI cJ cZ bk bp fb j H.size (by first | assumption | omega)) (cwV 1 hts gX7_arrow_X1_blank rfl rfl rfl (by decide +kernel) ⟨Nat.le_of_ble_eq_true rfl, Nat.le_of_ble_eq_true rfl⟩) ⟨fun a U g mk q => mz_blI q, va_recv hK hPc (ci := 1) (q0 := 0) rfl rfl, fun U hU hW => ⟨rfl, by rw [hU], by rw [hU]; exact hPc, va_K.moved hW.alike hK, hDc.weaken (fun _ _ _ _ => trivial), mz_nw hW hN⟩⟩ rfl rfl hl.1 rfl (lv_room (Nat.le_of_ble_eq_true rfl)) dX7_arrow_50 ⟨Nat.le_of_ble_eq_true rfl, Nat.le_of_ble_eq_true rfl⟩) hS (fun q _ h => hFc q h) hFc (fun u t H1 locs ht hvm hw_50 hB hz1 hk1 hS => ?_)
    obtain ⟨gb_50, hx0_50, hP1, hD1⟩ := hB
    rw [ht] at hP1
    obtain ⟨hP, hD⟩ := va_join (wr := [(mx, .inr (7, [.ref dr, .ref th, .ref bk, .ref wt, .ref tt, .ref lh, .ref la, .int sh, .long ab, .long be])), (dr, .inr (2, [.ref dp, .ref dc, .int (nI n)])), (dp, .inl (cI, 8, .inl gp_42)), (dc, .inl (cI, 8, .inl gc_42))]) (w1 := [(bk, .inr (1, [.ref bp])), (bp, .inl (cI, 1024, .inl gb_50))]) hP hD [1, 2] [0, 3, 4, 5] rfl rfl (by decide) (by decide) hk1 hFc hP1 hD1
    generalize H1 = H at hP hS ⊢
    have hP : va_P (dC, dI) vwCl [(mx, .inr (7, [.ref dr, .ref th, .ref bk, .ref wt, .ref tt, .ref lh, .ref la, .int sh, .long ab, .long be])), (dr, .inr (2, [.ref dp, .ref dc, .int (nI n)])), (dp, .inl (cI, 8, .inl gp_42)), (dc, .inl (cI, 8, .inl gc_42)), (bk, .inr (1, [.ref bp])), (bp, .inl (cI, 1024, .inl gb_50))] H := hP
    have hD : va_D A [(mx, .inr (7, [.ref dr, .ref th, .ref bk, .ref wt, .ref tt, .ref lh, .ref la, .int sh, .long ab, .long be])), (dr, .inr (2, [.ref dp, .ref dc, .int (nI n)])), (dp, .inl (cI, 8, .inl gp_42)), (dc, .inl (cI, 8, .inl gc_42)), (bk, .inr (1, [.ref bp])), (bp, .inl (cI, 1024, .inl gb_50))] := hD
    refine lv_iconst (v := 1) hx hb dX7_arrow_53 (by decide +kernel) ?_
    have hP9 := hP.sub (ws' := [(mx, .inr (7, [.ref dr, .ref th, .ref bk, .ref wt, .ref tt, .ref lh, .ref la, .int sh, .long ab, .long be])), (dr, .inr (2, [.ref dp, .ref dc, .int (nI n)])), (dp, .inl (cI, 8, .inl gp_42)), (dc, .inl (cI, 8, .inl gc_42)), (bk, .inr (1, [.ref bp])), (bp, .inl (cI, 1024, .inl gb_50))]) [0, 1, 2, 3, 4, 5] rfl
    have hD9 := hD.sub (ws' := [(mx, .inr (7, [.ref dr, .ref th, .ref bk, .ref wt, .ref tt, .ref lh, .ref la, .int sh, .long ab, .long be])), (dr, .inr (2, [.ref dp, .ref dc, .int (nI n)])), (dp, .inl (cI, 8, .inl gp_42)), (dc, .inl (cI, 8, .inl gc_42)), (bk, .inr (1, [.ref bp])), (bp, .inl (cI, 1024, .inl gb_50))]) [0, 1, 2, 3, 4, 5] (by decide) rfl
    refine W.widen (k := 0) (n := 0) (Nat.le_of_ble_eq_true rfl) (Nat.le_of_ble_eq_true rfl) ?_
    exact W.zret (v := 1) hx hb hr (mz_nz (by decide +kernel)) (fun t ht hW => ⟨⟨1, (), rfl, Or.inl ⟨rfl, hc_28⟩, gp_42, gc_42, gb_50, (fun _ => ⟨hx0_42, hx1_42, hx0_50⟩), (fun h => (mz_excl (by omega) hc_28 h).elim), by rw [ht]; exact hP9, hD9⟩, hS.F ht⟩) hS.2.2 dX7_arrow_54
  · skip
    refine lv_if_ne (tgt := 36) hx hb dX7_arrow_31 (by decide) (fun c_31 => absurd (by decide +kernel) c_31) (fun _ => ?_)
    refine lv_iconst (v := 0) hx hb dX7_arrow_34 (by decide +kernel) ?_
    have hP9 := hP.sub (ws' := [(mx, .inr (7, [.ref dr, .ref th, .ref bk, .ref wt, .ref tt, .ref lh, .ref la, .int sh, .long ab, .long be])), (dr, .inr (2, [.ref dp, .ref dc, .int (nI n)])), (dp, .inl (cI, 8, .inl fp)), (dc, .inl (cI, 8, .inl fc)), (bk, .inr (1, [.ref bp])), (bp, .inl (cI, 1024, .inl fb))]) [0, 1, 2, 3, 4, 5] rfl
    have hD9 := hD.sub (ws' := [(mx, .inr (7, [.ref dr, .ref th, .ref bk, .ref wt, .ref tt, .ref lh, .ref la, .int sh, .long ab, .long be])), (dr, .inr (2, [.ref dp, .ref dc, .int (nI n)])), (dp, .inl (cI, 8, .inl fp)), (dc, .inl (cI, 8, .inl fc)), (bk, .inr (1, [.ref bp])), (bp, .inl (cI, 1024, .inl fb))]) [0, 1, 2, 3, 4, 5] (by decide) rfl
    refine W.widen (k := 0) (n := 0) (Nat.le_of_ble_eq_true rfl) (Nat.le_of_ble_eq_true rfl) ?_
    exact W.zret (v := 0) hx hb hr (mz_nz (by decide +kernel)) (fun t ht hW => ⟨⟨0, (), rfl, Or.inr ⟨rfl, hc_28⟩, fp, fc, fb, (fun h => (mz_excl (by omega) h hc_28).elim), (fun _ => ⟨rfl, rfl, rfl⟩), by rw [ht]; exact hP9, hD9⟩, hS.F ht⟩) hS.2.2 dX7_arrow_35
set_option maxHeartbeats 1000000 in
set_option maxRecDepth 100000 in
theorem mz_e_x_arrow_out (l : Launch) (dC : Nat → ClassId) (dI : Nat → Nat → Nat) (cI cJ cZ : ClassId) (mx : Nat) (dr : Nat) (th : Nat) (bk : Nat) (wt : Nat) (tt : Nat) (lh : Nat) (la : Nat) (sh : Int32) (ab : Int64) (be : Int64) (dp : Nat) (dc : Nat) (n : Nat) (p1 : Int32) (p2 : Int32) (Hq : Heap) (hn : n ≤ 8) (hout : ¬ ∃ i j : Nat, i < n ∧ j < n ∧ p1 = nI i ∧ p2 = nI j) : Met l yX7_arrow wsX7_arrow ({ frames := 1, cells := 0, slots := 0, locals := 21 }) (va_Pc [.ref mx, .int p1, .int p2] (fun U => U.heap = Hq ∧ va_P (dC, dI) vwCl [(mx, .inr (7, [.ref dr, .ref th, .ref bk, .ref wt, .ref tt, .ref lh, .ref la, .int sh, .long ab, .long be])), (dr, .inr (2, [.ref dp, .ref dc, .int (nI n)]))] Hq ∧ va_K (dC, dI) vwCl [(cI, FieldType.int), (cJ, FieldType.long), (cZ, FieldType.boolean)] U ∧ mz_N U)) (va_Qi (fun (r : Int32) (_ : Unit) => r = 0) (fun _ t => t.heap = Hq) (fun _ : Nat => False)) 0 0 (fun _ : Nat => False) := by
  refine Met.ofW (cc := cX7_arrow) (maxL := 3) (ret := (some .boolean)) (by decide) rfl ?_
  intro p e s m args below meth c s₁ B hml hv
  obtain ⟨rfl, hH, hP, hK, hN⟩ := hv
  subst hH
  have hx := B.exec
  have hb := B.bytes
  have hr := B.returns
  have hts := atoms_spec (ws := wsX7_arrow) B.pre
  have hown : s.vm.findClass RX7 = some m.cls := findClass_of_methodNamed B.named
  have hlocks := B.notSynchronized
  have hS : va_S (fun _ : Nat => False) s.heap s.heap [] := va_S.rf
  have hiX7 : ∀ w ∈ u_ws RX7 TX7 10, w ∈ wsX7_arrow := by decide +kernel
  have hl := lv_entry ([.ref mx, .int p1, .int p2]) (n := 3) (Nat.le_of_ble_eq_true rfl)
  rw [lg_entry_eq]
  generalize (lg_sl ([.ref mx, .int p1, .int p2]) ++ List.replicate (3 - (lg_sl ([.ref mx, .int p1, .int p2])).length) Slot.unset).toArray = ls at hl ⊢
  have hl : lv_has ls 3 [(0, .ref mx), (1, .int p1), (2, .int p2)] := hl
  refine lv_aload_n hx hb dX7_arrow_0 rfl (lv_at hl 0 rfl) ?_
  refine va_get (D := (dC, dI)) (ci := 7) (v := .ref dr) (C := RX7) (T := TX7) (N := 10) hx hb hts hiX7 hown hK hP 0 rfl rfl 0 (by decide) (hts (.fieldLink RX7 12 "MadeItSo" "drawing" "LMadeItSo$Drawing;") (by decide +kernel)) (fun _ h9 => h9) rfl dX7_arrow_1 ?_
  refine lv_iload_n hx hb dX7_arrow_4 rfl (lv_at hl 1 rfl) ?_
  have hPc := hP.sub (ws' := [(dr, .inr (2, [.ref dp, .ref dc, .int (nI n)]))]) [1] rfl
  refine va_calli (va_runV (As := [.int p1]) (rest := []) ⟨hx, hb, hml, hown, hts⟩ (mz_d_has l dC dI cI cJ cZ dr dp dc n p1 s.heap (by first | assumption | omega)) (cwV 1 hts gX7_arrow_X2_has rfl rfl rfl (by decide +kernel) ⟨Nat.le_of_ble_eq_true rfl, Nat.le_of_ble_eq_true rfl⟩) ⟨fun a U g mk q => mz_blP q, va_recv hK hPc (ci := 2) (q0 := 0) rfl rfl, fun U hU hW => ⟨rfl, hU, hPc, va_K.moved hW.alike hK, mz_nw hW hN⟩⟩ rfl rfl hl.1 rfl (lv_room (Nat.le_of_ble_eq_true rfl)) dX7_arrow_5 ⟨Nat.le_of_ble_eq_true rfl, Nat.le_of_ble_eq_true rfl⟩) hS (fun q _ h => h.elim) (fun q h => h.elim) (fun r_5 u t H1 locs ht hvm hw_5 hB hz1 hk1 hS => ?_)
  have hE : s.heap = H1 := hB.symm.trans ht
  subst hE
  rcases (show (r_5 = 1 ∧ ∃ j : Nat, j < n ∧ p1 = nI j) ∨ r_5 = 0 from hw_5) with ⟨rfl, j_5, hj_5, he_5⟩ | rfl
  · skip
    subst he_5
    refine lv_if_eq (tgt := 34) hx hb dX7_arrow_8 (by decide) (fun c_8 => absurd c_8 (by decide +kernel)) (fun _ => ?_)
    refine lv_aload_n hx hb dX7_arrow_11 rfl (lv_at hl 0 rfl) ?_
    refine va_get (D := (dC, dI)) (ci := 7) (v := .ref dr) (C := RX7) (T := TX7) (N := 10) hx hb hts hiX7 hown hK hP 0 rfl rfl 0 (by decide) (hts (.fieldLink RX7 12 "MadeItSo" "drawing" "LMadeItSo$Drawing;") (by decide +kernel)) (fun _ h9 => h9) rfl dX7_arrow_12 ?_
    refine lv_iload_n hx hb dX7_arrow_15 rfl (lv_at hl 2 rfl) ?_
    have hPc := hP.sub (ws' := [(dr, .inr (2, [.ref dp, .ref dc, .int (nI n)]))]) [1] rfl
    refine va_calli (va_runV (As := [.int p2]) (rest := []) ⟨hx, hb, hml, hown, hts⟩ (mz_d_has l dC dI cI cJ cZ dr dp dc n p2 s.heap (by first | assumption | omega)) (cwV 1 hts gX7_arrow_X2_has rfl rfl rfl (by decide +kernel) ⟨Nat.le_of_ble_eq_true rfl, Nat.le_of_ble_eq_true rfl⟩) ⟨fun a U g mk q => mz_blP q, va_recv hK hPc (ci := 2) (q0 := 0) rfl rfl, fun U hU hW => ⟨rfl, hU, hPc, va_K.moved hW.alike hK, mz_nw hW hN⟩⟩ rfl rfl hl.1 rfl (lv_room (Nat.le_of_ble_eq_true rfl)) dX7_arrow_16 ⟨Nat.le_of_ble_eq_true rfl, Nat.le_of_ble_eq_true rfl⟩) hS (fun q _ h => h.elim) (fun q h => h.elim) (fun r_16 u t H1 locs ht hvm hw_16 hB hz1 hk1 hS => ?_)
    have hE : s.heap = H1 := hB.symm.trans ht
    subst hE
    rcases (show (r_16 = 1 ∧ ∃ j : Nat, j < n ∧ p2 = nI j) ∨ r_16 = 0 from hw_16) with ⟨rfl, j_16, hj_16, he_16⟩ | rfl
    · skip
      subst he_16
      refine lv_if_eq (tgt := 34) hx hb dX7_arrow_19 (by decide) (fun c_19 => absurd c_19 (by decide +kernel)) (fun _ => ?_)
      exact absurd ⟨_, _, hj_5, hj_16, rfl, rfl⟩ hout
    · skip
      refine lv_if_eq (tgt := 34) hx hb dX7_arrow_19 (by decide) (fun _ => ?_) (fun c_19 => absurd (by decide +kernel) c_19)
      refine lv_iconst (v := 0) hx hb dX7_arrow_34 (by decide +kernel) ?_
      refine W.widen (k := 0) (n := 0) (Nat.le_of_ble_eq_true rfl) (Nat.le_of_ble_eq_true rfl) ?_
      exact W.zret (v := 0) hx hb hr (mz_nz (by decide +kernel)) (fun t ht hW => ⟨⟨0, (), rfl, rfl, ht⟩, hS.F ht⟩) hS.2.2 dX7_arrow_35
  · skip
    refine lv_if_eq (tgt := 34) hx hb dX7_arrow_8 (by decide) (fun _ => ?_) (fun c_8 => absurd (by decide +kernel) c_8)
    refine lv_iconst (v := 0) hx hb dX7_arrow_34 (by decide +kernel) ?_
    refine W.widen (k := 0) (n := 0) (Nat.le_of_ble_eq_true rfl) (Nat.le_of_ble_eq_true rfl) ?_
    exact W.zret (v := 0) hx hb hr (mz_nz (by decide +kernel)) (fun t ht hW => ⟨⟨0, (), rfl, rfl, ht⟩, hS.F ht⟩) hS.2.2 dX7_arrow_35
set_option maxHeartbeats 1000000 in
set_option maxRecDepth 100000 in
theorem mz_e_m_fresh (l : Launch) (dC : Nat → ClassId) (dI : Nat → Nat → Nat) (cI cJ cZ : ClassId) (mo : Nat) (m1 : Nat) (m2 : Nat) (m3 : Nat) (m6 : Nat) (m7 : Nat) (m8 : Nat) (m9 : Nat) (m10 : Nat) (m11 : Nat) (m12 : Nat) (m13 : Nat) (m14 : Nat) (m15 : Nat) (m16 : Nat) (n : Nat) (ka : Int64) (kb : Int64) (fb : Nat → Int32) (j : Nat) (sz : Nat) (hj : j < 8) : Met l yX8_fresh wsX8_fresh ({ frames := 0, cells := 0, slots := 0, locals := 0 }) (va_Pc [.ref mo, .int (nI j)] (fun U => U.heap.size = sz ∧ va_P (dC, dI) vwCl [(mo, .inr (8, [.int (nI n), .ref m1, .ref m2, .ref m3, .long ka, .long kb, .ref m6, .ref m7, .ref m8, .ref m9, .ref m10, .ref m11, .ref m12, .ref m13, .ref m14, .ref m15, .ref m16])), (m3, .inl (cI, 1024, .inl fb))] U.heap ∧ va_K (dC, dI) vwCl [(cI, FieldType.int), (cJ, FieldType.long), (cZ, FieldType.boolean)] U ∧ va_D (fun _ => True) [(mo, .inr (8, [.int (nI n), .ref m1, .ref m2, .ref m3, .long ka, .long kb, .ref m6, .ref m7, .ref m8, .ref m9, .ref m10, .ref m11, .ref m12, .ref m13, .ref m14, .ref m15, .ref m16])), (m3, .inl (cI, 1024, .inl fb))] ∧ mz_N U)) (va_Qv (fun (_ : Unit) => True) (fun _ t => ∃ (gb : Nat → Int32), (mz_bkp fb gb j 128) ∧ va_P (dC, dI) vwCl [(mo, .inr (8, [.int (nI n), .ref m1, .ref m2, .ref m3, .long ka, .long kb, .ref m6, .ref m7, .ref m8, .ref m9, .ref m10, .ref m11, .ref m12, .ref m13, .ref m14, .ref m15, .ref m16])), (m3, .inl (cI, 1024, .inl gb))] t.heap ∧ va_D (va_A [(mo, .inr (8, [.int (nI n), .ref m1, .ref m2, .ref m3, .long ka, .long kb, .ref m6, .ref m7, .ref m8, .ref m9, .ref m10, .ref m11, .ref m12, .ref m13, .ref m14, .ref m15, .ref m16])), (m3, .inl (cI, 1024, .inl fb))] sz) [(mo, .inr (8, [.int (nI n), .ref m1, .ref m2, .ref m3, .long ka, .long kb, .ref m6, .ref m7, .ref m8, .ref m9, .ref m10, .ref m11, .ref m12, .ref m13, .ref m14, .ref m15, .ref m16])), (m3, .inl (cI, 1024, .inl gb))]) (va_A [(mo, .inr (8, [.int (nI n), .ref m1, .ref m2, .ref m3, .long ka, .long kb, .ref m6, .ref m7, .ref m8, .ref m9, .ref m10, .ref m11, .ref m12, .ref m13, .ref m14, .ref m15, .ref m16])), (m3, .inl (cI, 1024, .inl fb))] sz)) 0 0 (va_A [(mo, .inr (8, [.int (nI n), .ref m1, .ref m2, .ref m3, .long ka, .long kb, .ref m6, .ref m7, .ref m8, .ref m9, .ref m10, .ref m11, .ref m12, .ref m13, .ref m14, .ref m15, .ref m16])), (m3, .inl (cI, 1024, .inl fb))] sz) := by
  refine Met.ofW (cc := cX8_fresh) (maxL := 3) (ret := none) (by decide) rfl ?_
  intro p e s m args below meth c s₁ B hml hv
  obtain ⟨rfl, hsz, hP, hK, hD0, hN⟩ := hv
  subst hsz
  have hx := B.exec
  have hb := B.bytes
  have hr := B.returns
  have hts := atoms_spec (ws := wsX8_fresh) B.pre
  have hown : s.vm.findClass RX8 = some m.cls := findClass_of_methodNamed B.named
  have hlocks := B.notSynchronized
  have hD := hD0.self (sz := s.heap.size)
  generalize hAe : va_A [(mo, .inr (8, [.int (nI n), .ref m1, .ref m2, .ref m3, .long ka, .long kb, .ref m6, .ref m7, .ref m8, .ref m9, .ref m10, .ref m11, .ref m12, .ref m13, .ref m14, .ref m15, .ref m16])), (m3, .inl (cI, 1024, .inl fb))] s.heap.size = A at hD ⊢
  have hA : ∀ q : Nat, s.heap.size ≤ q → A q := fun q h => by rw [← hAe]; exact Or.inr h
  have hS : va_S A s.heap s.heap [] := va_S.rf
  have hiX8 : ∀ w ∈ u_ws RX8 TX8 17, w ∈ wsX8_fresh := by decide +kernel
  have hl := lv_entry ([.ref mo, .int (nI j)]) (n := 3) (Nat.le_of_ble_eq_true rfl)
  rw [lg_entry_eq]
  generalize (lg_sl ([.ref mo, .int (nI j)]) ++ List.replicate (3 - (lg_sl ([.ref mo, .int (nI j)])).length) Slot.unset).toArray = ls at hl ⊢
  have hl : lv_has ls 3 [(0, .ref mo), (1, .int (nI j))] := hl
  refine lv_iconst (v := 0) hx hb dX8_fresh_0 (by decide +kernel) ?_
  refine lv_istore_n (lv' := [(2, .int 0), (0, .ref mo), (1, .int (nI j))]) hx hb dX8_fresh_1 rfl hl (by decide) rfl (fun ls hl => ?_)
  refine mz_loopU (fun k H locs ls => ∃ (i_2 : Nat), ∃ (fm3_2 : Nat → Int32), i_2 ≤ 128 ∧ (mz_bkp fb fm3_2 j i_2) ∧ va_P (dC, dI) vwCl [(mo, .inr (8, [.int (nI n), .ref m1, .ref m2, .ref m3, .long ka, .long kb, .ref m6, .ref m7, .ref m8, .ref m9, .ref m10, .ref m11, .ref m12, .ref m13, .ref m14, .ref m15, .ref m16])), (m3, .inl (cI, 1024, .inl fm3_2))] H ∧ va_D A [(mo, .inr (8, [.int (nI n), .ref m1, .ref m2, .ref m3, .long ka, .long kb, .ref m6, .ref m7, .ref m8, .ref m9, .ref m10, .ref m11, .ref m12, .ref m13, .ref m14, .ref m15, .ref m16])), (m3, .inl (cI, 1024, .inl fm3_2))] ∧ va_S A s.heap H locs ∧ lv_has ls 3 [(2, .int (nI i_2)), (0, .ref mo), (1, .int (nI j))] ∧ k = 128 - i_2) ?_ _ _ _ _ ⟨0, fb, by omega, mz_bk_0, hP, hD, hS, lv_sub hl [0, 1, 2] rfl, rfl⟩
  intro k_2 H locs ls hI_2 ih_2
  obtain ⟨i_2, fm3_2, hi_2, hb_2, hP, hD, hS, hl, hk_2⟩ := hI_2
  refine lv_iload_n hx hb dX8_fresh_2 rfl (lv_at hl 0 rfl) ?_
  refine lv_sipush (v := 128) hx hb dX8_fresh_3 (by decide +kernel) ?_
  refine lv_icmp_ge (tgt := 29) hx hb dX8_fresh_6 (by decide) (fun c_6 => ?_) (fun c_6 => ?_)
  · skip
    have d_6 : 128 ≤ i_2 := (nI_leI (a := 128) (b := i_2) (by omega) (by omega)).mp c_6
    have hP9 := hP.sub (ws' := [(mo, .inr (8, [.int (nI n), .ref m1, .ref m2, .ref m3, .long ka, .long kb, .ref m6, .ref m7, .ref m8, .ref m9, .ref m10, .ref m11, .ref m12, .ref m13, .ref m14, .ref m15, .ref m16])), (m3, .inl (cI, 1024, .inl fm3_2))]) [0, 1] rfl
    have hD9 := hD.sub (ws' := [(mo, .inr (8, [.int (nI n), .ref m1, .ref m2, .ref m3, .long ka, .long kb, .ref m6, .ref m7, .ref m8, .ref m9, .ref m10, .ref m11, .ref m12, .ref m13, .ref m14, .ref m15, .ref m16])), (m3, .inl (cI, 1024, .inl fm3_2))]) [0, 1] (by decide) rfl
    refine W.widen (k := 0) (n := 0) (Nat.le_of_ble_eq_true rfl) (Nat.le_of_ble_eq_true rfl) ?_
    exact W.vret hx hb hr (fun t ht hW => ⟨⟨(), rfl, trivial, fm3_2, (by first | (exfalso; omega) | (obtain rfl : i_2 = 128 := (by omega); exact hb_2)), by rw [ht]; exact hP9, hD9⟩, hS.F ht⟩) hS.2.2 dX8_fresh_29
  · skip
    have d_6 : ¬ 128 ≤ i_2 := fun h => c_6 ((nI_leI (a := 128) (b := i_2) (by omega) (by omega)).mpr h)
    refine lv_aload_n hx hb dX8_fresh_9 rfl (lv_at hl 1 rfl) ?_
    refine va_get (D := (dC, dI)) (ci := 8) (v := .ref m3) (C := RX8) (T := TX8) (N := 17) hx hb hts hiX8 hown hK hP 0 rfl rfl 3 (by decide) (hts (.fieldLink RX8 17 "MadeItSoModel" "books" "[I") (by decide +kernel)) (fun _ h9 => h9) rfl dX8_fresh_10 ?_
    refine lv_sipush (v := 128) hx hb dX8_fresh_13 (by decide +kernel) ?_
    refine lv_iload_n hx hb dX8_fresh_16 rfl (lv_at hl 2 rfl) ?_
    refine lv_imul hx hb dX8_fresh_17 ?_
    refine mz_ti (y := (nI (128 * j))) (pk_mul _ _) ?_
    refine lv_iload_n hx hb dX8_fresh_18 rfl (lv_at hl 0 rfl) ?_
    refine lv_iadd hx hb dX8_fresh_19 ?_
    refine mz_ti (y := (nI (128 * j + i_2))) (nI_add _ _) ?_
    refine lv_bipush (v := 50) hx hb dX8_fresh_20 (by decide +kernel) ?_
    refine va_iast hx hb hK hP hD hS 1 0 rfl rfl (vp_in_nI (by omega) (by omega)) dX8_fresh_22 (fun H locs hP hD hS => ?_)
    rw [mz_cl (n := 128 * j + i_2) (by omega)] at hP hD
    have hP : va_P (dC, dI) vwCl [(mo, .inr (8, [.int (nI n), .ref m1, .ref m2, .ref m3, .long ka, .long kb, .ref m6, .ref m7, .ref m8, .ref m9, .ref m10, .ref m11, .ref m12, .ref m13, .ref m14, .ref m15, .ref m16])), (m3, .inl (cI, 1024, .inl (upd fm3_2 (128 * j + i_2) 50)))] H := hP
    have hD : va_D A [(mo, .inr (8, [.int (nI n), .ref m1, .ref m2, .ref m3, .long ka, .long kb, .ref m6, .ref m7, .ref m8, .ref m9, .ref m10, .ref m11, .ref m12, .ref m13, .ref m14, .ref m15, .ref m16])), (m3, .inl (cI, 1024, .inl (upd fm3_2 (128 * j + i_2) 50)))] := hD
    refine lv_iinc (v := (nI (i_2 + 1))) (lv' := [(2, .int (nI (i_2 + 1))), (0, .ref mo), (1, .int (nI j))]) hx hb dX8_fresh_23 hl (k := 0) rfl (nI_1 _) (by decide) rfl (fun ls hl => ?_)
    refine lv_goto (tgt := 2) hx hb dX8_fresh_26 (by decide) ?_
    exact ih_2 _ (by omega) _ _ _ ⟨(i_2 + 1), (upd fm3_2 (128 * j + i_2) 50), by omega, (mz_bk_s hb_2 (by omega)), hP, hD, hS, lv_sub hl [0, 1, 2] rfl, rfl⟩
set_option maxHeartbeats 1000000 in
set_option maxRecDepth 100000 in
theorem mz_e_m_has (l : Launch) (dC : Nat → ClassId) (dI : Nat → Nat → Nat) (cI cJ cZ : ClassId) (mo : Nat) (m1 : Nat) (m2 : Nat) (m3 : Nat) (m6 : Nat) (m7 : Nat) (m8 : Nat) (m9 : Nat) (m10 : Nat) (m11 : Nat) (m12 : Nat) (m13 : Nat) (m14 : Nat) (m15 : Nat) (m16 : Nat) (n : Nat) (ka : Int64) (kb : Int64) (fp : Nat → Int32) (i : Nat) (j : Nat) (Hq : Heap) (hn : n ≤ 8) (hi : i < n) (hj : j < n) : Met l yX8_has wsX8_has ({ frames := 1, cells := 0, slots := 0, locals := 21 }) (va_Pc [.ref mo, .int (nI i), .int (nI j)] (fun U => U.heap = Hq ∧ va_P (dC, dI) vwCl [(mo, .inr (8, [.int (nI n), .ref m1, .ref m2, .ref m3, .long ka, .long kb, .ref m6, .ref m7, .ref m8, .ref m9, .ref m10, .ref m11, .ref m12, .ref m13, .ref m14, .ref m15, .ref m16])), (m2, .inl (cI, 8, .inl fp))] Hq ∧ va_K (dC, dI) vwCl [(cI, FieldType.int), (cJ, FieldType.long), (cZ, FieldType.boolean)] U ∧ mz_N U)) (va_Qi (fun (r : Int32) (_ : Unit) => (r = 1 ∧ mz_t (fp j) i = true) ∨ (r = 0 ∧ mz_t (fp j) i = false)) (fun _ t => t.heap = Hq) (fun _ : Nat => False)) 0 0 (fun _ : Nat => False) := by
  refine Met.ofW (cc := cX8_has) (maxL := 3) (ret := (some .boolean)) (by decide) rfl ?_
  intro p e s m args below meth c s₁ B hml hv
  obtain ⟨rfl, hH, hP, hK, hN⟩ := hv
  subst hH
  have hx := B.exec
  have hb := B.bytes
  have hr := B.returns
  have hts := atoms_spec (ws := wsX8_has) B.pre
  have hown : s.vm.findClass RX8 = some m.cls := findClass_of_methodNamed B.named
  have hlocks := B.notSynchronized
  have hS : va_S (fun _ : Nat => False) s.heap s.heap [] := va_S.rf
  have hiX8 : ∀ w ∈ u_ws RX8 TX8 17, w ∈ wsX8_has := by decide +kernel
  have hl := lv_entry ([.ref mo, .int (nI i), .int (nI j)]) (n := 3) (Nat.le_of_ble_eq_true rfl)
  rw [lg_entry_eq]
  generalize (lg_sl ([.ref mo, .int (nI i), .int (nI j)]) ++ List.replicate (3 - (lg_sl ([.ref mo, .int (nI i), .int (nI j)])).length) Slot.unset).toArray = ls at hl ⊢
  have hl : lv_has ls 3 [(0, .ref mo), (1, .int (nI i)), (2, .int (nI j))] := hl
  refine lv_aload_n hx hb dX8_has_0 rfl (lv_at hl 0 rfl) ?_
  refine lv_iload_n hx hb dX8_has_1 rfl (lv_at hl 1 rfl) ?_
  have hPc := hP.sub (ws' := [(mo, .inr (8, [.int (nI n), .ref m1, .ref m2, .ref m3, .long ka, .long kb, .ref m6, .ref m7, .ref m8, .ref m9, .ref m10, .ref m11, .ref m12, .ref m13, .ref m14, .ref m15, .ref m16]))]) [0] rfl
  refine va_calli (va_runV (As := [.int (nI i)]) (rest := []) ⟨hx, hb, hml, hown, hts⟩ (mz_m_isThing_in l dC dI cI cJ cZ mo m1 m2 m3 m6 m7 m8 m9 m10 m11 m12 m13 m14 m15 m16 n ka kb i s.heap (by first | assumption | omega) (by first | assumption | omega)) (cwV 1 hts gX8_has_X8_isThing rfl rfl rfl (by decide +kernel) ⟨Nat.le_of_ble_eq_true rfl, Nat.le_of_ble_eq_true rfl⟩) ⟨fun a U g mk q => mz_blP q, va_recv hK hPc (ci := 8) (q0 := 0) rfl rfl, fun U hU hW => ⟨rfl, hU, hPc, va_K.moved hW.alike hK, mz_nw hW hN⟩⟩ rfl rfl hl.1 rfl (lv_room (Nat.le_of_ble_eq_true rfl)) dX8_has_2 ⟨Nat.le_of_ble_eq_true rfl, Nat.le_of_ble_eq_true rfl⟩) hS (fun q _ h => h.elim) (fun q h => h.elim) (fun r_2 u t H1 locs ht hvm hw_2 hB hz1 hk1 hS => ?_)
  have hE : s.heap = H1 := hB.symm.trans ht
  subst hE
  obtain rfl : r_2 = 1 := hw_2
  refine lv_if_eq (tgt := 34) hx hb dX8_has_5 (by decide) (fun c_5 => absurd c_5 (by decide +kernel)) (fun _ => ?_)
  refine lv_aload_n hx hb dX8_has_8 rfl (lv_at hl 0 rfl) ?_
  refine lv_iload_n hx hb dX8_has_9 rfl (lv_at hl 2 rfl) ?_
  have hPc := hP.sub (ws' := [(mo, .inr (8, [.int (nI n), .ref m1, .ref m2, .ref m3, .long ka, .long kb, .ref m6, .ref m7, .ref m8, .ref m9, .ref m10, .ref m11, .ref m12, .ref m13, .ref m14, .ref m15, .ref m16]))]) [0] rfl
  refine va_calli (va_runV (As := [.int (nI j)]) (rest := []) ⟨hx, hb, hml, hown, hts⟩ (mz_m_isThing_in l dC dI cI cJ cZ mo m1 m2 m3 m6 m7 m8 m9 m10 m11 m12 m13 m14 m15 m16 n ka kb j s.heap (by first | assumption | omega) (by first | assumption | omega)) (cwV 1 hts gX8_has_X8_isThing rfl rfl rfl (by decide +kernel) ⟨Nat.le_of_ble_eq_true rfl, Nat.le_of_ble_eq_true rfl⟩) ⟨fun a U g mk q => mz_blP q, va_recv hK hPc (ci := 8) (q0 := 0) rfl rfl, fun U hU hW => ⟨rfl, hU, hPc, va_K.moved hW.alike hK, mz_nw hW hN⟩⟩ rfl rfl hl.1 rfl (lv_room (Nat.le_of_ble_eq_true rfl)) dX8_has_10 ⟨Nat.le_of_ble_eq_true rfl, Nat.le_of_ble_eq_true rfl⟩) hS (fun q _ h => h.elim) (fun q h => h.elim) (fun r_10 u t H1 locs ht hvm hw_10 hB hz1 hk1 hS => ?_)
  have hE : s.heap = H1 := hB.symm.trans ht
  subst hE
  obtain rfl : r_10 = 1 := hw_10
  refine lv_if_eq (tgt := 34) hx hb dX8_has_13 (by decide) (fun c_13 => absurd c_13 (by decide +kernel)) (fun _ => ?_)
  refine lv_aload_n hx hb dX8_has_16 rfl (lv_at hl 0 rfl) ?_
  refine va_get (D := (dC, dI)) (ci := 8) (v := .ref m2) (C := RX8) (T := TX8) (N := 17) hx hb hts hiX8 hown hK hP 0 rfl rfl 2 (by decide) (hts (.fieldLink RX8 13 "MadeItSoModel" "parents" "[I") (by decide +kernel)) (fun _ h9 => h9) rfl dX8_has_17 ?_
  refine lv_iload_n hx hb dX8_has_20 rfl (lv_at hl 2 rfl) ?_
  refine va_iald hx hb hK hP 1 0 rfl rfl (vp_in_nI (by omega) (by omega)) dX8_has_21 ?_
  refine mz_ti (y := (fp j)) (by rw [mz_cl (by omega)]) ?_
  refine lv_iload_n hx hb dX8_has_22 rfl (lv_at hl 1 rfl) ?_
  refine lv_ishr hx hb dX8_has_23 ?_
  refine lv_iconst (v := 1) hx hb dX8_has_24 (by decide +kernel) ?_
  refine lv_iand hx hb dX8_has_25 ?_
  refine lv_iconst (v := 1) hx hb dX8_has_26 (by decide +kernel) ?_
  refine lv_icmp_ne (tgt := 34) hx hb dX8_has_27 (by decide) (fun c_27 => ?_) (fun c_27 => ?_)
  · skip
    refine lv_iconst (v := 0) hx hb dX8_has_34 (by decide +kernel) ?_
    refine W.widen (k := 0) (n := 0) (Nat.le_of_ble_eq_true rfl) (Nat.le_of_ble_eq_true rfl) ?_
    exact W.zret (v := 0) hx hb hr (mz_nz (by decide +kernel)) (fun t ht hW => ⟨⟨0, (), rfl, Or.inr ⟨rfl, mz_t_n (by omega) c_27⟩, ht⟩, hS.F ht⟩) hS.2.2 dX8_has_35
  · skip
    refine lv_iconst (v := 1) hx hb dX8_has_30 (by decide +kernel) ?_
    refine lv_goto (tgt := 35) hx hb dX8_has_31 (by decide) ?_
    refine W.widen (k := 0) (n := 0) (Nat.le_of_ble_eq_true rfl) (Nat.le_of_ble_eq_true rfl) ?_
    exact W.zret (v := 1) hx hb hr (mz_nz (by decide +kernel)) (fun t ht hW => ⟨⟨1, (), rfl, Or.inl ⟨rfl, mz_t_y (by omega) c_27⟩, ht⟩, hS.F ht⟩) hS.2.2 dX8_has_35
set_option maxHeartbeats 1000000 in
set_option maxRecDepth 100000 in
theorem mz_e_m_belowOf (l : Launch) (dC : Nat → ClassId) (dI : Nat → Nat → Nat) (cI cJ cZ : ClassId) (mo : Nat) (m1 : Nat) (m2 : Nat) (m3 : Nat) (m6 : Nat) (m7 : Nat) (m8 : Nat) (m9 : Nat) (m10 : Nat) (m11 : Nat) (m12 : Nat) (m13 : Nat) (m14 : Nat) (m15 : Nat) (m16 : Nat) (n : Nat) (ka : Int64) (kb : Int64) (fp : Nat → Int32) (tq : Nat) (Hq : Heap) (hn : n ≤ 8) (hgb : ∀ k, k < n → ∀ j, j < 32 → mz_t (fp k) j = true → j < n) : Met l yX8_belowOf wsX8_belowOf ({ frames := 1, cells := 0, slots := 0, locals := 23 }) (va_Pc [.ref mo, .int (nI tq), .int 0] (fun U => U.heap = Hq ∧ va_P (dC, dI) vwCl [(mo, .inr (8, [.int (nI n), .ref m1, .ref m2, .ref m3, .long ka, .long kb, .ref m6, .ref m7, .ref m8, .ref m9, .ref m10, .ref m11, .ref m12, .ref m13, .ref m14, .ref m15, .ref m16])), (m2, .inl (cI, 8, .inl fp))] Hq ∧ va_K (dC, dI) vwCl [(cI, FieldType.int), (cJ, FieldType.long), (cZ, FieldType.boolean)] U ∧ mz_N U)) (va_Qi (fun (r : Int32) (_ : Unit) => mz_bs n fp tq r) (fun _ t => t.heap = Hq) (fun _ : Nat => False)) 0 0 (fun _ : Nat => False) := by
  refine Met.ofW (cc := cX8_belowOf) (maxL := 8) (ret := (some .int)) (by decide) rfl ?_
  intro p e s m args below meth c s₁ B hml hv
  obtain ⟨rfl, hH, hP, hK, hN⟩ := hv
  subst hH
  have hx := B.exec
  have hb := B.bytes
  have hr := B.returns
  have hts := atoms_spec (ws := wsX8_belowOf) B.pre
  have hown : s.vm.findClass RX8 = some m.cls := findClass_of_methodNamed B.named
  have hlocks := B.notSynchronized
  have hS : va_S (fun _ : Nat => False) s.heap s.heap [] := va_S.rf
  have hiX8 : ∀ w ∈ u_ws RX8 TX8 17, w ∈ wsX8_belowOf := by decide +kernel
  have hl := lv_entry ([.ref mo, .int (nI tq), .int 0]) (n := 8) (Nat.le_of_ble_eq_true rfl)
  rw [lg_entry_eq]
  generalize (lg_sl ([.ref mo, .int (nI tq), .int 0]) ++ List.replicate (8 - (lg_sl ([.ref mo, .int (nI tq), .int 0])).length) Slot.unset).toArray = ls at hl ⊢
  have hl : lv_has ls 8 [(0, .ref mo), (1, .int (nI tq)), (2, .int 0)] := hl
  refine lv_iconst (v := 0) hx hb dX8_belowOf_0 (by decide +kernel) ?_
  refine lv_istore_n (lv' := [(3, .int 0), (0, .ref mo), (1, .int (nI tq)), (2, .int 0)]) hx hb dX8_belowOf_1 rfl hl (by decide) rfl (fun ls hl => ?_)
  refine lv_iconst (v := 1) hx hb dX8_belowOf_2 (by decide +kernel) ?_
  refine lv_istore (lv' := [(4, .int 1), (3, .int 0), (0, .ref mo), (1, .int (nI tq)), (2, .int 0)]) hx hb dX8_belowOf_3 hl (by decide) rfl (fun ls hl => ?_)
  refine mz_loopU (fun k H locs ls => ∃ (x4_5 : Int32), ∃ (x3_5 : Int32), (x4_5 = 0 → ∀ k, k < n → mz_clo fp (nI tq) x3_5 k) ∧ (∀ F : Int32, (∀ k, k < n → mz_clo fp (nI tq) F k) → ∀ k, k < n → mz_t x3_5 k = true → mz_t F k = true) ∧ H = s.heap ∧ va_S (fun _ : Nat => False) s.heap H locs ∧ lv_has ls 8 [(4, .int x4_5), (3, .int x3_5), (0, .ref mo), (1, .int (nI tq)), (2, .int 0)] ∧ k = 2 * mz_un x3_5 n + (if x4_5 = 0 then 0 else 1)) ?_ _ _ _ _ ⟨1, 0, (fun h => absurd h (by decide)), (fun _ _ k _ h => absurd h (by rw [mz_t_0]; decide)), rfl, hS, lv_sub hl [0, 1, 2, 3, 4] rfl, rfl⟩
  intro k_5 H locs ls hI_5 ih_5
  obtain ⟨x4_5, x3_5, hc_5, hm_5, hH_5, hS, hl, hk_5⟩ := hI_5
  subst hH_5
  refine lv_iload hx hb dX8_belowOf_5 (lv_at hl 0 rfl) ?_
  refine lv_if_eq (tgt := 95) hx hb dX8_belowOf_7 (by decide) (fun c_7 => ?_) (fun c_7 => ?_)
  · skip
    refine lv_iload_n hx hb dX8_belowOf_95 rfl (lv_at hl 1 rfl) ?_
    refine W.widen (k := 0) (n := 0) (Nat.le_of_ble_eq_true rfl) (Nat.le_of_ble_eq_true rfl) ?_
    exact W.iret (v := x3_5) hx hb hr (fun t ht hW => ⟨⟨x3_5, (), rfl, ⟨hc_5 c_7, hm_5⟩, ht⟩, hS.F ht⟩) hS.2.2 dX8_belowOf_96
  · skip
    refine lv_iconst (v := 0) hx hb dX8_belowOf_10 (by decide +kernel) ?_
    refine lv_istore (lv' := [(4, .int 0), (3, .int x3_5), (0, .ref mo), (1, .int (nI tq)), (2, .int 0)]) hx hb dX8_belowOf_11 hl (by decide) rfl (fun ls hl => ?_)
    refine lv_iconst (v := 0) hx hb dX8_belowOf_13 (by decide +kernel) ?_
    refine lv_istore (lv' := [(5, .int 0), (4, .int 0), (3, .int x3_5), (0, .ref mo), (1, .int (nI tq)), (2, .int 0)]) hx hb dX8_belowOf_14 hl (by decide) rfl (fun ls hl => ?_)
    refine mz_loopU (fun k H locs ls => ∃ (i_16 : Nat), ∃ (x4_16 : Int32), ∃ (x3_16 : Int32), i_16 ≤ n ∧ (x4_16 = 0 → ((∀ k, k < i_16 → mz_clo fp (nI tq) x3_16 k) ∧ x3_16 = x3_5)) ∧ (mz_un x3_16 n ≤ mz_un x3_5 n) ∧ (¬ x4_16 = 0 → mz_un x3_16 n < mz_un x3_5 n) ∧ (∀ F : Int32, (∀ k, k < n → mz_clo fp (nI tq) F k) → ∀ k, k < n → mz_t x3_16 k = true → mz_t F k = true) ∧ H = s.heap ∧ va_S (fun _ : Nat => False) s.heap H locs ∧ lv_has ls 8 [(5, .int (nI i_16)), (4, .int x4_16), (3, .int x3_16), (0, .ref mo), (1, .int (nI tq)), (2, .int 0)] ∧ k = n - i_16) ?_ _ _ _ _ ⟨0, 0, x3_5, by omega, (fun _ => ⟨fun k hk => absurd hk (Nat.not_lt_zero k), rfl⟩), Nat.le_refl _, (fun h => absurd rfl h), hm_5, rfl, hS, lv_sub hl [0, 1, 2, 3, 4, 5] rfl, rfl⟩
    intro k_16 H locs ls hI_16 ih_16
    obtain ⟨i_16, x4_16, x3_16, hi_16, hq_16, hu_16, hv_16, hm_16, hH_16, hS, hl, hk_16⟩ := hI_16
    subst hH_16
    refine lv_iload hx hb dX8_belowOf_16 (lv_at hl 0 rfl) ?_
    refine lv_aload_n hx hb dX8_belowOf_18 rfl (lv_at hl 3 rfl) ?_
    refine va_get (D := (dC, dI)) (ci := 8) (v := .int (nI n)) (C := RX8) (T := TX8) (N := 17) hx hb hts hiX8 hown hK hP 0 rfl rfl 0 (by decide) (hts (.fieldLink RX8 58 "MadeItSoModel" "many" "I") (by decide +kernel)) (fun _ h9 => h9) rfl dX8_belowOf_19 ?_
    refine lv_icmp_ge (tgt := 92) hx hb dX8_belowOf_22 (by decide) (fun c_22 => ?_) (fun c_22 => ?_)
    · skip
      have d_22 : n ≤ i_16 := (nI_leI (a := n) (b := i_16) (by omega) (by omega)).mp c_22
      refine lv_goto (tgt := 5) hx hb dX8_belowOf_92 (by decide) ?_
      exact ih_5 _ (mz_two hk_5 c_7 hu_16 hv_16) _ _ _ ⟨x4_16, x3_16, (fun h k hk => (hq_16 h).1 k (by omega)), hm_16, rfl, hS, lv_sub hl [1, 2, 3, 4, 5] rfl, rfl⟩
    · skip
      have d_22 : ¬ n ≤ i_16 := fun h => c_22 ((nI_leI (a := n) (b := i_16) (by omega) (by omega)).mpr h)
      refine lv_aload_n hx hb dX8_belowOf_25 rfl (lv_at hl 3 rfl) ?_
      refine lv_iload hx hb dX8_belowOf_26 (lv_at hl 0 rfl) ?_
      refine lv_iload_n hx hb dX8_belowOf_28 rfl (lv_at hl 4 rfl) ?_
      refine lv_iload_n hx hb dX8_belowOf_29 rfl (lv_at hl 5 rfl) ?_
      have hPc := hP.sub (ws' := [(mo, .inr (8, [.int (nI n), .ref m1, .ref m2, .ref m3, .long ka, .long kb, .ref m6, .ref m7, .ref m8, .ref m9, .ref m10, .ref m11, .ref m12, .ref m13, .ref m14, .ref m15, .ref m16])), (m2, .inl (cI, 8, .inl fp))]) [0, 1] rfl
      refine va_calli (va_runV (As := [.int (nI i_16), .int (nI tq), .int 0]) (rest := []) ⟨hx, hb, hml, hown, hts⟩ (mz_m_pw0 l dC dI cI cJ cZ mo m1 m2 m3 m6 m7 m8 m9 m10 m11 m12 m13 m14 m15 m16 n ka kb fp i_16 (nI tq) s.heap (by first | assumption | omega)) (cwV 3 hts gX8_belowOf_X8_parentsWithout rfl rfl rfl (by decide +kernel) ⟨Nat.le_of_ble_eq_true rfl, Nat.le_of_ble_eq_true rfl⟩) ⟨fun a U g mk q => mz_blP q, va_recv hK hPc (ci := 8) (q0 := 0) rfl rfl, fun U hU hW => ⟨rfl, hU, hPc, va_K.moved hW.alike hK, mz_nw hW hN⟩⟩ rfl rfl hl.1 rfl (lv_room (Nat.le_of_ble_eq_true rfl)) dX8_belowOf_30 ⟨Nat.le_of_ble_eq_true rfl, Nat.le_of_ble_eq_true rfl⟩) hS (fun q _ h => h.elim) (fun q h => h.elim) (fun r_30 u t H1 locs ht hvm hw_30 hB hz1 hk1 hS => ?_)
      have hE : s.heap = H1 := hB.symm.trans ht
      subst hE
      obtain rfl : r_30 = (fp i_16) := hw_30
      refine lv_istore (lv' := [(6, .int (fp i_16)), (5, .int (nI i_16)), (4, .int x4_16), (3, .int x3_16), (0, .ref mo), (1, .int (nI tq)), (2, .int 0)]) hx hb dX8_belowOf_33 hl (by decide) rfl (fun ls hl => ?_)
      refine lv_iload_n hx hb dX8_belowOf_35 rfl (lv_at hl 3 rfl) ?_
      refine lv_iload hx hb dX8_belowOf_36 (lv_at hl 1 rfl) ?_
      refine lv_ishr hx hb dX8_belowOf_38 ?_
      refine lv_iconst (v := 1) hx hb dX8_belowOf_39 (by decide +kernel) ?_
      refine lv_iand hx hb dX8_belowOf_40 ?_
      refine lv_if_ne (tgt := 65) hx hb dX8_belowOf_41 (by decide) (fun c_41 => ?_) (fun c_41 => ?_)
      · skip
        refine lv_iconst (v := 0) hx hb dX8_belowOf_65 (by decide +kernel) ?_
        refine lv_istore (lv' := [(7, .int 0), (6, .int (fp i_16)), (5, .int (nI i_16)), (4, .int x4_16), (3, .int x3_16), (0, .ref mo), (1, .int (nI tq)), (2, .int 0)]) hx hb dX8_belowOf_66 hl (by decide) rfl (fun ls hl => ?_)
        refine lv_iload hx hb dX8_belowOf_68 (lv_at hl 0 rfl) ?_
        refine lv_if_ne (tgt := 76) hx hb dX8_belowOf_70 (by decide) (fun c_70 => absurd (by decide +kernel) c_70) (fun _ => ?_)
        refine lv_goto (tgt := 86) hx hb dX8_belowOf_73 (by decide) ?_
        refine lv_iinc (v := (nI (i_16 + 1))) (lv' := [(5, .int (nI (i_16 + 1))), (7, .int 0), (6, .int (fp i_16)), (4, .int x4_16), (3, .int x3_16), (0, .ref mo), (1, .int (nI tq)), (2, .int 0)]) hx hb dX8_belowOf_86 hl (k := 2) rfl (nI_1 _) (by decide) rfl (fun ls hl => ?_)
        refine lv_goto (tgt := 16) hx hb dX8_belowOf_89 (by decide) ?_
        exact ih_16 _ (by omega) _ _ _ ⟨(i_16 + 1), x4_16, x3_16, by omega, (by first | exact (fun h => absurd h (by decide)) | exact (fun h => ⟨lt_s (hq_16 h).1 (by first | exact Or.inl c_41 | exact Or.inr ⟨c_51, c_58⟩), (hq_16 h).2⟩)), (by first | exact hu_16 | exact Nat.le_of_lt (Nat.lt_of_lt_of_le (mz_un_set c_41 (by omega) (by omega)) hu_16)), (by first | exact hv_16 | exact (fun _ => Nat.lt_of_lt_of_le (mz_un_set c_41 (by omega) (by omega)) hu_16)), (by first | exact hm_16 | exact mz_bs_add hn (by omega) hgb hm_16 (Or.inl c_51) | exact mz_bs_add hn (by omega) hgb hm_16 (Or.inr c_58)), rfl, hS, lv_sub hl [0, 3, 4, 5, 6, 7] rfl, rfl⟩
      · skip
        refine lv_iload hx hb dX8_belowOf_44 (lv_at hl 0 rfl) ?_
        refine lv_iload_n hx hb dX8_belowOf_46 rfl (lv_at hl 5 rfl) ?_
        refine lv_ishr hx hb dX8_belowOf_47 ?_
        refine lv_iconst (v := 1) hx hb dX8_belowOf_48 (by decide +kernel) ?_
        refine lv_iand hx hb dX8_belowOf_49 ?_
        refine lv_iconst (v := 1) hx hb dX8_belowOf_50 (by decide +kernel) ?_
        refine lv_icmp_eq (tgt := 61) hx hb dX8_belowOf_51 (by decide) (fun c_51 => ?_) (fun c_51 => ?_)
        · skip
          refine lv_iconst (v := 1) hx hb dX8_belowOf_61 (by decide +kernel) ?_
          refine lv_goto (tgt := 66) hx hb dX8_belowOf_62 (by decide) ?_
          refine lv_istore (lv' := [(7, .int 1), (6, .int (fp i_16)), (5, .int (nI i_16)), (4, .int x4_16), (3, .int x3_16), (0, .ref mo), (1, .int (nI tq)), (2, .int 0)]) hx hb dX8_belowOf_66 hl (by decide) rfl (fun ls hl => ?_)
          refine lv_iload hx hb dX8_belowOf_68 (lv_at hl 0 rfl) ?_
          refine lv_if_ne (tgt := 76) hx hb dX8_belowOf_70 (by decide) (fun _ => ?_) (fun c_70 => absurd c_70 (by decide +kernel))
          refine lv_iload_n hx hb dX8_belowOf_76 rfl (lv_at hl 4 rfl) ?_
          refine lv_iconst (v := 1) hx hb dX8_belowOf_77 (by decide +kernel) ?_
          refine lv_iload hx hb dX8_belowOf_78 (lv_at hl 2 rfl) ?_
          refine lv_ishl hx hb dX8_belowOf_80 ?_
          refine lv_ior hx hb dX8_belowOf_81 ?_
          refine lv_istore_n (lv' := [(3, .int (x3_16 ||| (1 <<< ((nI i_16) &&& 31)))), (7, .int 1), (6, .int (fp i_16)), (5, .int (nI i_16)), (4, .int x4_16), (0, .ref mo), (1, .int (nI tq)), (2, .int 0)]) hx hb dX8_belowOf_82 rfl hl (by decide) rfl (fun ls hl => ?_)
          refine lv_iconst (v := 1) hx hb dX8_belowOf_83 (by decide +kernel) ?_
          refine lv_istore (lv' := [(4, .int 1), (3, .int (x3_16 ||| (1 <<< ((nI i_16) &&& 31)))), (7, .int 1), (6, .int (fp i_16)), (5, .int (nI i_16)), (0, .ref mo), (1, .int (nI tq)), (2, .int 0)]) hx hb dX8_belowOf_84 hl (by decide) rfl (fun ls hl => ?_)
          refine lv_iinc (v := (nI (i_16 + 1))) (lv' := [(5, .int (nI (i_16 + 1))), (4, .int 1), (3, .int (x3_16 ||| (1 <<< ((nI i_16) &&& 31)))), (7, .int 1), (6, .int (fp i_16)), (0, .ref mo), (1, .int (nI tq)), (2, .int 0)]) hx hb dX8_belowOf_86 hl (k := 4) rfl (nI_1 _) (by decide) rfl (fun ls hl => ?_)
          refine lv_goto (tgt := 16) hx hb dX8_belowOf_89 (by decide) ?_
          exact ih_16 _ (by omega) _ _ _ ⟨(i_16 + 1), 1, (x3_16 ||| (1 <<< ((nI i_16) &&& 31))), by omega, (by first | exact (fun h => absurd h (by decide)) | exact (fun h => ⟨lt_s (hq_16 h).1 (by first | exact Or.inl c_41 | exact Or.inr ⟨c_51, c_58⟩), (hq_16 h).2⟩)), (by first | exact hu_16 | exact Nat.le_of_lt (Nat.lt_of_lt_of_le (mz_un_set c_41 (by omega) (by omega)) hu_16)), (by first | exact hv_16 | exact (fun _ => Nat.lt_of_lt_of_le (mz_un_set c_41 (by omega) (by omega)) hu_16)), (by first | exact hm_16 | exact mz_bs_add hn (by omega) hgb hm_16 (Or.inl c_51) | exact mz_bs_add hn (by omega) hgb hm_16 (Or.inr c_58)), rfl, hS, lv_sub hl [0, 1, 2, 5, 6, 7] rfl, rfl⟩
        · skip
          refine lv_iload hx hb dX8_belowOf_54 (lv_at hl 0 rfl) ?_
          refine lv_iload_n hx hb dX8_belowOf_56 rfl (lv_at hl 3 rfl) ?_
          refine lv_iand hx hb dX8_belowOf_57 ?_
          refine lv_if_eq (tgt := 65) hx hb dX8_belowOf_58 (by decide) (fun c_58 => ?_) (fun c_58 => ?_)
          · skip
            refine lv_iconst (v := 0) hx hb dX8_belowOf_65 (by decide +kernel) ?_
            refine lv_istore (lv' := [(7, .int 0), (6, .int (fp i_16)), (5, .int (nI i_16)), (4, .int x4_16), (3, .int x3_16), (0, .ref mo), (1, .int (nI tq)), (2, .int 0)]) hx hb dX8_belowOf_66 hl (by decide) rfl (fun ls hl => ?_)
            refine lv_iload hx hb dX8_belowOf_68 (lv_at hl 0 rfl) ?_
            refine lv_if_ne (tgt := 76) hx hb dX8_belowOf_70 (by decide) (fun c_70 => absurd (by decide +kernel) c_70) (fun _ => ?_)
            refine lv_goto (tgt := 86) hx hb dX8_belowOf_73 (by decide) ?_
            refine lv_iinc (v := (nI (i_16 + 1))) (lv' := [(5, .int (nI (i_16 + 1))), (7, .int 0), (6, .int (fp i_16)), (4, .int x4_16), (3, .int x3_16), (0, .ref mo), (1, .int (nI tq)), (2, .int 0)]) hx hb dX8_belowOf_86 hl (k := 2) rfl (nI_1 _) (by decide) rfl (fun ls hl => ?_)
            refine lv_goto (tgt := 16) hx hb dX8_belowOf_89 (by decide) ?_
            exact ih_16 _ (by omega) _ _ _ ⟨(i_16 + 1), x4_16, x3_16, by omega, (by first | exact (fun h => absurd h (by decide)) | exact (fun h => ⟨lt_s (hq_16 h).1 (by first | exact Or.inl c_41 | exact Or.inr ⟨c_51, c_58⟩), (hq_16 h).2⟩)), (by first | exact hu_16 | exact Nat.le_of_lt (Nat.lt_of_lt_of_le (mz_un_set c_41 (by omega) (by omega)) hu_16)), (by first | exact hv_16 | exact (fun _ => Nat.lt_of_lt_of_le (mz_un_set c_41 (by omega) (by omega)) hu_16)), (by first | exact hm_16 | exact mz_bs_add hn (by omega) hgb hm_16 (Or.inl c_51) | exact mz_bs_add hn (by omega) hgb hm_16 (Or.inr c_58)), rfl, hS, lv_sub hl [0, 3, 4, 5, 6, 7] rfl, rfl⟩
          · skip
            refine lv_iconst (v := 1) hx hb dX8_belowOf_61 (by decide +kernel) ?_
            refine lv_goto (tgt := 66) hx hb dX8_belowOf_62 (by decide) ?_
            refine lv_istore (lv' := [(7, .int 1), (6, .int (fp i_16)), (5, .int (nI i_16)), (4, .int x4_16), (3, .int x3_16), (0, .ref mo), (1, .int (nI tq)), (2, .int 0)]) hx hb dX8_belowOf_66 hl (by decide) rfl (fun ls hl => ?_)
            refine lv_iload hx hb dX8_belowOf_68 (lv_at hl 0 rfl) ?_
            refine lv_if_ne (tgt := 76) hx hb dX8_belowOf_70 (by decide) (fun _ => ?_) (fun c_70 => absurd c_70 (by decide +kernel))
            refine lv_iload_n hx hb dX8_belowOf_76 rfl (lv_at hl 4 rfl) ?_
            refine lv_iconst (v := 1) hx hb dX8_belowOf_77 (by decide +kernel) ?_
            refine lv_iload hx hb dX8_belowOf_78 (lv_at hl 2 rfl) ?_
            refine lv_ishl hx hb dX8_belowOf_80 ?_
            refine lv_ior hx hb dX8_belowOf_81 ?_
            refine lv_istore_n (lv' := [(3, .int (x3_16 ||| (1 <<< ((nI i_16) &&& 31)))), (7, .int 1), (6, .int (fp i_16)), (5, .int (nI i_16)), (4, .int x4_16), (0, .ref mo), (1, .int (nI tq)), (2, .int 0)]) hx hb dX8_belowOf_82 rfl hl (by decide) rfl (fun ls hl => ?_)
            refine lv_iconst (v := 1) hx hb dX8_belowOf_83 (by decide +kernel) ?_
            refine lv_istore (lv' := [(4, .int 1), (3, .int (x3_16 ||| (1 <<< ((nI i_16) &&& 31)))), (7, .int 1), (6, .int (fp i_16)), (5, .int (nI i_16)), (0, .ref mo), (1, .int (nI tq)), (2, .int 0)]) hx hb dX8_belowOf_84 hl (by decide) rfl (fun ls hl => ?_)
            refine lv_iinc (v := (nI (i_16 + 1))) (lv' := [(5, .int (nI (i_16 + 1))), (4, .int 1), (3, .int (x3_16 ||| (1 <<< ((nI i_16) &&& 31)))), (7, .int 1), (6, .int (fp i_16)), (0, .ref mo), (1, .int (nI tq)), (2, .int 0)]) hx hb dX8_belowOf_86 hl (k := 4) rfl (nI_1 _) (by decide) rfl (fun ls hl => ?_)
            refine lv_goto (tgt := 16) hx hb dX8_belowOf_89 (by decide) ?_
            exact ih_16 _ (by omega) _ _ _ ⟨(i_16 + 1), 1, (x3_16 ||| (1 <<< ((nI i_16) &&& 31))), by omega, (by first | exact (fun h => absurd h (by decide)) | exact (fun h => ⟨lt_s (hq_16 h).1 (by first | exact Or.inl c_41 | exact Or.inr ⟨c_51, c_58⟩), (hq_16 h).2⟩)), (by first | exact hu_16 | exact Nat.le_of_lt (Nat.lt_of_lt_of_le (mz_un_set c_41 (by omega) (by omega)) hu_16)), (by first | exact hv_16 | exact (fun _ => Nat.lt_of_lt_of_le (mz_un_set c_41 (by omega) (by omega)) hu_16)), (by first | exact hm_16 | exact mz_bs_add hn (by omega) hgb hm_16 (Or.inl c_51) | exact mz_bs_add hn (by omega) hgb hm_16 (Or.inr c_58)), rfl, hS, lv_sub hl [0, 1, 2, 5, 6, 7] rfl, rfl⟩
set_option maxHeartbeats 1000000 in
set_option maxRecDepth 100000 in
theorem mz_e_m_arrow (l : Launch) (dC : Nat → ClassId) (dI : Nat → Nat → Nat) (cI cJ cZ : ClassId) (mo : Nat) (m1 : Nat) (m2 : Nat) (m3 : Nat) (m6 : Nat) (m7 : Nat) (m8 : Nat) (m9 : Nat) (m10 : Nat) (m11 : Nat) (m12 : Nat) (m13 : Nat) (m14 : Nat) (m15 : Nat) (m16 : Nat) (n : Nat) (ka : Int64) (kb : Int64) (fp : Nat → Int32) (fb : Nat → Int32) (i : Nat) (j : Nat) (sz : Nat) (hn : n ≤ 8) (hi : i < n) (hj : j < n) (ha : mz_acy n fp) (hgb : ∀ k, k < n → ∀ j, j < 32 → mz_t (fp k) j = true → j < n) : Met l yX8_arrow wsX8_arrow ({ frames := 2, cells := 0, slots := 0, locals := 50 }) (va_Pc [.ref mo, .int (nI i), .int (nI j)] (fun U => U.heap.size = sz ∧ va_P (dC, dI) vwCl [(mo, .inr (8, [.int (nI n), .ref m1, .ref m2, .ref m3, .long ka, .long kb, .ref m6, .ref m7, .ref m8, .ref m9, .ref m10, .ref m11, .ref m12, .ref m13, .ref m14, .ref m15, .ref m16])), (m2, .inl (cI, 8, .inl fp)), (m3, .inl (cI, 1024, .inl fb))] U.heap ∧ va_K (dC, dI) vwCl [(cI, FieldType.int), (cJ, FieldType.long), (cZ, FieldType.boolean)] U ∧ va_D (fun _ => True) [(mo, .inr (8, [.int (nI n), .ref m1, .ref m2, .ref m3, .long ka, .long kb, .ref m6, .ref m7, .ref m8, .ref m9, .ref m10, .ref m11, .ref m12, .ref m13, .ref m14, .ref m15, .ref m16])), (m2, .inl (cI, 8, .inl fp)), (m3, .inl (cI, 1024, .inl fb))] ∧ mz_N U)) (va_Qi (fun (r : Int32) (_ : Unit) => (r = 1 ∧ mz_mcan n fp i j) ∨ (r = 0 ∧ mz_mcant n fp i j)) (fun _ t => ∃ (gp : Nat → Int32), ∃ (gb : Nat → Int32), (mz_acy n gp) ∧ (mz_mcan n fp i j → (gp = upd fp j ((fp j) ||| (1 <<< ((nI i) &&& 31))) ∧ mz_bkp fb gb j 128)) ∧ (mz_mcant n fp i j → (gp = fp ∧ gb = fb)) ∧ va_P (dC, dI) vwCl [(mo, .inr (8, [.int (nI n), .ref m1, .ref m2, .ref m3, .long ka, .long kb, .ref m6, .ref m7, .ref m8, .ref m9, .ref m10, .ref m11, .ref m12, .ref m13, .ref m14, .ref m15, .ref m16])), (m2, .inl (cI, 8, .inl gp)), (m3, .inl (cI, 1024, .inl gb))] t.heap ∧ va_D (va_A [(mo, .inr (8, [.int (nI n), .ref m1, .ref m2, .ref m3, .long ka, .long kb, .ref m6, .ref m7, .ref m8, .ref m9, .ref m10, .ref m11, .ref m12, .ref m13, .ref m14, .ref m15, .ref m16])), (m2, .inl (cI, 8, .inl fp)), (m3, .inl (cI, 1024, .inl fb))] sz) [(mo, .inr (8, [.int (nI n), .ref m1, .ref m2, .ref m3, .long ka, .long kb, .ref m6, .ref m7, .ref m8, .ref m9, .ref m10, .ref m11, .ref m12, .ref m13, .ref m14, .ref m15, .ref m16])), (m2, .inl (cI, 8, .inl gp)), (m3, .inl (cI, 1024, .inl gb))]) (va_A [(mo, .inr (8, [.int (nI n), .ref m1, .ref m2, .ref m3, .long ka, .long kb, .ref m6, .ref m7, .ref m8, .ref m9, .ref m10, .ref m11, .ref m12, .ref m13, .ref m14, .ref m15, .ref m16])), (m2, .inl (cI, 8, .inl fp)), (m3, .inl (cI, 1024, .inl fb))] sz)) 0 0 (va_A [(mo, .inr (8, [.int (nI n), .ref m1, .ref m2, .ref m3, .long ka, .long kb, .ref m6, .ref m7, .ref m8, .ref m9, .ref m10, .ref m11, .ref m12, .ref m13, .ref m14, .ref m15, .ref m16])), (m2, .inl (cI, 8, .inl fp)), (m3, .inl (cI, 1024, .inl fb))] sz) := by
  refine Met.ofW (cc := cX8_arrow) (maxL := 3) (ret := (some .boolean)) (by decide) rfl ?_
  intro p e s m args below meth c s₁ B hml hv
  obtain ⟨rfl, hsz, hP, hK, hD0, hN⟩ := hv
  subst hsz
  have hx := B.exec
  have hb := B.bytes
  have hr := B.returns
  have hts := atoms_spec (ws := wsX8_arrow) B.pre
  have hown : s.vm.findClass RX8 = some m.cls := findClass_of_methodNamed B.named
  have hlocks := B.notSynchronized
  have hD := hD0.self (sz := s.heap.size)
  generalize hAe : va_A [(mo, .inr (8, [.int (nI n), .ref m1, .ref m2, .ref m3, .long ka, .long kb, .ref m6, .ref m7, .ref m8, .ref m9, .ref m10, .ref m11, .ref m12, .ref m13, .ref m14, .ref m15, .ref m16])), (m2, .inl (cI, 8, .inl fp)), (m3, .inl (cI, 1024, .inl fb))] s.heap.size = A at hD ⊢
  have hA : ∀ q : Nat, s.heap.size ≤ q → A q := fun q h => by rw [← hAe]; exact Or.inr h
  have hS : va_S A s.heap s.heap [] := va_S.rf
  have hiX8 : ∀ w ∈ u_ws RX8 TX8 17, w ∈ wsX8_arrow := by decide +kernel
  have hl := lv_entry ([.ref mo, .int (nI i), .int (nI j)]) (n := 3) (Nat.le_of_ble_eq_true rfl)
  rw [lg_entry_eq]
  generalize (lg_sl ([.ref mo, .int (nI i), .int (nI j)]) ++ List.replicate (3 - (lg_sl ([.ref mo, .int (nI i), .int (nI j)])).length) Slot.unset).toArray = ls at hl ⊢
  have hl : lv_has ls 3 [(0, .ref mo), (1, .int (nI i)), (2, .int (nI j))] := hl
  refine lv_aload_n hx hb dX8_arrow_0 rfl (lv_at hl 0 rfl) ?_
  refine lv_iload_n hx hb dX8_arrow_1 rfl (lv_at hl 1 rfl) ?_
  have hPc := hP.sub (ws' := [(mo, .inr (8, [.int (nI n), .ref m1, .ref m2, .ref m3, .long ka, .long kb, .ref m6, .ref m7, .ref m8, .ref m9, .ref m10, .ref m11, .ref m12, .ref m13, .ref m14, .ref m15, .ref m16]))]) [0] rfl
  refine va_calli (va_runV (As := [.int (nI i)]) (rest := []) ⟨hx, hb, hml, hown, hts⟩ (mz_m_isThing_in l dC dI cI cJ cZ mo m1 m2 m3 m6 m7 m8 m9 m10 m11 m12 m13 m14 m15 m16 n ka kb i s.heap (by first | assumption | omega) (by first | assumption | omega)) (cwV 1 hts gX8_arrow_X8_isThing rfl rfl rfl (by decide +kernel) ⟨Nat.le_of_ble_eq_true rfl, Nat.le_of_ble_eq_true rfl⟩) ⟨fun a U g mk q => mz_blP q, va_recv hK hPc (ci := 8) (q0 := 0) rfl rfl, fun U hU hW => ⟨rfl, hU, hPc, va_K.moved hW.alike hK, mz_nw hW hN⟩⟩ rfl rfl hl.1 rfl (lv_room (Nat.le_of_ble_eq_true rfl)) dX8_arrow_2 ⟨Nat.le_of_ble_eq_true rfl, Nat.le_of_ble_eq_true rfl⟩) hS (fun q _ h => h.elim) (fun q h => h.elim) (fun r_2 u t H1 locs ht hvm hw_2 hB hz1 hk1 hS => ?_)
  have hE : s.heap = H1 := hB.symm.trans ht
  subst hE
  obtain rfl : r_2 = 1 := hw_2
  refine lv_if_eq (tgt := 53) hx hb dX8_arrow_5 (by decide) (fun c_5 => absurd c_5 (by decide +kernel)) (fun _ => ?_)
  refine lv_aload_n hx hb dX8_arrow_8 rfl (lv_at hl 0 rfl) ?_
  refine lv_iload_n hx hb dX8_arrow_9 rfl (lv_at hl 2 rfl) ?_
  have hPc := hP.sub (ws' := [(mo, .inr (8, [.int (nI n), .ref m1, .ref m2, .ref m3, .long ka, .long kb, .ref m6, .ref m7, .ref m8, .ref m9, .ref m10, .ref m11, .ref m12, .ref m13, .ref m14, .ref m15, .ref m16]))]) [0] rfl
  refine va_calli (va_runV (As := [.int (nI j)]) (rest := []) ⟨hx, hb, hml, hown, hts⟩ (mz_m_isThing_in l dC dI cI cJ cZ mo m1 m2 m3 m6 m7 m8 m9 m10 m11 m12 m13 m14 m15 m16 n ka kb j s.heap (by first | assumption | omega) (by first | assumption | omega)) (cwV 1 hts gX8_arrow_X8_isThing rfl rfl rfl (by decide +kernel) ⟨Nat.le_of_ble_eq_true rfl, Nat.le_of_ble_eq_true rfl⟩) ⟨fun a U g mk q => mz_blP q, va_recv hK hPc (ci := 8) (q0 := 0) rfl rfl, fun U hU hW => ⟨rfl, hU, hPc, va_K.moved hW.alike hK, mz_nw hW hN⟩⟩ rfl rfl hl.1 rfl (lv_room (Nat.le_of_ble_eq_true rfl)) dX8_arrow_10 ⟨Nat.le_of_ble_eq_true rfl, Nat.le_of_ble_eq_true rfl⟩) hS (fun q _ h => h.elim) (fun q h => h.elim) (fun r_10 u t H1 locs ht hvm hw_10 hB hz1 hk1 hS => ?_)
  have hE : s.heap = H1 := hB.symm.trans ht
  subst hE
  obtain rfl : r_10 = 1 := hw_10
  refine lv_if_eq (tgt := 53) hx hb dX8_arrow_13 (by decide) (fun c_13 => absurd c_13 (by decide +kernel)) (fun _ => ?_)
  refine lv_iload_n hx hb dX8_arrow_16 rfl (lv_at hl 1 rfl) ?_
  refine lv_iload_n hx hb dX8_arrow_17 rfl (lv_at hl 2 rfl) ?_
  refine lv_icmp_eq (tgt := 53) hx hb dX8_arrow_18 (by decide) (fun c_18 => ?_) (fun c_18 => ?_)
  · skip
    have d_18 : i = j := (nI_eq (a := i) (b := j) (by omega) (by omega)).mp c_18
    refine lv_iconst (v := 0) hx hb dX8_arrow_53 (by decide +kernel) ?_
    have hP9 := hP.sub (ws' := [(mo, .inr (8, [.int (nI n), .ref m1, .ref m2, .ref m3, .long ka, .long kb, .ref m6, .ref m7, .ref m8, .ref m9, .ref m10, .ref m11, .ref m12, .ref m13, .ref m14, .ref m15, .ref m16])), (m2, .inl (cI, 8, .inl fp)), (m3, .inl (cI, 1024, .inl fb))]) [0, 1, 2] rfl
    have hD9 := hD.sub (ws' := [(mo, .inr (8, [.int (nI n), .ref m1, .ref m2, .ref m3, .long ka, .long kb, .ref m6, .ref m7, .ref m8, .ref m9, .ref m10, .ref m11, .ref m12, .ref m13, .ref m14, .ref m15, .ref m16])), (m2, .inl (cI, 8, .inl fp)), (m3, .inl (cI, 1024, .inl fb))]) [0, 1, 2] (by decide) rfl
    refine W.widen (k := 0) (n := 0) (Nat.le_of_ble_eq_true rfl) (Nat.le_of_ble_eq_true rfl) ?_
    exact W.zret (v := 0) hx hb hr (mz_nz (by decide +kernel)) (fun t ht hW => ⟨⟨0, (), rfl, Or.inr ⟨rfl, (Or.inl d_18)⟩, fp, fb, ha, (fun h => (mz_mexcl hi h (Or.inl d_18)).elim), (fun _ => ⟨rfl, rfl⟩), by rw [ht]; exact hP9, hD9⟩, hS.F ht⟩) hS.2.2 dX8_arrow_54
  · skip
    have d_18 : ¬ i = j := fun h => c_18 ((nI_eq (a := i) (b := j) (by omega) (by omega)).mpr h)
    refine lv_aload_n hx hb dX8_arrow_21 rfl (lv_at hl 0 rfl) ?_
    refine lv_iload_n hx hb dX8_arrow_22 rfl (lv_at hl 1 rfl) ?_
    refine lv_iload_n hx hb dX8_arrow_23 rfl (lv_at hl 2 rfl) ?_
    have hPc := hP.sub (ws' := [(mo, .inr (8, [.int (nI n), .ref m1, .ref m2, .ref m3, .long ka, .long kb, .ref m6, .ref m7, .ref m8, .ref m9, .ref m10, .ref m11, .ref m12, .ref m13, .ref m14, .ref m15, .ref m16])), (m2, .inl (cI, 8, .inl fp))]) [0, 1] rfl
    refine va_calli (va_runV (As := [.int (nI i), .int (nI j)]) (rest := []) ⟨hx, hb, hml, hown, hts⟩ (mz_e_m_has l dC dI cI cJ cZ mo m1 m2 m3 m6 m7 m8 m9 m10 m11 m12 m13 m14 m15 m16 n ka kb fp i j s.heap (by first | assumption | omega) (by first | assumption | omega) (by first | assumption | omega)) (cwV 2 hts gX8_arrow_X8_has rfl rfl rfl (by decide +kernel) ⟨Nat.le_of_ble_eq_true rfl, Nat.le_of_ble_eq_true rfl⟩) ⟨fun a U g mk q => mz_blP q, va_recv hK hPc (ci := 8) (q0 := 0) rfl rfl, fun U hU hW => ⟨rfl, hU, hPc, va_K.moved hW.alike hK, mz_nw hW hN⟩⟩ rfl rfl hl.1 rfl (lv_room (Nat.le_of_ble_eq_true rfl)) dX8_arrow_24 ⟨Nat.le_of_ble_eq_true rfl, Nat.le_of_ble_eq_true rfl⟩) hS (fun q _ h => h.elim) (fun q h => h.elim) (fun r_24 u t H1 locs ht hvm hw_24 hB hz1 hk1 hS => ?_)
    have hE : s.heap = H1 := hB.symm.trans ht
    subst hE
    rcases (show (r_24 = 1 ∧ mz_t (fp j) i = true) ∨ (r_24 = 0 ∧ mz_t (fp j) i = false) from hw_24) with ⟨rfl, ht_24⟩ | ⟨rfl, ht_24⟩
    · skip
      refine lv_if_ne (tgt := 53) hx hb dX8_arrow_27 (by decide) (fun _ => ?_) (fun c_27 => absurd c_27 (by decide +kernel))
      refine lv_iconst (v := 0) hx hb dX8_arrow_53 (by decide +kernel) ?_
      have hP9 := hP.sub (ws' := [(mo, .inr (8, [.int (nI n), .ref m1, .ref m2, .ref m3, .long ka, .long kb, .ref m6, .ref m7, .ref m8, .ref m9, .ref m10, .ref m11, .ref m12, .ref m13, .ref m14, .ref m15, .ref m16])), (m2, .inl (cI, 8, .inl fp)), (m3, .inl (cI, 1024, .inl fb))]) [0, 1, 2] rfl
      have hD9 := hD.sub (ws' := [(mo, .inr (8, [.int (nI n), .ref m1, .ref m2, .ref m3, .long ka, .long kb, .ref m6, .ref m7, .ref m8, .ref m9, .ref m10, .ref m11, .ref m12, .ref m13, .ref m14, .ref m15, .ref m16])), (m2, .inl (cI, 8, .inl fp)), (m3, .inl (cI, 1024, .inl fb))]) [0, 1, 2] (by decide) rfl
      refine W.widen (k := 0) (n := 0) (Nat.le_of_ble_eq_true rfl) (Nat.le_of_ble_eq_true rfl) ?_
      exact W.zret (v := 0) hx hb hr (mz_nz (by decide +kernel)) (fun t ht hW => ⟨⟨0, (), rfl, Or.inr ⟨rfl, (Or.inr (Or.inl ht_24))⟩, fp, fb, ha, (fun h => (mz_mexcl hi h (Or.inr (Or.inl ht_24))).elim), (fun _ => ⟨rfl, rfl⟩), by rw [ht]; exact hP9, hD9⟩, hS.F ht⟩) hS.2.2 dX8_arrow_54
    · skip
      refine lv_if_ne (tgt := 53) hx hb dX8_arrow_27 (by decide) (fun c_27 => absurd (by decide +kernel) c_27) (fun _ => ?_)
      refine lv_aload_n hx hb dX8_arrow_30 rfl (lv_at hl 0 rfl) ?_
      refine lv_iload_n hx hb dX8_arrow_31 rfl (lv_at hl 2 rfl) ?_
      refine lv_iload_n hx hb dX8_arrow_32 rfl (lv_at hl 1 rfl) ?_
      have hPc := hP.sub (ws' := [(mo, .inr (8, [.int (nI n), .ref m1, .ref m2, .ref m3, .long ka, .long kb, .ref m6, .ref m7, .ref m8, .ref m9, .ref m10, .ref m11, .ref m12, .ref m13, .ref m14, .ref m15, .ref m16])), (m2, .inl (cI, 8, .inl fp))]) [0, 1] rfl
      refine va_calli (va_runV (As := [.int (nI j), .int (nI i)]) (rest := []) ⟨hx, hb, hml, hown, hts⟩ (mz_e_m_has l dC dI cI cJ cZ mo m1 m2 m3 m6 m7 m8 m9 m10 m11 m12 m13 m14 m15 m16 n ka kb fp j i s.heap (by first | assumption | omega) (by first | assumption | omega) (by first | assumption | omega)) (cwV 2 hts gX8_arrow_X8_has rfl rfl rfl (by decide +kernel) ⟨Nat.le_of_ble_eq_true rfl, Nat.le_of_ble_eq_true rfl⟩) ⟨fun a U g mk q => mz_blP q, va_recv hK hPc (ci := 8) (q0 := 0) rfl rfl, fun U hU hW => ⟨rfl, hU, hPc, va_K.moved hW.alike hK, mz_nw hW hN⟩⟩ rfl rfl hl.1 rfl (lv_room (Nat.le_of_ble_eq_true rfl)) dX8_arrow_33 ⟨Nat.le_of_ble_eq_true rfl, Nat.le_of_ble_eq_true rfl⟩) hS (fun q _ h => h.elim) (fun q h => h.elim) (fun r_33 u t H1 locs ht hvm hw_33 hB hz1 hk1 hS => ?_)
      have hE : s.heap = H1 := hB.symm.trans ht
      subst hE
      rcases (show (r_33 = 1 ∧ mz_t (fp i) j = true) ∨ (r_33 = 0 ∧ mz_t (fp i) j = false) from hw_33) with ⟨rfl, ht_33⟩ | ⟨rfl, ht_33⟩
      · skip
        refine lv_if_ne (tgt := 53) hx hb dX8_arrow_36 (by decide) (fun _ => ?_) (fun c_36 => absurd c_36 (by decide +kernel))
        refine lv_iconst (v := 0) hx hb dX8_arrow_53 (by decide +kernel) ?_
        have hP9 := hP.sub (ws' := [(mo, .inr (8, [.int (nI n), .ref m1, .ref m2, .ref m3, .long ka, .long kb, .ref m6, .ref m7, .ref m8, .ref m9, .ref m10, .ref m11, .ref m12, .ref m13, .ref m14, .ref m15, .ref m16])), (m2, .inl (cI, 8, .inl fp)), (m3, .inl (cI, 1024, .inl fb))]) [0, 1, 2] rfl
        have hD9 := hD.sub (ws' := [(mo, .inr (8, [.int (nI n), .ref m1, .ref m2, .ref m3, .long ka, .long kb, .ref m6, .ref m7, .ref m8, .ref m9, .ref m10, .ref m11, .ref m12, .ref m13, .ref m14, .ref m15, .ref m16])), (m2, .inl (cI, 8, .inl fp)), (m3, .inl (cI, 1024, .inl fb))]) [0, 1, 2] (by decide) rfl
        refine W.widen (k := 0) (n := 0) (Nat.le_of_ble_eq_true rfl) (Nat.le_of_ble_eq_true rfl) ?_
        exact W.zret (v := 0) hx hb hr (mz_nz (by decide +kernel)) (fun t ht hW => ⟨⟨0, (), rfl, Or.inr ⟨rfl, (Or.inr (Or.inr (Or.inl ht_33)))⟩, fp, fb, ha, (fun h => (mz_mexcl hi h (Or.inr (Or.inr (Or.inl ht_33)))).elim), (fun _ => ⟨rfl, rfl⟩), by rw [ht]; exact hP9, hD9⟩, hS.F ht⟩) hS.2.2 dX8_arrow_54
      · skip
        refine lv_if_ne (tgt := 53) hx hb dX8_arrow_36 (by decide) (fun c_36 => absurd (by decide +kernel) c_36) (fun _ => ?_)
        refine lv_aload_n hx hb dX8_arrow_39 rfl (lv_at hl 0 rfl) ?_
        refine lv_iload_n hx hb dX8_arrow_40 rfl (lv_at hl 2 rfl) ?_
        refine lv_iconst (v := 0) hx hb dX8_arrow_41 (by decide +kernel) ?_
        have hPc := hP.sub (ws' := [(mo, .inr (8, [.int (nI n), .ref m1, .ref m2, .ref m3, .long ka, .long kb, .ref m6, .ref m7, .ref m8, .ref m9, .ref m10, .ref m11, .ref m12, .ref m13, .ref m14, .ref m15, .ref m16])), (m2, .inl (cI, 8, .inl fp))]) [0, 1] rfl
        refine va_calli (va_runV (As := [.int (nI j), .int 0]) (rest := []) ⟨hx, hb, hml, hown, hts⟩ (mz_e_m_belowOf l dC dI cI cJ cZ mo m1 m2 m3 m6 m7 m8 m9 m10 m11 m12 m13 m14 m15 m16 n ka kb fp j s.heap (by first | assumption | omega) (by first | assumption | omega)) (cwV 2 hts gX8_arrow_X8_belowOf rfl rfl rfl (by decide +kernel) ⟨Nat.le_of_ble_eq_true rfl, Nat.le_of_ble_eq_true rfl⟩) ⟨fun a U g mk q => mz_blP q, va_recv hK hPc (ci := 8) (q0 := 0) rfl rfl, fun U hU hW => ⟨rfl, hU, hPc, va_K.moved hW.alike hK, mz_nw hW hN⟩⟩ rfl rfl hl.1 rfl (lv_room (Nat.le_of_ble_eq_true rfl)) dX8_arrow_42 ⟨Nat.le_of_ble_eq_true rfl, Nat.le_of_ble_eq_true rfl⟩) hS (fun q _ h => h.elim) (fun q h => h.elim) (fun r_42 u t H1 locs ht hvm hw_42 hB hz1 hk1 hS => ?_)
        have hE : s.heap = H1 := hB.symm.trans ht
        subst hE
        refine lv_iload_n hx hb dX8_arrow_45 rfl (lv_at hl 1 rfl) ?_
        refine lv_ishr hx hb dX8_arrow_46 ?_
        refine lv_iconst (v := 1) hx hb dX8_arrow_47 (by decide +kernel) ?_
        refine lv_iand hx hb dX8_arrow_48 ?_
        refine lv_iconst (v := 1) hx hb dX8_arrow_49 (by decide +kernel) ?_
        refine lv_icmp_ne (tgt := 55) hx hb dX8_arrow_50 (by decide) (fun c_50 => ?_) (fun c_50 => ?_)
        · skip
          refine lv_aload_n hx hb dX8_arrow_55 rfl (lv_at hl 0 rfl) ?_
          refine va_get (D := (dC, dI)) (ci := 8) (v := .ref m2) (C := RX8) (T := TX8) (N := 17) hx hb hts hiX8 hown hK hP 0 rfl rfl 2 (by decide) (hts (.fieldLink RX8 13 "MadeItSoModel" "parents" "[I") (by decide +kernel)) (fun _ h9 => h9) rfl dX8_arrow_56 ?_
          refine lv_iload_n hx hb dX8_arrow_59 rfl (lv_at hl 2 rfl) ?_
          refine lv_dup2_11 hx hb dX8_arrow_60 rfl rfl ?_
          refine va_iald hx hb hK hP 1 0 rfl rfl (vp_in_nI (by omega) (by omega)) dX8_arrow_61 ?_
          refine mz_ti (y := (fp j)) (by rw [mz_cl (by omega)]) ?_
          refine lv_iconst (v := 1) hx hb dX8_arrow_62 (by decide +kernel) ?_
          refine lv_iload_n hx hb dX8_arrow_63 rfl (lv_at hl 1 rfl) ?_
          refine lv_ishl hx hb dX8_arrow_64 ?_
          refine lv_ior hx hb dX8_arrow_65 ?_
          refine va_iast hx hb hK hP hD hS 1 0 rfl rfl (vp_in_nI (by omega) (by omega)) dX8_arrow_66 (fun H locs hP hD hS => ?_)
          rw [mz_cl (n := j) (by omega)] at hP hD
          have hP : va_P (dC, dI) vwCl [(mo, .inr (8, [.int (nI n), .ref m1, .ref m2, .ref m3, .long ka, .long kb, .ref m6, .ref m7, .ref m8, .ref m9, .ref m10, .ref m11, .ref m12, .ref m13, .ref m14, .ref m15, .ref m16])), (m2, .inl (cI, 8, .inl (upd fp j ((fp j) ||| (1 <<< ((nI i) &&& 31)))))), (m3, .inl (cI, 1024, .inl fb))] H := hP
          have hD : va_D A [(mo, .inr (8, [.int (nI n), .ref m1, .ref m2, .ref m3, .long ka, .long kb, .ref m6, .ref m7, .ref m8, .ref m9, .ref m10, .ref m11, .ref m12, .ref m13, .ref m14, .ref m15, .ref m16])), (m2, .inl (cI, 8, .inl (upd fp j ((fp j) ||| (1 <<< ((nI i) &&& 31)))))), (m3, .inl (cI, 1024, .inl fb))] := hD
          refine lv_aload_n hx hb dX8_arrow_67 rfl (lv_at hl 0 rfl) ?_
          refine lv_iload_n hx hb dX8_arrow_68 rfl (lv_at hl 2 rfl) ?_
          have hPc := hP.sub (ws' := [(mo, .inr (8, [.int (nI n), .ref m1, .ref m2, .ref m3, .long ka, .long kb, .ref m6, .ref m7, .ref m8, .ref m9, .ref m10, .ref m11, .ref m12, .ref m13, .ref m14, .ref m15, .ref m16])), (m3, .inl (cI, 1024, .inl fb))]) [0, 2] rfl
          have hDc := hD.sub (ws' := [(mo, .inr (8, [.int (nI n), .ref m1, .ref m2, .ref m3, .long ka, .long kb, .ref m6, .ref m7, .ref m8, .ref m9, .ref m10, .ref m11, .ref m12, .ref m13, .ref m14, .ref m15, .ref m16])), (m3, .inl (cI, 1024, .inl fb))]) [0, 2] (by decide) rfl
          have hFc := va_free (wc := [(mo, .inr (8, [.int (nI n), .ref m1, .ref m2, .ref m3, .long ka, .long kb, .ref m6, .ref m7, .ref m8, .ref m9, .ref m10, .ref m11, .ref m12, .ref m13, .ref m14, .ref m15, .ref m16])), (m3, .inl (cI, 1024, .inl fb))]) hD hS hA [0, 2] rfl
          refine va_callv (va_runV (As := [.int (nI j)]) (rest := []) ⟨hx, hb, hml, hown, hts⟩ (mz_e_m_fresh l dC dI cI cJ cZ mo m1 m2 m3 m6 m7 m8 m9 m10 m11 m12 m13 m14 m15 m16 n ka kb fb j H.size (by first | assumption | omega)) (cwV 1 hts gX8_arrow_X8_fresh rfl rfl rfl (by decide +kernel) ⟨Nat.le_of_ble_eq_true rfl, Nat.le_of_ble_eq_true rfl⟩) ⟨fun a U g mk q => mz_blI q, va_recv hK hPc (ci := 8) (q0 := 0) rfl rfl, fun U hU hW => ⟨rfl, by rw [hU], by rw [hU]; exact hPc, va_K.moved hW.alike hK, hDc.weaken (fun _ _ _ _ => trivial), mz_nw hW hN⟩⟩ rfl rfl hl.1 rfl (lv_room (Nat.le_of_ble_eq_true rfl)) dX8_arrow_69 ⟨Nat.le_of_ble_eq_true rfl, Nat.le_of_ble_eq_true rfl⟩) hS (fun q _ h => hFc q h) hFc (fun u t H1 locs ht hvm hw_69 hB hz1 hk1 hS => ?_)
          obtain ⟨gb_69, hx0_69, hP1, hD1⟩ := hB
          rw [ht] at hP1
          obtain ⟨hP, hD⟩ := va_join (wr := [(m2, .inl (cI, 8, .inl (upd fp j ((fp j) ||| (1 <<< ((nI i) &&& 31))))))]) (w1 := [(mo, .inr (8, [.int (nI n), .ref m1, .ref m2, .ref m3, .long ka, .long kb, .ref m6, .ref m7, .ref m8, .ref m9, .ref m10, .ref m11, .ref m12, .ref m13, .ref m14, .ref m15, .ref m16])), (m3, .inl (cI, 1024, .inl gb_69))]) hP hD [0, 2] [1] rfl rfl (by decide) (by decide) hk1 hFc hP1 hD1
          generalize H1 = H at hP hS ⊢
          have hP : va_P (dC, dI) vwCl [(m2, .inl (cI, 8, .inl (upd fp j ((fp j) ||| (1 <<< ((nI i) &&& 31)))))), (mo, .inr (8, [.int (nI n), .ref m1, .ref m2, .ref m3, .long ka, .long kb, .ref m6, .ref m7, .ref m8, .ref m9, .ref m10, .ref m11, .ref m12, .ref m13, .ref m14, .ref m15, .ref m16])), (m3, .inl (cI, 1024, .inl gb_69))] H := hP
          have hD : va_D A [(m2, .inl (cI, 8, .inl (upd fp j ((fp j) ||| (1 <<< ((nI i) &&& 31)))))), (mo, .inr (8, [.int (nI n), .ref m1, .ref m2, .ref m3, .long ka, .long kb, .ref m6, .ref m7, .ref m8, .ref m9, .ref m10, .ref m11, .ref m12, .ref m13, .ref m14, .ref m15, .ref m16])), (m3, .inl (cI, 1024, .inl gb_69))] := hD
          refine lv_iconst (v := 1) hx hb dX8_arrow_72 (by decide +kernel) ?_
          have hP9 := hP.sub (ws' := [(mo, .inr (8, [.int (nI n), .ref m1, .ref m2, .ref m3, .long ka, .long kb, .ref m6, .ref m7, .ref m8, .ref m9, .ref m10, .ref m11, .ref m12, .ref m13, .ref m14, .ref m15, .ref m16])), (m2, .inl (cI, 8, .inl (upd fp j ((fp j) ||| (1 <<< ((nI i) &&& 31)))))), (m3, .inl (cI, 1024, .inl gb_69))]) [1, 0, 2] rfl
          have hD9 := hD.sub (ws' := [(mo, .inr (8, [.int (nI n), .ref m1, .ref m2, .ref m3, .long ka, .long kb, .ref m6, .ref m7, .ref m8, .ref m9, .ref m10, .ref m11, .ref m12, .ref m13, .ref m14, .ref m15, .ref m16])), (m2, .inl (cI, 8, .inl (upd fp j ((fp j) ||| (1 <<< ((nI i) &&& 31)))))), (m3, .inl (cI, 1024, .inl gb_69))]) [1, 0, 2] (by decide) rfl
          refine W.widen (k := 0) (n := 0) (Nat.le_of_ble_eq_true rfl) (Nat.le_of_ble_eq_true rfl) ?_
          exact W.zret (v := 1) hx hb hr (mz_nz (by decide +kernel)) (fun t ht hW => ⟨⟨1, (), rfl, Or.inl ⟨rfl, d_18, ht_24, ht_33, _, hw_42, mz_t_n (by omega) c_50⟩, (upd fp j ((fp j) ||| (1 <<< ((nI i) &&& 31)))), gb_69, (mz_acy_add (by omega) hi hj (fun e => d_18 e) ha hw_42.1 c_50 (fun k hk hne2 => pk_un hne2) pk_us), (fun _ => ⟨rfl, hx0_69⟩), (fun h => (mz_mexcl hi ⟨d_18, ht_24, ht_33, _, hw_42, mz_t_n (by omega) c_50⟩ h).elim), by rw [ht]; exact hP9, hD9⟩, hS.F ht⟩) hS.2.2 dX8_arrow_73
        · skip
          refine lv_iconst (v := 0) hx hb dX8_arrow_53 (by decide +kernel) ?_
          have hP9 := hP.sub (ws' := [(mo, .inr (8, [.int (nI n), .ref m1, .ref m2, .ref m3, .long ka, .long kb, .ref m6, .ref m7, .ref m8, .ref m9, .ref m10, .ref m11, .ref m12, .ref m13, .ref m14, .ref m15, .ref m16])), (m2, .inl (cI, 8, .inl fp)), (m3, .inl (cI, 1024, .inl fb))]) [0, 1, 2] rfl
          have hD9 := hD.sub (ws' := [(mo, .inr (8, [.int (nI n), .ref m1, .ref m2, .ref m3, .long ka, .long kb, .ref m6, .ref m7, .ref m8, .ref m9, .ref m10, .ref m11, .ref m12, .ref m13, .ref m14, .ref m15, .ref m16])), (m2, .inl (cI, 8, .inl fp)), (m3, .inl (cI, 1024, .inl fb))]) [0, 1, 2] (by decide) rfl
          refine W.widen (k := 0) (n := 0) (Nat.le_of_ble_eq_true rfl) (Nat.le_of_ble_eq_true rfl) ?_
          exact W.zret (v := 0) hx hb hr (mz_nz (by decide +kernel)) (fun t ht hW => ⟨⟨0, (), rfl, Or.inr ⟨rfl, (Or.inr (Or.inr (Or.inr ⟨_, hw_42, mz_t_y (by omega) c_50⟩)))⟩, fp, fb, ha, (fun h => (mz_mexcl hi h (Or.inr (Or.inr (Or.inr ⟨_, hw_42, mz_t_y (by omega) c_50⟩)))).elim), (fun _ => ⟨rfl, rfl⟩), by rw [ht]; exact hP9, hD9⟩, hS.F ht⟩) hS.2.2 dX8_arrow_54
set_option maxHeartbeats 1000000 in
set_option maxRecDepth 100000 in
theorem mz_e_m_arrow_out (l : Launch) (dC : Nat → ClassId) (dI : Nat → Nat → Nat) (cI cJ cZ : ClassId) (mo : Nat) (m1 : Nat) (m2 : Nat) (m3 : Nat) (m6 : Nat) (m7 : Nat) (m8 : Nat) (m9 : Nat) (m10 : Nat) (m11 : Nat) (m12 : Nat) (m13 : Nat) (m14 : Nat) (m15 : Nat) (m16 : Nat) (n : Nat) (ka : Int64) (kb : Int64) (p1 : Int32) (p2 : Int32) (Hq : Heap) (hn : n ≤ 8) (hout : ¬ ∃ i j : Nat, i < n ∧ j < n ∧ p1 = nI i ∧ p2 = nI j) : Met l yX8_arrow wsX8_arrow ({ frames := 1, cells := 0, slots := 0, locals := 21 }) (va_Pc [.ref mo, .int p1, .int p2] (fun U => U.heap = Hq ∧ va_P (dC, dI) vwCl [(mo, .inr (8, [.int (nI n), .ref m1, .ref m2, .ref m3, .long ka, .long kb, .ref m6, .ref m7, .ref m8, .ref m9, .ref m10, .ref m11, .ref m12, .ref m13, .ref m14, .ref m15, .ref m16]))] Hq ∧ va_K (dC, dI) vwCl [(cI, FieldType.int), (cJ, FieldType.long), (cZ, FieldType.boolean)] U ∧ mz_N U)) (va_Qi (fun (r : Int32) (_ : Unit) => r = 0) (fun _ t => t.heap = Hq) (fun _ : Nat => False)) 0 0 (fun _ : Nat => False) := by
  refine Met.ofW (cc := cX8_arrow) (maxL := 3) (ret := (some .boolean)) (by decide) rfl ?_
  intro p e s m args below meth c s₁ B hml hv
  obtain ⟨rfl, hH, hP, hK, hN⟩ := hv
  subst hH
  have hx := B.exec
  have hb := B.bytes
  have hr := B.returns
  have hts := atoms_spec (ws := wsX8_arrow) B.pre
  have hown : s.vm.findClass RX8 = some m.cls := findClass_of_methodNamed B.named
  have hlocks := B.notSynchronized
  have hS : va_S (fun _ : Nat => False) s.heap s.heap [] := va_S.rf
  have hl := lv_entry ([.ref mo, .int p1, .int p2]) (n := 3) (Nat.le_of_ble_eq_true rfl)
  rw [lg_entry_eq]
  generalize (lg_sl ([.ref mo, .int p1, .int p2]) ++ List.replicate (3 - (lg_sl ([.ref mo, .int p1, .int p2])).length) Slot.unset).toArray = ls at hl ⊢
  have hl : lv_has ls 3 [(0, .ref mo), (1, .int p1), (2, .int p2)] := hl
  refine lv_aload_n hx hb dX8_arrow_0 rfl (lv_at hl 0 rfl) ?_
  refine lv_iload_n hx hb dX8_arrow_1 rfl (lv_at hl 1 rfl) ?_
  have hPc := hP.sub (ws' := [(mo, .inr (8, [.int (nI n), .ref m1, .ref m2, .ref m3, .long ka, .long kb, .ref m6, .ref m7, .ref m8, .ref m9, .ref m10, .ref m11, .ref m12, .ref m13, .ref m14, .ref m15, .ref m16]))]) [0] rfl
  refine va_calli (va_runV (As := [.int p1]) (rest := []) ⟨hx, hb, hml, hown, hts⟩ (mz_m_isThing l dC dI cI cJ cZ mo m1 m2 m3 m6 m7 m8 m9 m10 m11 m12 m13 m14 m15 m16 n ka kb p1 s.heap (by first | assumption | omega)) (cwV 1 hts gX8_arrow_X8_isThing rfl rfl rfl (by decide +kernel) ⟨Nat.le_of_ble_eq_true rfl, Nat.le_of_ble_eq_true rfl⟩) ⟨fun a U g mk q => mz_blP q, va_recv hK hPc (ci := 8) (q0 := 0) rfl rfl, fun U hU hW => ⟨rfl, hU, hPc, va_K.moved hW.alike hK, mz_nw hW hN⟩⟩ rfl rfl hl.1 rfl (lv_room (Nat.le_of_ble_eq_true rfl)) dX8_arrow_2 ⟨Nat.le_of_ble_eq_true rfl, Nat.le_of_ble_eq_true rfl⟩) hS (fun q _ h => h.elim) (fun q h => h.elim) (fun r_2 u t H1 locs ht hvm hw_2 hB hz1 hk1 hS => ?_)
  have hE : s.heap = H1 := hB.symm.trans ht
  subst hE
  rcases (show (r_2 = 1 ∧ ∃ j : Nat, j < n ∧ p1 = nI j) ∨ r_2 = 0 from hw_2) with ⟨rfl, j_2, hj_2, he_2⟩ | rfl
  · skip
    subst he_2
    refine lv_if_eq (tgt := 53) hx hb dX8_arrow_5 (by decide) (fun c_5 => absurd c_5 (by decide +kernel)) (fun _ => ?_)
    refine lv_aload_n hx hb dX8_arrow_8 rfl (lv_at hl 0 rfl) ?_
    refine lv_iload_n hx hb dX8_arrow_9 rfl (lv_at hl 2 rfl) ?_
    have hPc := hP.sub (ws' := [(mo, .inr (8, [.int (nI n), .ref m1, .ref m2, .ref m3, .long ka, .long kb, .ref m6, .ref m7, .ref m8, .ref m9, .ref m10, .ref m11, .ref m12, .ref m13, .ref m14, .ref m15, .ref m16]))]) [0] rfl
    refine va_calli (va_runV (As := [.int p2]) (rest := []) ⟨hx, hb, hml, hown, hts⟩ (mz_m_isThing l dC dI cI cJ cZ mo m1 m2 m3 m6 m7 m8 m9 m10 m11 m12 m13 m14 m15 m16 n ka kb p2 s.heap (by first | assumption | omega)) (cwV 1 hts gX8_arrow_X8_isThing rfl rfl rfl (by decide +kernel) ⟨Nat.le_of_ble_eq_true rfl, Nat.le_of_ble_eq_true rfl⟩) ⟨fun a U g mk q => mz_blP q, va_recv hK hPc (ci := 8) (q0 := 0) rfl rfl, fun U hU hW => ⟨rfl, hU, hPc, va_K.moved hW.alike hK, mz_nw hW hN⟩⟩ rfl rfl hl.1 rfl (lv_room (Nat.le_of_ble_eq_true rfl)) dX8_arrow_10 ⟨Nat.le_of_ble_eq_true rfl, Nat.le_of_ble_eq_true rfl⟩) hS (fun q _ h => h.elim) (fun q h => h.elim) (fun r_10 u t H1 locs ht hvm hw_10 hB hz1 hk1 hS => ?_)
    have hE : s.heap = H1 := hB.symm.trans ht
    subst hE
    rcases (show (r_10 = 1 ∧ ∃ j : Nat, j < n ∧ p2 = nI j) ∨ r_10 = 0 from hw_10) with ⟨rfl, j_10, hj_10, he_10⟩ | rfl
    · skip
      subst he_10
      refine lv_if_eq (tgt := 53) hx hb dX8_arrow_13 (by decide) (fun c_13 => absurd c_13 (by decide +kernel)) (fun _ => ?_)
      exact absurd ⟨_, _, hj_2, hj_10, rfl, rfl⟩ hout
    · skip
      refine lv_if_eq (tgt := 53) hx hb dX8_arrow_13 (by decide) (fun _ => ?_) (fun c_13 => absurd (by decide +kernel) c_13)
      refine lv_iconst (v := 0) hx hb dX8_arrow_53 (by decide +kernel) ?_
      refine W.widen (k := 0) (n := 0) (Nat.le_of_ble_eq_true rfl) (Nat.le_of_ble_eq_true rfl) ?_
      exact W.zret (v := 0) hx hb hr (mz_nz (by decide +kernel)) (fun t ht hW => ⟨⟨0, (), rfl, rfl, ht⟩, hS.F ht⟩) hS.2.2 dX8_arrow_54
  · skip
    refine lv_if_eq (tgt := 53) hx hb dX8_arrow_5 (by decide) (fun _ => ?_) (fun c_5 => absurd (by decide +kernel) c_5)
    refine lv_iconst (v := 0) hx hb dX8_arrow_53 (by decide +kernel) ?_
    refine W.widen (k := 0) (n := 0) (Nat.le_of_ble_eq_true rfl) (Nat.le_of_ble_eq_true rfl) ?_
    exact W.zret (v := 0) hx hb hr (mz_nz (by decide +kernel)) (fun t ht hW => ⟨⟨0, (), rfl, rfl, ht⟩, hS.F ht⟩) hS.2.2 dX8_arrow_54
set_option maxHeartbeats 1000000 in
set_option maxRecDepth 100000 in
theorem mz_e_leads (l : Launch) (dC : Nat → ClassId) (dI : Nat → Nat → Nat) (cI cJ cZ : ClassId) (dr : Nat) (dp : Nat) (dc : Nat) (n : Nat) (fc : Nat → Int32) (i : Nat) (j : Nat) (Hq : Heap) (hn : n ≤ 8) (hi : i < n) (hj : j < n) : Met l yX2_leads wsX2_leads ({ frames := 1, cells := 0, slots := 0, locals := 21 }) (va_Pc [.ref dr, .int (nI i), .int (nI j)] (fun U => U.heap = Hq ∧ va_P (dC, dI) vwCl [(dr, .inr (2, [.ref dp, .ref dc, .int (nI n)])), (dc, .inl (cI, 8, .inl fc))] Hq ∧ va_K (dC, dI) vwCl [(cI, FieldType.int), (cJ, FieldType.long), (cZ, FieldType.boolean)] U ∧ mz_N U)) (va_Qi (fun (r : Int32) (_ : Unit) => (r = 1 ∧ mz_t (fc i) j = true) ∨ (r = 0 ∧ mz_t (fc i) j = false)) (fun _ t => t.heap = Hq) (fun _ : Nat => False)) 0 0 (fun _ : Nat => False) := by
  refine Met.ofW (cc := cX2_leads) (maxL := 3) (ret := (some .boolean)) (by decide) rfl ?_
  intro p e s m args below meth c s₁ B hml hv
  obtain ⟨rfl, hH, hP, hK, hN⟩ := hv
  subst hH
  have hx := B.exec
  have hb := B.bytes
  have hr := B.returns
  have hts := atoms_spec (ws := wsX2_leads) B.pre
  have hown : s.vm.findClass RX2 = some m.cls := findClass_of_methodNamed B.named
  have hlocks := B.notSynchronized
  have hS : va_S (fun _ : Nat => False) s.heap s.heap [] := va_S.rf
  have hiX2 : ∀ w ∈ u_ws RX2 TX2 3, w ∈ wsX2_leads := by decide +kernel
  have hl := lv_entry ([.ref dr, .int (nI i), .int (nI j)]) (n := 3) (Nat.le_of_ble_eq_true rfl)
  rw [lg_entry_eq]
  generalize (lg_sl ([.ref dr, .int (nI i), .int (nI j)]) ++ List.replicate (3 - (lg_sl ([.ref dr, .int (nI i), .int (nI j)])).length) Slot.unset).toArray = ls at hl ⊢
  have hl : lv_has ls 3 [(0, .ref dr), (1, .int (nI i)), (2, .int (nI j))] := hl
  refine lv_aload_n hx hb dX2_leads_0 rfl (lv_at hl 0 rfl) ?_
  refine lv_iload_n hx hb dX2_leads_1 rfl (lv_at hl 1 rfl) ?_
  have hPc := hP.sub (ws' := [(dr, .inr (2, [.ref dp, .ref dc, .int (nI n)]))]) [0] rfl
  refine va_calli (va_runV (As := [.int (nI i)]) (rest := []) ⟨hx, hb, hml, hown, hts⟩ (mz_d_has_in l dC dI cI cJ cZ dr dp dc n i s.heap (by first | assumption | omega) (by first | assumption | omega)) (cwV 1 hts gX2_leads_X2_has rfl rfl rfl (by decide +kernel) ⟨Nat.le_of_ble_eq_true rfl, Nat.le_of_ble_eq_true rfl⟩) ⟨fun a U g mk q => mz_blP q, va_recv hK hPc (ci := 2) (q0 := 0) rfl rfl, fun U hU hW => ⟨rfl, hU, hPc, va_K.moved hW.alike hK, mz_nw hW hN⟩⟩ rfl rfl hl.1 rfl (lv_room (Nat.le_of_ble_eq_true rfl)) dX2_leads_2 ⟨Nat.le_of_ble_eq_true rfl, Nat.le_of_ble_eq_true rfl⟩) hS (fun q _ h => h.elim) (fun q h => h.elim) (fun r_2 u t H1 locs ht hvm hw_2 hB hz1 hk1 hS => ?_)
  have hE : s.heap = H1 := hB.symm.trans ht
  subst hE
  obtain rfl : r_2 = 1 := hw_2
  refine lv_if_eq (tgt := 33) hx hb dX2_leads_5 (by decide) (fun c_5 => absurd c_5 (by decide +kernel)) (fun _ => ?_)
  refine lv_aload_n hx hb dX2_leads_8 rfl (lv_at hl 0 rfl) ?_
  refine lv_iload_n hx hb dX2_leads_9 rfl (lv_at hl 2 rfl) ?_
  have hPc := hP.sub (ws' := [(dr, .inr (2, [.ref dp, .ref dc, .int (nI n)]))]) [0] rfl
  refine va_calli (va_runV (As := [.int (nI j)]) (rest := []) ⟨hx, hb, hml, hown, hts⟩ (mz_d_has_in l dC dI cI cJ cZ dr dp dc n j s.heap (by first | assumption | omega) (by first | assumption | omega)) (cwV 1 hts gX2_leads_X2_has rfl rfl rfl (by decide +kernel) ⟨Nat.le_of_ble_eq_true rfl, Nat.le_of_ble_eq_true rfl⟩) ⟨fun a U g mk q => mz_blP q, va_recv hK hPc (ci := 2) (q0 := 0) rfl rfl, fun U hU hW => ⟨rfl, hU, hPc, va_K.moved hW.alike hK, mz_nw hW hN⟩⟩ rfl rfl hl.1 rfl (lv_room (Nat.le_of_ble_eq_true rfl)) dX2_leads_10 ⟨Nat.le_of_ble_eq_true rfl, Nat.le_of_ble_eq_true rfl⟩) hS (fun q _ h => h.elim) (fun q h => h.elim) (fun r_10 u t H1 locs ht hvm hw_10 hB hz1 hk1 hS => ?_)
  have hE : s.heap = H1 := hB.symm.trans ht
  subst hE
  obtain rfl : r_10 = 1 := hw_10
  refine lv_if_eq (tgt := 33) hx hb dX2_leads_13 (by decide) (fun c_13 => absurd c_13 (by decide +kernel)) (fun _ => ?_)
  refine lv_aload_n hx hb dX2_leads_16 rfl (lv_at hl 0 rfl) ?_
  refine va_get (D := (dC, dI)) (ci := 2) (v := .ref dc) (C := RX2) (T := TX2) (N := 3) hx hb hts hiX2 hown hK hP 0 rfl rfl 1 (by decide) (hts (.fieldLink RX2 15 "MadeItSo$Drawing" "children" "[I") (by decide +kernel)) (fun _ h9 => h9) rfl dX2_leads_17 ?_
  refine lv_iload_n hx hb dX2_leads_20 rfl (lv_at hl 1 rfl) ?_
  refine va_iald hx hb hK hP 1 0 rfl rfl (vp_in_nI (by omega) (by omega)) dX2_leads_21 ?_
  refine mz_ti (y := (fc i)) (by rw [mz_cl (by omega)]) ?_
  refine lv_iload_n hx hb dX2_leads_22 rfl (lv_at hl 2 rfl) ?_
  have hPc := hP.sub (ws' := []) [] rfl
  refine va_calli (va_runSN (As := [.int (fc i), .int (nI j)]) (rest := []) ⟨hx, hb, hml, hown, hts⟩ (mz_e_inHeap l dC dI cI cJ cZ (fc i) j s.heap (by first | assumption | omega)) ⟨va_cnB (host := "MadeItSo") 2 hts gX2_leads_X7_inHeap_n26 rfl rfl rfl (hN (RX2, 26, yX7_inHeap, "MadeItSo") (by decide +kernel)) (hts (.initialized RX7) (by decide +kernel)) (by decide +kernel) ⟨Nat.le_of_ble_eq_true rfl, Nat.le_of_ble_eq_true rfl⟩, hts (.static yX7_inHeap) (by decide +kernel), trivial⟩ ⟨fun a U g mk q => mz_blP q, fun U hU hW => ⟨rfl, hU, hPc, va_K.moved hW.alike hK, mz_nw hW hN⟩⟩ rfl rfl hl.1 rfl (lv_room (Nat.le_of_ble_eq_true rfl)) dX2_leads_23 ⟨Nat.le_of_ble_eq_true rfl, Nat.le_of_ble_eq_true rfl⟩) hS (fun q _ h => h.elim) (fun q h => h.elim) (fun r_23 u t H1 locs ht hvm hw_23 hB hz1 hk1 hS => ?_)
  have hE : s.heap = H1 := hB.symm.trans ht
  subst hE
  rcases (show (r_23 = 1 ∧ mz_t (fc i) j = true) ∨ (r_23 = 0 ∧ mz_t (fc i) j = false) from hw_23) with ⟨rfl, ht_23⟩ | ⟨rfl, ht_23⟩
  · skip
    refine lv_if_eq (tgt := 33) hx hb dX2_leads_26 (by decide) (fun c_26 => absurd c_26 (by decide +kernel)) (fun _ => ?_)
    refine lv_iconst (v := 1) hx hb dX2_leads_29 (by decide +kernel) ?_
    refine lv_goto (tgt := 34) hx hb dX2_leads_30 (by decide) ?_
    refine W.widen (k := 0) (n := 0) (Nat.le_of_ble_eq_true rfl) (Nat.le_of_ble_eq_true rfl) ?_
    exact W.zret (v := 1) hx hb hr (mz_nz (by decide +kernel)) (fun t ht hW => ⟨⟨1, (), rfl, Or.inl ⟨rfl, ht_23⟩, ht⟩, hS.F ht⟩) hS.2.2 dX2_leads_34
  · skip
    refine lv_if_eq (tgt := 33) hx hb dX2_leads_26 (by decide) (fun _ => ?_) (fun c_26 => absurd (by decide +kernel) c_26)
    refine lv_iconst (v := 0) hx hb dX2_leads_33 (by decide +kernel) ?_
    refine W.widen (k := 0) (n := 0) (Nat.le_of_ble_eq_true rfl) (Nat.le_of_ble_eq_true rfl) ?_
    exact W.zret (v := 0) hx hb hr (mz_nz (by decide +kernel)) (fun t ht hW => ⟨⟨0, (), rfl, Or.inr ⟨rfl, ht_23⟩, ht⟩, hS.F ht⟩) hS.2.2 dX2_leads_34
set_option maxHeartbeats 1000000 in
set_option maxRecDepth 100000 in
theorem mz_e_leads_out (l : Launch) (dC : Nat → ClassId) (dI : Nat → Nat → Nat) (cI cJ cZ : ClassId) (dr : Nat) (dp : Nat) (dc : Nat) (n : Nat) (p0 : Int32) (p1 : Int32) (Hq : Heap) (hn : n ≤ 8) (hout : ¬ ∃ i j : Nat, i < n ∧ j < n ∧ p0 = nI i ∧ p1 = nI j) : Met l yX2_leads wsX2_leads ({ frames := 1, cells := 0, slots := 0, locals := 21 }) (va_Pc [.ref dr, .int p0, .int p1] (fun U => U.heap = Hq ∧ va_P (dC, dI) vwCl [(dr, .inr (2, [.ref dp, .ref dc, .int (nI n)]))] Hq ∧ va_K (dC, dI) vwCl [(cI, FieldType.int), (cJ, FieldType.long), (cZ, FieldType.boolean)] U ∧ mz_N U)) (va_Qi (fun (r : Int32) (_ : Unit) => r = 0) (fun _ t => t.heap = Hq) (fun _ : Nat => False)) 0 0 (fun _ : Nat => False) := by
  refine Met.ofW (cc := cX2_leads) (maxL := 3) (ret := (some .boolean)) (by decide) rfl ?_
  intro p e s m args below meth c s₁ B hml hv
  obtain ⟨rfl, hH, hP, hK, hN⟩ := hv
  subst hH
  have hx := B.exec
  have hb := B.bytes
  have hr := B.returns
  have hts := atoms_spec (ws := wsX2_leads) B.pre
  have hown : s.vm.findClass RX2 = some m.cls := findClass_of_methodNamed B.named
  have hlocks := B.notSynchronized
  have hS : va_S (fun _ : Nat => False) s.heap s.heap [] := va_S.rf
  have hl := lv_entry ([.ref dr, .int p0, .int p1]) (n := 3) (Nat.le_of_ble_eq_true rfl)
  rw [lg_entry_eq]
  generalize (lg_sl ([.ref dr, .int p0, .int p1]) ++ List.replicate (3 - (lg_sl ([.ref dr, .int p0, .int p1])).length) Slot.unset).toArray = ls at hl ⊢
  have hl : lv_has ls 3 [(0, .ref dr), (1, .int p0), (2, .int p1)] := hl
  refine lv_aload_n hx hb dX2_leads_0 rfl (lv_at hl 0 rfl) ?_
  refine lv_iload_n hx hb dX2_leads_1 rfl (lv_at hl 1 rfl) ?_
  have hPc := hP.sub (ws' := [(dr, .inr (2, [.ref dp, .ref dc, .int (nI n)]))]) [0] rfl
  refine va_calli (va_runV (As := [.int p0]) (rest := []) ⟨hx, hb, hml, hown, hts⟩ (mz_d_has l dC dI cI cJ cZ dr dp dc n p0 s.heap (by first | assumption | omega)) (cwV 1 hts gX2_leads_X2_has rfl rfl rfl (by decide +kernel) ⟨Nat.le_of_ble_eq_true rfl, Nat.le_of_ble_eq_true rfl⟩) ⟨fun a U g mk q => mz_blP q, va_recv hK hPc (ci := 2) (q0 := 0) rfl rfl, fun U hU hW => ⟨rfl, hU, hPc, va_K.moved hW.alike hK, mz_nw hW hN⟩⟩ rfl rfl hl.1 rfl (lv_room (Nat.le_of_ble_eq_true rfl)) dX2_leads_2 ⟨Nat.le_of_ble_eq_true rfl, Nat.le_of_ble_eq_true rfl⟩) hS (fun q _ h => h.elim) (fun q h => h.elim) (fun r_2 u t H1 locs ht hvm hw_2 hB hz1 hk1 hS => ?_)
  have hE : s.heap = H1 := hB.symm.trans ht
  subst hE
  rcases (show (r_2 = 1 ∧ ∃ j : Nat, j < n ∧ p0 = nI j) ∨ r_2 = 0 from hw_2) with ⟨rfl, j_2, hj_2, he_2⟩ | rfl
  · skip
    subst he_2
    refine lv_if_eq (tgt := 33) hx hb dX2_leads_5 (by decide) (fun c_5 => absurd c_5 (by decide +kernel)) (fun _ => ?_)
    refine lv_aload_n hx hb dX2_leads_8 rfl (lv_at hl 0 rfl) ?_
    refine lv_iload_n hx hb dX2_leads_9 rfl (lv_at hl 2 rfl) ?_
    have hPc := hP.sub (ws' := [(dr, .inr (2, [.ref dp, .ref dc, .int (nI n)]))]) [0] rfl
    refine va_calli (va_runV (As := [.int p1]) (rest := []) ⟨hx, hb, hml, hown, hts⟩ (mz_d_has l dC dI cI cJ cZ dr dp dc n p1 s.heap (by first | assumption | omega)) (cwV 1 hts gX2_leads_X2_has rfl rfl rfl (by decide +kernel) ⟨Nat.le_of_ble_eq_true rfl, Nat.le_of_ble_eq_true rfl⟩) ⟨fun a U g mk q => mz_blP q, va_recv hK hPc (ci := 2) (q0 := 0) rfl rfl, fun U hU hW => ⟨rfl, hU, hPc, va_K.moved hW.alike hK, mz_nw hW hN⟩⟩ rfl rfl hl.1 rfl (lv_room (Nat.le_of_ble_eq_true rfl)) dX2_leads_10 ⟨Nat.le_of_ble_eq_true rfl, Nat.le_of_ble_eq_true rfl⟩) hS (fun q _ h => h.elim) (fun q h => h.elim) (fun r_10 u t H1 locs ht hvm hw_10 hB hz1 hk1 hS => ?_)
    have hE : s.heap = H1 := hB.symm.trans ht
    subst hE
    rcases (show (r_10 = 1 ∧ ∃ j : Nat, j < n ∧ p1 = nI j) ∨ r_10 = 0 from hw_10) with ⟨rfl, j_10, hj_10, he_10⟩ | rfl
    · skip
      subst he_10
      refine lv_if_eq (tgt := 33) hx hb dX2_leads_13 (by decide) (fun c_13 => absurd c_13 (by decide +kernel)) (fun _ => ?_)
      exact absurd ⟨_, _, hj_2, hj_10, rfl, rfl⟩ hout
    · skip
      refine lv_if_eq (tgt := 33) hx hb dX2_leads_13 (by decide) (fun _ => ?_) (fun c_13 => absurd (by decide +kernel) c_13)
      refine lv_iconst (v := 0) hx hb dX2_leads_33 (by decide +kernel) ?_
      refine W.widen (k := 0) (n := 0) (Nat.le_of_ble_eq_true rfl) (Nat.le_of_ble_eq_true rfl) ?_
      exact W.zret (v := 0) hx hb hr (mz_nz (by decide +kernel)) (fun t ht hW => ⟨⟨0, (), rfl, rfl, ht⟩, hS.F ht⟩) hS.2.2 dX2_leads_34
  · skip
    refine lv_if_eq (tgt := 33) hx hb dX2_leads_5 (by decide) (fun _ => ?_) (fun c_5 => absurd (by decide +kernel) c_5)
    refine lv_iconst (v := 0) hx hb dX2_leads_33 (by decide +kernel) ?_
    refine W.widen (k := 0) (n := 0) (Nat.le_of_ble_eq_true rfl) (Nat.le_of_ble_eq_true rfl) ?_
    exact W.zret (v := 0) hx hb hr (mz_nz (by decide +kernel)) (fun t ht hW => ⟨⟨0, (), rfl, rfl, ht⟩, hS.F ht⟩) hS.2.2 dX2_leads_34
set_option maxHeartbeats 1000000 in
set_option maxRecDepth 100000 in
theorem mz_e_x_cut (l : Launch) (dC : Nat → ClassId) (dI : Nat → Nat → Nat) (cI cJ cZ : ClassId) (mx : Nat) (dr : Nat) (th : Nat) (bk : Nat) (wt : Nat) (tt : Nat) (lh : Nat) (la : Nat) (sh : Int32) (ab : Int64) (be : Int64) (dp : Nat) (dc : Nat) (n : Nat) (fp : Nat → Int32) (fc : Nat → Int32) (bp : Nat) (fb : Nat → Int32) (i : Nat) (j : Nat) (sz : Nat) (hn : n ≤ 8) (hi : i < n) (hj : j < n) : Met l yX7_cut wsX7_cut ({ frames := 2, cells := 0, slots := 0, locals := 43 }) (va_Pc [.ref mx, .int (nI i), .int (nI j)] (fun U => U.heap.size = sz ∧ va_P (dC, dI) vwCl [(mx, .inr (7, [.ref dr, .ref th, .ref bk, .ref wt, .ref tt, .ref lh, .ref la, .int sh, .long ab, .long be])), (dr, .inr (2, [.ref dp, .ref dc, .int (nI n)])), (dp, .inl (cI, 8, .inl fp)), (dc, .inl (cI, 8, .inl fc)), (bk, .inr (1, [.ref bp])), (bp, .inl (cI, 1024, .inl fb))] U.heap ∧ va_K (dC, dI) vwCl [(cI, FieldType.int), (cJ, FieldType.long), (cZ, FieldType.boolean)] U ∧ va_D (fun _ => True) [(mx, .inr (7, [.ref dr, .ref th, .ref bk, .ref wt, .ref tt, .ref lh, .ref la, .int sh, .long ab, .long be])), (dr, .inr (2, [.ref dp, .ref dc, .int (nI n)])), (dp, .inl (cI, 8, .inl fp)), (dc, .inl (cI, 8, .inl fc)), (bk, .inr (1, [.ref bp])), (bp, .inl (cI, 1024, .inl fb))] ∧ mz_N U)) (va_Qi (fun (r : Int32) (_ : Unit) => (r = 1 ∧ mz_t (fc i) j = true) ∨ (r = 0 ∧ mz_t (fc i) j = false)) (fun _ t => ∃ (gp : Nat → Int32), ∃ (gc : Nat → Int32), ∃ (gb : Nat → Int32), (mz_t (fc i) j = true → (gp = upd fp j ((fp j) &&& ((1 <<< ((nI i) &&& 31)) ^^^ (-1))) ∧ gc = upd fc i ((fc i) &&& ((1 <<< ((nI j) &&& 31)) ^^^ (-1))) ∧ mz_bkp fb gb j 128)) ∧ (mz_t (fc i) j = false → (gp = fp ∧ gc = fc ∧ gb = fb)) ∧ va_P (dC, dI) vwCl [(mx, .inr (7, [.ref dr, .ref th, .ref bk, .ref wt, .ref tt, .ref lh, .ref la, .int sh, .long ab, .long be])), (dr, .inr (2, [.ref dp, .ref dc, .int (nI n)])), (dp, .inl (cI, 8, .inl gp)), (dc, .inl (cI, 8, .inl gc)), (bk, .inr (1, [.ref bp])), (bp, .inl (cI, 1024, .inl gb))] t.heap ∧ va_D (va_A [(mx, .inr (7, [.ref dr, .ref th, .ref bk, .ref wt, .ref tt, .ref lh, .ref la, .int sh, .long ab, .long be])), (dr, .inr (2, [.ref dp, .ref dc, .int (nI n)])), (dp, .inl (cI, 8, .inl fp)), (dc, .inl (cI, 8, .inl fc)), (bk, .inr (1, [.ref bp])), (bp, .inl (cI, 1024, .inl fb))] sz) [(mx, .inr (7, [.ref dr, .ref th, .ref bk, .ref wt, .ref tt, .ref lh, .ref la, .int sh, .long ab, .long be])), (dr, .inr (2, [.ref dp, .ref dc, .int (nI n)])), (dp, .inl (cI, 8, .inl gp)), (dc, .inl (cI, 8, .inl gc)), (bk, .inr (1, [.ref bp])), (bp, .inl (cI, 1024, .inl gb))]) (va_A [(mx, .inr (7, [.ref dr, .ref th, .ref bk, .ref wt, .ref tt, .ref lh, .ref la, .int sh, .long ab, .long be])), (dr, .inr (2, [.ref dp, .ref dc, .int (nI n)])), (dp, .inl (cI, 8, .inl fp)), (dc, .inl (cI, 8, .inl fc)), (bk, .inr (1, [.ref bp])), (bp, .inl (cI, 1024, .inl fb))] sz)) 0 0 (va_A [(mx, .inr (7, [.ref dr, .ref th, .ref bk, .ref wt, .ref tt, .ref lh, .ref la, .int sh, .long ab, .long be])), (dr, .inr (2, [.ref dp, .ref dc, .int (nI n)])), (dp, .inl (cI, 8, .inl fp)), (dc, .inl (cI, 8, .inl fc)), (bk, .inr (1, [.ref bp])), (bp, .inl (cI, 1024, .inl fb))] sz) := by
  refine Met.ofW (cc := cX7_cut) (maxL := 3) (ret := (some .boolean)) (by decide) rfl ?_
  intro p e s m args below meth c s₁ B hml hv
  obtain ⟨rfl, hsz, hP, hK, hD0, hN⟩ := hv
  subst hsz
  have hx := B.exec
  have hb := B.bytes
  have hr := B.returns
  have hts := atoms_spec (ws := wsX7_cut) B.pre
  have hown : s.vm.findClass RX7 = some m.cls := findClass_of_methodNamed B.named
  have hlocks := B.notSynchronized
  have hD := hD0.self (sz := s.heap.size)
  generalize hAe : va_A [(mx, .inr (7, [.ref dr, .ref th, .ref bk, .ref wt, .ref tt, .ref lh, .ref la, .int sh, .long ab, .long be])), (dr, .inr (2, [.ref dp, .ref dc, .int (nI n)])), (dp, .inl (cI, 8, .inl fp)), (dc, .inl (cI, 8, .inl fc)), (bk, .inr (1, [.ref bp])), (bp, .inl (cI, 1024, .inl fb))] s.heap.size = A at hD ⊢
  have hA : ∀ q : Nat, s.heap.size ≤ q → A q := fun q h => by rw [← hAe]; exact Or.inr h
  have hS : va_S A s.heap s.heap [] := va_S.rf
  have hiX7 : ∀ w ∈ u_ws RX7 TX7 10, w ∈ wsX7_cut := by decide +kernel
  have hl := lv_entry ([.ref mx, .int (nI i), .int (nI j)]) (n := 3) (Nat.le_of_ble_eq_true rfl)
  rw [lg_entry_eq]
  generalize (lg_sl ([.ref mx, .int (nI i), .int (nI j)]) ++ List.replicate (3 - (lg_sl ([.ref mx, .int (nI i), .int (nI j)])).length) Slot.unset).toArray = ls at hl ⊢
  have hl : lv_has ls 3 [(0, .ref mx), (1, .int (nI i)), (2, .int (nI j))] := hl
  refine lv_aload_n hx hb dX7_cut_0 rfl (lv_at hl 0 rfl) ?_
  refine va_get (D := (dC, dI)) (ci := 7) (v := .ref dr) (C := RX7) (T := TX7) (N := 10) hx hb hts hiX7 hown hK hP 0 rfl rfl 0 (by decide) (hts (.fieldLink RX7 12 "MadeItSo" "drawing" "LMadeItSo$Drawing;") (by decide +kernel)) (fun _ h9 => h9) rfl dX7_cut_1 ?_
  refine lv_iload_n hx hb dX7_cut_4 rfl (lv_at hl 1 rfl) ?_
  refine lv_iload_n hx hb dX7_cut_5 rfl (lv_at hl 2 rfl) ?_
  have hPc := hP.sub (ws' := [(dr, .inr (2, [.ref dp, .ref dc, .int (nI n)])), (dc, .inl (cI, 8, .inl fc))]) [1, 3] rfl
  refine va_calli (va_runV (As := [.int (nI i), .int (nI j)]) (rest := []) ⟨hx, hb, hml, hown, hts⟩ (mz_e_leads l dC dI cI cJ cZ dr dp dc n fc i j s.heap (by first | assumption | omega) (by first | assumption | omega) (by first | assumption | omega)) (cwV 2 hts gX7_cut_X2_leads rfl rfl rfl (by decide +kernel) ⟨Nat.le_of_ble_eq_true rfl, Nat.le_of_ble_eq_true rfl⟩) ⟨fun a U g mk q => mz_blP q, va_recv hK hPc (ci := 2) (q0 := 0) rfl rfl, fun U hU hW => ⟨rfl, hU, hPc, va_K.moved hW.alike hK, mz_nw hW hN⟩⟩ rfl rfl hl.1 rfl (lv_room (Nat.le_of_ble_eq_true rfl)) dX7_cut_6 ⟨Nat.le_of_ble_eq_true rfl, Nat.le_of_ble_eq_true rfl⟩) hS (fun q _ h => h.elim) (fun q h => h.elim) (fun r_6 u t H1 locs ht hvm hw_6 hB hz1 hk1 hS => ?_)
  have hE : s.heap = H1 := hB.symm.trans ht
  subst hE
  rcases (show (r_6 = 1 ∧ mz_t (fc i) j = true) ∨ (r_6 = 0 ∧ mz_t (fc i) j = false) from hw_6) with ⟨rfl, ht_6⟩ | ⟨rfl, ht_6⟩
  · skip
    refine lv_if_ne (tgt := 14) hx hb dX7_cut_9 (by decide) (fun _ => ?_) (fun c_9 => absurd c_9 (by decide +kernel))
    refine lv_aload_n hx hb dX7_cut_14 rfl (lv_at hl 0 rfl) ?_
    refine va_get (D := (dC, dI)) (ci := 7) (v := .ref dr) (C := RX7) (T := TX7) (N := 10) hx hb hts hiX7 hown hK hP 0 rfl rfl 0 (by decide) (hts (.fieldLink RX7 12 "MadeItSo" "drawing" "LMadeItSo$Drawing;") (by decide +kernel)) (fun _ h9 => h9) rfl dX7_cut_15 ?_
    refine lv_iload_n hx hb dX7_cut_18 rfl (lv_at hl 1 rfl) ?_
    refine lv_iload_n hx hb dX7_cut_19 rfl (lv_at hl 2 rfl) ?_
    have hPc := hP.sub (ws' := [(dr, .inr (2, [.ref dp, .ref dc, .int (nI n)])), (dp, .inl (cI, 8, .inl fp)), (dc, .inl (cI, 8, .inl fc))]) [1, 2, 3] rfl
    have hDc := hD.sub (ws' := [(dr, .inr (2, [.ref dp, .ref dc, .int (nI n)])), (dp, .inl (cI, 8, .inl fp)), (dc, .inl (cI, 8, .inl fc))]) [1, 2, 3] (by decide) rfl
    have hFc := va_free (wc := [(dr, .inr (2, [.ref dp, .ref dc, .int (nI n)])), (dp, .inl (cI, 8, .inl fp)), (dc, .inl (cI, 8, .inl fc))]) hD hS hA [1, 2, 3] rfl
    refine va_callv (va_runV (As := [.int (nI i), .int (nI j)]) (rest := []) ⟨hx, hb, hml, hown, hts⟩ (mz_e_part l dC dI cI cJ cZ dr dp dc n fp fc i j s.heap.size (by first | assumption | omega) (by first | assumption | omega) (by first | assumption | omega)) (cwV 2 hts gX7_cut_X2_part rfl rfl rfl (by decide +kernel) ⟨Nat.le_of_ble_eq_true rfl, Nat.le_of_ble_eq_true rfl⟩) ⟨fun a U g mk q => mz_blI q, va_recv hK hPc (ci := 2) (q0 := 0) rfl rfl, fun U hU hW => ⟨rfl, by rw [hU], by rw [hU]; exact hPc, va_K.moved hW.alike hK, hDc.weaken (fun _ _ _ _ => trivial), mz_nw hW hN⟩⟩ rfl rfl hl.1 rfl (lv_room (Nat.le_of_ble_eq_true rfl)) dX7_cut_20 ⟨Nat.le_of_ble_eq_true rfl, Nat.le_of_ble_eq_true rfl⟩) hS (fun q _ h => hFc q h) hFc (fun u t H1 locs ht hvm hw_20 hB hz1 hk1 hS => ?_)
    obtain ⟨gp_20, gc_20, hx0_20, hx1_20, hP1, hD1⟩ := hB
    rw [ht] at hP1
    obtain ⟨hP, hD⟩ := va_join (wr := [(mx, .inr (7, [.ref dr, .ref th, .ref bk, .ref wt, .ref tt, .ref lh, .ref la, .int sh, .long ab, .long be])), (bk, .inr (1, [.ref bp])), (bp, .inl (cI, 1024, .inl fb))]) (w1 := [(dr, .inr (2, [.ref dp, .ref dc, .int (nI n)])), (dp, .inl (cI, 8, .inl gp_20)), (dc, .inl (cI, 8, .inl gc_20))]) hP hD [1, 2, 3] [0, 4, 5] rfl rfl (by decide) (by decide) hk1 hFc hP1 hD1
    generalize H1 = H at hP hS ⊢
    have hP : va_P (dC, dI) vwCl [(mx, .inr (7, [.ref dr, .ref th, .ref bk, .ref wt, .ref tt, .ref lh, .ref la, .int sh, .long ab, .long be])), (bk, .inr (1, [.ref bp])), (bp, .inl (cI, 1024, .inl fb)), (dr, .inr (2, [.ref dp, .ref dc, .int (nI n)])), (dp, .inl (cI, 8, .inl gp_20)), (dc, .inl (cI, 8, .inl gc_20))] H := hP
    have hD : va_D A [(mx, .inr (7, [.ref dr, .ref th, .ref bk, .ref wt, .ref tt, .ref lh, .ref la, .int sh, .long ab, .long be])), (bk, .inr (1, [.ref bp])), (bp, .inl (cI, 1024, .inl fb)), (dr, .inr (2, [.ref dp, .ref dc, .int (nI n)])), (dp, .inl (cI, 8, .inl gp_20)), (dc, .inl (cI, 8, .inl gc_20))] := hD
    refine lv_aload_n hx hb dX7_cut_23 rfl (lv_at hl 0 rfl) ?_
    refine va_get (D := (dC, dI)) (ci := 7) (v := .ref bk) (C := RX7) (T := TX7) (N := 10) hx hb hts hiX7 hown hK hP 0 rfl rfl 2 (by decide) (hts (.fieldLink RX7 22 "MadeItSo" "books" "LMadeItSo$Books;") (by decide +kernel)) (fun _ h9 => h9) rfl dX7_cut_24 ?_
    refine lv_iload_n hx hb dX7_cut_27 rfl (lv_at hl 2 rfl) ?_
    have hPc := hP.sub (ws' := [(bk, .inr (1, [.ref bp])), (bp, .inl (cI, 1024, .inl fb))]) [1, 2] rfl
    have hDc := hD.sub (ws' := [(bk, .inr (1, [.ref bp])), (bp, .inl (cI, 1024, .inl fb))]) [1, 2] (by decide) rfl
    have hFc := va_free (wc := [(bk, .inr (1, [.ref bp])), (bp, .inl (cI, 1024, .inl fb))]) hD hS hA [1, 2] rfl
    refine va_callv (va_runV (As := [.int (nI j)]) (rest := []) ⟨hx, hb, hml, hown, hts⟩ (mz_e_blank l dC dI cI cJ cZ bk bp fb j H.size (by first | assumption | omega)) (cwV 1 hts gX7_cut_X1_blank rfl rfl rfl (by decide +kernel) ⟨Nat.le_of_ble_eq_true rfl, Nat.le_of_ble_eq_true rfl⟩) ⟨fun a U g mk q => mz_blI q, va_recv hK hPc (ci := 1) (q0 := 0) rfl rfl, fun U hU hW => ⟨rfl, by rw [hU], by rw [hU]; exact hPc, va_K.moved hW.alike hK, hDc.weaken (fun _ _ _ _ => trivial), mz_nw hW hN⟩⟩ rfl rfl hl.1 rfl (lv_room (Nat.le_of_ble_eq_true rfl)) dX7_cut_28 ⟨Nat.le_of_ble_eq_true rfl, Nat.le_of_ble_eq_true rfl⟩) hS (fun q _ h => hFc q h) hFc (fun u t H1 locs ht hvm hw_28 hB hz1 hk1 hS => ?_)
    obtain ⟨gb_28, hx0_28, hP1, hD1⟩ := hB
    rw [ht] at hP1
    obtain ⟨hP, hD⟩ := va_join (wr := [(mx, .inr (7, [.ref dr, .ref th, .ref bk, .ref wt, .ref tt, .ref lh, .ref la, .int sh, .long ab, .long be])), (dr, .inr (2, [.ref dp, .ref dc, .int (nI n)])), (dp, .inl (cI, 8, .inl gp_20)), (dc, .inl (cI, 8, .inl gc_20))]) (w1 := [(bk, .inr (1, [.ref bp])), (bp, .inl (cI, 1024, .inl gb_28))]) hP hD [1, 2] [0, 3, 4, 5] rfl rfl (by decide) (by decide) hk1 hFc hP1 hD1
    generalize H1 = H at hP hS ⊢
    have hP : va_P (dC, dI) vwCl [(mx, .inr (7, [.ref dr, .ref th, .ref bk, .ref wt, .ref tt, .ref lh, .ref la, .int sh, .long ab, .long be])), (dr, .inr (2, [.ref dp, .ref dc, .int (nI n)])), (dp, .inl (cI, 8, .inl gp_20)), (dc, .inl (cI, 8, .inl gc_20)), (bk, .inr (1, [.ref bp])), (bp, .inl (cI, 1024, .inl gb_28))] H := hP
    have hD : va_D A [(mx, .inr (7, [.ref dr, .ref th, .ref bk, .ref wt, .ref tt, .ref lh, .ref la, .int sh, .long ab, .long be])), (dr, .inr (2, [.ref dp, .ref dc, .int (nI n)])), (dp, .inl (cI, 8, .inl gp_20)), (dc, .inl (cI, 8, .inl gc_20)), (bk, .inr (1, [.ref bp])), (bp, .inl (cI, 1024, .inl gb_28))] := hD
    refine lv_iconst (v := 1) hx hb dX7_cut_31 (by decide +kernel) ?_
    have hP9 := hP.sub (ws' := [(mx, .inr (7, [.ref dr, .ref th, .ref bk, .ref wt, .ref tt, .ref lh, .ref la, .int sh, .long ab, .long be])), (dr, .inr (2, [.ref dp, .ref dc, .int (nI n)])), (dp, .inl (cI, 8, .inl gp_20)), (dc, .inl (cI, 8, .inl gc_20)), (bk, .inr (1, [.ref bp])), (bp, .inl (cI, 1024, .inl gb_28))]) [0, 1, 2, 3, 4, 5] rfl
    have hD9 := hD.sub (ws' := [(mx, .inr (7, [.ref dr, .ref th, .ref bk, .ref wt, .ref tt, .ref lh, .ref la, .int sh, .long ab, .long be])), (dr, .inr (2, [.ref dp, .ref dc, .int (nI n)])), (dp, .inl (cI, 8, .inl gp_20)), (dc, .inl (cI, 8, .inl gc_20)), (bk, .inr (1, [.ref bp])), (bp, .inl (cI, 1024, .inl gb_28))]) [0, 1, 2, 3, 4, 5] (by decide) rfl
    refine W.widen (k := 0) (n := 0) (Nat.le_of_ble_eq_true rfl) (Nat.le_of_ble_eq_true rfl) ?_
    exact W.zret (v := 1) hx hb hr (mz_nz (by decide +kernel)) (fun t ht hW => ⟨⟨1, (), rfl, Or.inl ⟨rfl, ht_6⟩, gp_20, gc_20, gb_28, (fun _ => ⟨hx0_20, hx1_20, hx0_28⟩), (fun h => by rw [ht_6] at h; cases h), by rw [ht]; exact hP9, hD9⟩, hS.F ht⟩) hS.2.2 dX7_cut_32
  · skip
    refine lv_if_ne (tgt := 14) hx hb dX7_cut_9 (by decide) (fun c_9 => absurd (by decide +kernel) c_9) (fun _ => ?_)
    refine lv_iconst (v := 0) hx hb dX7_cut_12 (by decide +kernel) ?_
    have hP9 := hP.sub (ws' := [(mx, .inr (7, [.ref dr, .ref th, .ref bk, .ref wt, .ref tt, .ref lh, .ref la, .int sh, .long ab, .long be])), (dr, .inr (2, [.ref dp, .ref dc, .int (nI n)])), (dp, .inl (cI, 8, .inl fp)), (dc, .inl (cI, 8, .inl fc)), (bk, .inr (1, [.ref bp])), (bp, .inl (cI, 1024, .inl fb))]) [0, 1, 2, 3, 4, 5] rfl
    have hD9 := hD.sub (ws' := [(mx, .inr (7, [.ref dr, .ref th, .ref bk, .ref wt, .ref tt, .ref lh, .ref la, .int sh, .long ab, .long be])), (dr, .inr (2, [.ref dp, .ref dc, .int (nI n)])), (dp, .inl (cI, 8, .inl fp)), (dc, .inl (cI, 8, .inl fc)), (bk, .inr (1, [.ref bp])), (bp, .inl (cI, 1024, .inl fb))]) [0, 1, 2, 3, 4, 5] (by decide) rfl
    refine W.widen (k := 0) (n := 0) (Nat.le_of_ble_eq_true rfl) (Nat.le_of_ble_eq_true rfl) ?_
    exact W.zret (v := 0) hx hb hr (mz_nz (by decide +kernel)) (fun t ht hW => ⟨⟨0, (), rfl, Or.inr ⟨rfl, ht_6⟩, fp, fc, fb, (fun h => by rw [ht_6] at h; cases h), (fun _ => ⟨rfl, rfl, rfl⟩), by rw [ht]; exact hP9, hD9⟩, hS.F ht⟩) hS.2.2 dX7_cut_13
set_option maxHeartbeats 1000000 in
set_option maxRecDepth 100000 in
theorem mz_e_x_cut_out (l : Launch) (dC : Nat → ClassId) (dI : Nat → Nat → Nat) (cI cJ cZ : ClassId) (mx : Nat) (dr : Nat) (th : Nat) (bk : Nat) (wt : Nat) (tt : Nat) (lh : Nat) (la : Nat) (sh : Int32) (ab : Int64) (be : Int64) (dp : Nat) (dc : Nat) (n : Nat) (p1 : Int32) (p2 : Int32) (Hq : Heap) (hn : n ≤ 8) (hout : ¬ ∃ i j : Nat, i < n ∧ j < n ∧ p1 = nI i ∧ p2 = nI j) : Met l yX7_cut wsX7_cut ({ frames := 2, cells := 0, slots := 0, locals := 43 }) (va_Pc [.ref mx, .int p1, .int p2] (fun U => U.heap = Hq ∧ va_P (dC, dI) vwCl [(mx, .inr (7, [.ref dr, .ref th, .ref bk, .ref wt, .ref tt, .ref lh, .ref la, .int sh, .long ab, .long be])), (dr, .inr (2, [.ref dp, .ref dc, .int (nI n)]))] Hq ∧ va_K (dC, dI) vwCl [(cI, FieldType.int), (cJ, FieldType.long), (cZ, FieldType.boolean)] U ∧ mz_N U)) (va_Qi (fun (r : Int32) (_ : Unit) => r = 0) (fun _ t => t.heap = Hq) (fun _ : Nat => False)) 0 0 (fun _ : Nat => False) := by
  refine Met.ofW (cc := cX7_cut) (maxL := 3) (ret := (some .boolean)) (by decide) rfl ?_
  intro p e s m args below meth c s₁ B hml hv
  obtain ⟨rfl, hH, hP, hK, hN⟩ := hv
  subst hH
  have hx := B.exec
  have hb := B.bytes
  have hr := B.returns
  have hts := atoms_spec (ws := wsX7_cut) B.pre
  have hown : s.vm.findClass RX7 = some m.cls := findClass_of_methodNamed B.named
  have hlocks := B.notSynchronized
  have hS : va_S (fun _ : Nat => False) s.heap s.heap [] := va_S.rf
  have hiX7 : ∀ w ∈ u_ws RX7 TX7 10, w ∈ wsX7_cut := by decide +kernel
  have hl := lv_entry ([.ref mx, .int p1, .int p2]) (n := 3) (Nat.le_of_ble_eq_true rfl)
  rw [lg_entry_eq]
  generalize (lg_sl ([.ref mx, .int p1, .int p2]) ++ List.replicate (3 - (lg_sl ([.ref mx, .int p1, .int p2])).length) Slot.unset).toArray = ls at hl ⊢
  have hl : lv_has ls 3 [(0, .ref mx), (1, .int p1), (2, .int p2)] := hl
  refine lv_aload_n hx hb dX7_cut_0 rfl (lv_at hl 0 rfl) ?_
  refine va_get (D := (dC, dI)) (ci := 7) (v := .ref dr) (C := RX7) (T := TX7) (N := 10) hx hb hts hiX7 hown hK hP 0 rfl rfl 0 (by decide) (hts (.fieldLink RX7 12 "MadeItSo" "drawing" "LMadeItSo$Drawing;") (by decide +kernel)) (fun _ h9 => h9) rfl dX7_cut_1 ?_
  refine lv_iload_n hx hb dX7_cut_4 rfl (lv_at hl 1 rfl) ?_
  refine lv_iload_n hx hb dX7_cut_5 rfl (lv_at hl 2 rfl) ?_
  have hPc := hP.sub (ws' := [(dr, .inr (2, [.ref dp, .ref dc, .int (nI n)]))]) [1] rfl
  refine va_calli (va_runV (As := [.int p1, .int p2]) (rest := []) ⟨hx, hb, hml, hown, hts⟩ (mz_e_leads_out l dC dI cI cJ cZ dr dp dc n p1 p2 s.heap (by first | assumption | omega) hout) (cwV 2 hts gX7_cut_X2_leads rfl rfl rfl (by decide +kernel) ⟨Nat.le_of_ble_eq_true rfl, Nat.le_of_ble_eq_true rfl⟩) ⟨fun a U g mk q => mz_blP q, va_recv hK hPc (ci := 2) (q0 := 0) rfl rfl, fun U hU hW => ⟨rfl, hU, hPc, va_K.moved hW.alike hK, mz_nw hW hN⟩⟩ rfl rfl hl.1 rfl (lv_room (Nat.le_of_ble_eq_true rfl)) dX7_cut_6 ⟨Nat.le_of_ble_eq_true rfl, Nat.le_of_ble_eq_true rfl⟩) hS (fun q _ h => h.elim) (fun q h => h.elim) (fun r_6 u t H1 locs ht hvm hw_6 hB hz1 hk1 hS => ?_)
  have hE : s.heap = H1 := hB.symm.trans ht
  subst hE
  obtain rfl : r_6 = 0 := hw_6
  refine lv_if_ne (tgt := 14) hx hb dX7_cut_9 (by decide) (fun c_9 => absurd (by decide +kernel) c_9) (fun _ => ?_)
  refine lv_iconst (v := 0) hx hb dX7_cut_12 (by decide +kernel) ?_
  refine W.widen (k := 0) (n := 0) (Nat.le_of_ble_eq_true rfl) (Nat.le_of_ble_eq_true rfl) ?_
  exact W.zret (v := 0) hx hb hr (mz_nz (by decide +kernel)) (fun t ht hW => ⟨⟨0, (), rfl, rfl, ht⟩, hS.F ht⟩) hS.2.2 dX7_cut_13
set_option maxHeartbeats 1000000 in
set_option maxRecDepth 100000 in
theorem mz_e_m_has_out (l : Launch) (dC : Nat → ClassId) (dI : Nat → Nat → Nat) (cI cJ cZ : ClassId) (mo : Nat) (m1 : Nat) (m2 : Nat) (m3 : Nat) (m6 : Nat) (m7 : Nat) (m8 : Nat) (m9 : Nat) (m10 : Nat) (m11 : Nat) (m12 : Nat) (m13 : Nat) (m14 : Nat) (m15 : Nat) (m16 : Nat) (n : Nat) (ka : Int64) (kb : Int64) (p0 : Int32) (p1 : Int32) (Hq : Heap) (hn : n ≤ 8) (hout : ¬ ∃ i j : Nat, i < n ∧ j < n ∧ p0 = nI i ∧ p1 = nI j) : Met l yX8_has wsX8_has ({ frames := 1, cells := 0, slots := 0, locals := 21 }) (va_Pc [.ref mo, .int p0, .int p1] (fun U => U.heap = Hq ∧ va_P (dC, dI) vwCl [(mo, .inr (8, [.int (nI n), .ref m1, .ref m2, .ref m3, .long ka, .long kb, .ref m6, .ref m7, .ref m8, .ref m9, .ref m10, .ref m11, .ref m12, .ref m13, .ref m14, .ref m15, .ref m16]))] Hq ∧ va_K (dC, dI) vwCl [(cI, FieldType.int), (cJ, FieldType.long), (cZ, FieldType.boolean)] U ∧ mz_N U)) (va_Qi (fun (r : Int32) (_ : Unit) => r = 0) (fun _ t => t.heap = Hq) (fun _ : Nat => False)) 0 0 (fun _ : Nat => False) := by
  refine Met.ofW (cc := cX8_has) (maxL := 3) (ret := (some .boolean)) (by decide) rfl ?_
  intro p e s m args below meth c s₁ B hml hv
  obtain ⟨rfl, hH, hP, hK, hN⟩ := hv
  subst hH
  have hx := B.exec
  have hb := B.bytes
  have hr := B.returns
  have hts := atoms_spec (ws := wsX8_has) B.pre
  have hown : s.vm.findClass RX8 = some m.cls := findClass_of_methodNamed B.named
  have hlocks := B.notSynchronized
  have hS : va_S (fun _ : Nat => False) s.heap s.heap [] := va_S.rf
  have hl := lv_entry ([.ref mo, .int p0, .int p1]) (n := 3) (Nat.le_of_ble_eq_true rfl)
  rw [lg_entry_eq]
  generalize (lg_sl ([.ref mo, .int p0, .int p1]) ++ List.replicate (3 - (lg_sl ([.ref mo, .int p0, .int p1])).length) Slot.unset).toArray = ls at hl ⊢
  have hl : lv_has ls 3 [(0, .ref mo), (1, .int p0), (2, .int p1)] := hl
  refine lv_aload_n hx hb dX8_has_0 rfl (lv_at hl 0 rfl) ?_
  refine lv_iload_n hx hb dX8_has_1 rfl (lv_at hl 1 rfl) ?_
  have hPc := hP.sub (ws' := [(mo, .inr (8, [.int (nI n), .ref m1, .ref m2, .ref m3, .long ka, .long kb, .ref m6, .ref m7, .ref m8, .ref m9, .ref m10, .ref m11, .ref m12, .ref m13, .ref m14, .ref m15, .ref m16]))]) [0] rfl
  refine va_calli (va_runV (As := [.int p0]) (rest := []) ⟨hx, hb, hml, hown, hts⟩ (mz_m_isThing l dC dI cI cJ cZ mo m1 m2 m3 m6 m7 m8 m9 m10 m11 m12 m13 m14 m15 m16 n ka kb p0 s.heap (by first | assumption | omega)) (cwV 1 hts gX8_has_X8_isThing rfl rfl rfl (by decide +kernel) ⟨Nat.le_of_ble_eq_true rfl, Nat.le_of_ble_eq_true rfl⟩) ⟨fun a U g mk q => mz_blP q, va_recv hK hPc (ci := 8) (q0 := 0) rfl rfl, fun U hU hW => ⟨rfl, hU, hPc, va_K.moved hW.alike hK, mz_nw hW hN⟩⟩ rfl rfl hl.1 rfl (lv_room (Nat.le_of_ble_eq_true rfl)) dX8_has_2 ⟨Nat.le_of_ble_eq_true rfl, Nat.le_of_ble_eq_true rfl⟩) hS (fun q _ h => h.elim) (fun q h => h.elim) (fun r_2 u t H1 locs ht hvm hw_2 hB hz1 hk1 hS => ?_)
  have hE : s.heap = H1 := hB.symm.trans ht
  subst hE
  rcases (show (r_2 = 1 ∧ ∃ j : Nat, j < n ∧ p0 = nI j) ∨ r_2 = 0 from hw_2) with ⟨rfl, j_2, hj_2, he_2⟩ | rfl
  · skip
    subst he_2
    refine lv_if_eq (tgt := 34) hx hb dX8_has_5 (by decide) (fun c_5 => absurd c_5 (by decide +kernel)) (fun _ => ?_)
    refine lv_aload_n hx hb dX8_has_8 rfl (lv_at hl 0 rfl) ?_
    refine lv_iload_n hx hb dX8_has_9 rfl (lv_at hl 2 rfl) ?_
    have hPc := hP.sub (ws' := [(mo, .inr (8, [.int (nI n), .ref m1, .ref m2, .ref m3, .long ka, .long kb, .ref m6, .ref m7, .ref m8, .ref m9, .ref m10, .ref m11, .ref m12, .ref m13, .ref m14, .ref m15, .ref m16]))]) [0] rfl
    refine va_calli (va_runV (As := [.int p1]) (rest := []) ⟨hx, hb, hml, hown, hts⟩ (mz_m_isThing l dC dI cI cJ cZ mo m1 m2 m3 m6 m7 m8 m9 m10 m11 m12 m13 m14 m15 m16 n ka kb p1 s.heap (by first | assumption | omega)) (cwV 1 hts gX8_has_X8_isThing rfl rfl rfl (by decide +kernel) ⟨Nat.le_of_ble_eq_true rfl, Nat.le_of_ble_eq_true rfl⟩) ⟨fun a U g mk q => mz_blP q, va_recv hK hPc (ci := 8) (q0 := 0) rfl rfl, fun U hU hW => ⟨rfl, hU, hPc, va_K.moved hW.alike hK, mz_nw hW hN⟩⟩ rfl rfl hl.1 rfl (lv_room (Nat.le_of_ble_eq_true rfl)) dX8_has_10 ⟨Nat.le_of_ble_eq_true rfl, Nat.le_of_ble_eq_true rfl⟩) hS (fun q _ h => h.elim) (fun q h => h.elim) (fun r_10 u t H1 locs ht hvm hw_10 hB hz1 hk1 hS => ?_)
    have hE : s.heap = H1 := hB.symm.trans ht
    subst hE
    rcases (show (r_10 = 1 ∧ ∃ j : Nat, j < n ∧ p1 = nI j) ∨ r_10 = 0 from hw_10) with ⟨rfl, j_10, hj_10, he_10⟩ | rfl
    · skip
      subst he_10
      refine lv_if_eq (tgt := 34) hx hb dX8_has_13 (by decide) (fun c_13 => absurd c_13 (by decide +kernel)) (fun _ => ?_)
      exact absurd ⟨_, _, hj_2, hj_10, rfl, rfl⟩ hout
    · skip
      refine lv_if_eq (tgt := 34) hx hb dX8_has_13 (by decide) (fun _ => ?_) (fun c_13 => absurd (by decide +kernel) c_13)
      refine lv_iconst (v := 0) hx hb dX8_has_34 (by decide +kernel) ?_
      refine W.widen (k := 0) (n := 0) (Nat.le_of_ble_eq_true rfl) (Nat.le_of_ble_eq_true rfl) ?_
      exact W.zret (v := 0) hx hb hr (mz_nz (by decide +kernel)) (fun t ht hW => ⟨⟨0, (), rfl, rfl, ht⟩, hS.F ht⟩) hS.2.2 dX8_has_35
  · skip
    refine lv_if_eq (tgt := 34) hx hb dX8_has_5 (by decide) (fun _ => ?_) (fun c_5 => absurd (by decide +kernel) c_5)
    refine lv_iconst (v := 0) hx hb dX8_has_34 (by decide +kernel) ?_
    refine W.widen (k := 0) (n := 0) (Nat.le_of_ble_eq_true rfl) (Nat.le_of_ble_eq_true rfl) ?_
    exact W.zret (v := 0) hx hb hr (mz_nz (by decide +kernel)) (fun t ht hW => ⟨⟨0, (), rfl, rfl, ht⟩, hS.F ht⟩) hS.2.2 dX8_has_35
set_option maxHeartbeats 1000000 in
set_option maxRecDepth 100000 in
theorem mz_e_m_cut (l : Launch) (dC : Nat → ClassId) (dI : Nat → Nat → Nat) (cI cJ cZ : ClassId) (mo : Nat) (m1 : Nat) (m2 : Nat) (m3 : Nat) (m6 : Nat) (m7 : Nat) (m8 : Nat) (m9 : Nat) (m10 : Nat) (m11 : Nat) (m12 : Nat) (m13 : Nat) (m14 : Nat) (m15 : Nat) (m16 : Nat) (n : Nat) (ka : Int64) (kb : Int64) (fp : Nat → Int32) (fb : Nat → Int32) (i : Nat) (j : Nat) (sz : Nat) (hn : n ≤ 8) (hi : i < n) (hj : j < n) (ha : mz_acy n fp) : Met l yX8_cut wsX8_cut ({ frames := 2, cells := 0, slots := 0, locals := 43 }) (va_Pc [.ref mo, .int (nI i), .int (nI j)] (fun U => U.heap.size = sz ∧ va_P (dC, dI) vwCl [(mo, .inr (8, [.int (nI n), .ref m1, .ref m2, .ref m3, .long ka, .long kb, .ref m6, .ref m7, .ref m8, .ref m9, .ref m10, .ref m11, .ref m12, .ref m13, .ref m14, .ref m15, .ref m16])), (m2, .inl (cI, 8, .inl fp)), (m3, .inl (cI, 1024, .inl fb))] U.heap ∧ va_K (dC, dI) vwCl [(cI, FieldType.int), (cJ, FieldType.long), (cZ, FieldType.boolean)] U ∧ va_D (fun _ => True) [(mo, .inr (8, [.int (nI n), .ref m1, .ref m2, .ref m3, .long ka, .long kb, .ref m6, .ref m7, .ref m8, .ref m9, .ref m10, .ref m11, .ref m12, .ref m13, .ref m14, .ref m15, .ref m16])), (m2, .inl (cI, 8, .inl fp)), (m3, .inl (cI, 1024, .inl fb))] ∧ mz_N U)) (va_Qi (fun (r : Int32) (_ : Unit) => (r = 1 ∧ mz_t (fp j) i = true) ∨ (r = 0 ∧ mz_t (fp j) i = false)) (fun _ t => ∃ (gp : Nat → Int32), ∃ (gb : Nat → Int32), (mz_acy n gp) ∧ (mz_t (fp j) i = true → (gp = upd fp j ((fp j) &&& ((1 <<< ((nI i) &&& 31)) ^^^ (-1))) ∧ mz_bkp fb gb j 128)) ∧ (mz_t (fp j) i = false → (gp = fp ∧ gb = fb)) ∧ va_P (dC, dI) vwCl [(mo, .inr (8, [.int (nI n), .ref m1, .ref m2, .ref m3, .long ka, .long kb, .ref m6, .ref m7, .ref m8, .ref m9, .ref m10, .ref m11, .ref m12, .ref m13, .ref m14, .ref m15, .ref m16])), (m2, .inl (cI, 8, .inl gp)), (m3, .inl (cI, 1024, .inl gb))] t.heap ∧ va_D (va_A [(mo, .inr (8, [.int (nI n), .ref m1, .ref m2, .ref m3, .long ka, .long kb, .ref m6, .ref m7, .ref m8, .ref m9, .ref m10, .ref m11, .ref m12, .ref m13, .ref m14, .ref m15, .ref m16])), (m2, .inl (cI, 8, .inl fp)), (m3, .inl (cI, 1024, .inl fb))] sz) [(mo, .inr (8, [.int (nI n), .ref m1, .ref m2, .ref m3, .long ka, .long kb, .ref m6, .ref m7, .ref m8, .ref m9, .ref m10, .ref m11, .ref m12, .ref m13, .ref m14, .ref m15, .ref m16])), (m2, .inl (cI, 8, .inl gp)), (m3, .inl (cI, 1024, .inl gb))]) (va_A [(mo, .inr (8, [.int (nI n), .ref m1, .ref m2, .ref m3, .long ka, .long kb, .ref m6, .ref m7, .ref m8, .ref m9, .ref m10, .ref m11, .ref m12, .ref m13, .ref m14, .ref m15, .ref m16])), (m2, .inl (cI, 8, .inl fp)), (m3, .inl (cI, 1024, .inl fb))] sz)) 0 0 (va_A [(mo, .inr (8, [.int (nI n), .ref m1, .ref m2, .ref m3, .long ka, .long kb, .ref m6, .ref m7, .ref m8, .ref m9, .ref m10, .ref m11, .ref m12, .ref m13, .ref m14, .ref m15, .ref m16])), (m2, .inl (cI, 8, .inl fp)), (m3, .inl (cI, 1024, .inl fb))] sz) := by
  refine Met.ofW (cc := cX8_cut) (maxL := 3) (ret := (some .boolean)) (by decide) rfl ?_
  intro p e s m args below meth c s₁ B hml hv
  obtain ⟨rfl, hsz, hP, hK, hD0, hN⟩ := hv
  subst hsz
  have hx := B.exec
  have hb := B.bytes
  have hr := B.returns
  have hts := atoms_spec (ws := wsX8_cut) B.pre
  have hown : s.vm.findClass RX8 = some m.cls := findClass_of_methodNamed B.named
  have hlocks := B.notSynchronized
  have hD := hD0.self (sz := s.heap.size)
  generalize hAe : va_A [(mo, .inr (8, [.int (nI n), .ref m1, .ref m2, .ref m3, .long ka, .long kb, .ref m6, .ref m7, .ref m8, .ref m9, .ref m10, .ref m11, .ref m12, .ref m13, .ref m14, .ref m15, .ref m16])), (m2, .inl (cI, 8, .inl fp)), (m3, .inl (cI, 1024, .inl fb))] s.heap.size = A at hD ⊢
  have hA : ∀ q : Nat, s.heap.size ≤ q → A q := fun q h => by rw [← hAe]; exact Or.inr h
  have hS : va_S A s.heap s.heap [] := va_S.rf
  have hiX8 : ∀ w ∈ u_ws RX8 TX8 17, w ∈ wsX8_cut := by decide +kernel
  have hl := lv_entry ([.ref mo, .int (nI i), .int (nI j)]) (n := 3) (Nat.le_of_ble_eq_true rfl)
  rw [lg_entry_eq]
  generalize (lg_sl ([.ref mo, .int (nI i), .int (nI j)]) ++ List.replicate (3 - (lg_sl ([.ref mo, .int (nI i), .int (nI j)])).length) Slot.unset).toArray = ls at hl ⊢
  have hl : lv_has ls 3 [(0, .ref mo), (1, .int (nI i)), (2, .int (nI j))] := hl
  refine lv_aload_n hx hb dX8_cut_0 rfl (lv_at hl 0 rfl) ?_
  refine lv_iload_n hx hb dX8_cut_1 rfl (lv_at hl 1 rfl) ?_
  refine lv_iload_n hx hb dX8_cut_2 rfl (lv_at hl 2 rfl) ?_
  have hPc := hP.sub (ws' := [(mo, .inr (8, [.int (nI n), .ref m1, .ref m2, .ref m3, .long ka, .long kb, .ref m6, .ref m7, .ref m8, .ref m9, .ref m10, .ref m11, .ref m12, .ref m13, .ref m14, .ref m15, .ref m16])), (m2, .inl (cI, 8, .inl fp))]) [0, 1] rfl
  refine va_calli (va_runV (As := [.int (nI i), .int (nI j)]) (rest := []) ⟨hx, hb, hml, hown, hts⟩ (mz_e_m_has l dC dI cI cJ cZ mo m1 m2 m3 m6 m7 m8 m9 m10 m11 m12 m13 m14 m15 m16 n ka kb fp i j s.heap (by first | assumption | omega) (by first | assumption | omega) (by first | assumption | omega)) (cwV 2 hts gX8_cut_X8_has rfl rfl rfl (by decide +kernel) ⟨Nat.le_of_ble_eq_true rfl, Nat.le_of_ble_eq_true rfl⟩) ⟨fun a U g mk q => mz_blP q, va_recv hK hPc (ci := 8) (q0 := 0) rfl rfl, fun U hU hW => ⟨rfl, hU, hPc, va_K.moved hW.alike hK, mz_nw hW hN⟩⟩ rfl rfl hl.1 rfl (lv_room (Nat.le_of_ble_eq_true rfl)) dX8_cut_3 ⟨Nat.le_of_ble_eq_true rfl, Nat.le_of_ble_eq_true rfl⟩) hS (fun q _ h => h.elim) (fun q h => h.elim) (fun r_3 u t H1 locs ht hvm hw_3 hB hz1 hk1 hS => ?_)
  have hE : s.heap = H1 := hB.symm.trans ht
  subst hE
  rcases (show (r_3 = 1 ∧ mz_t (fp j) i = true) ∨ (r_3 = 0 ∧ mz_t (fp j) i = false) from hw_3) with ⟨rfl, ht_3⟩ | ⟨rfl, ht_3⟩
  · skip
    refine lv_if_ne (tgt := 11) hx hb dX8_cut_6 (by decide) (fun _ => ?_) (fun c_6 => absurd c_6 (by decide +kernel))
    refine lv_aload_n hx hb dX8_cut_11 rfl (lv_at hl 0 rfl) ?_
    refine va_get (D := (dC, dI)) (ci := 8) (v := .ref m2) (C := RX8) (T := TX8) (N := 17) hx hb hts hiX8 hown hK hP 0 rfl rfl 2 (by decide) (hts (.fieldLink RX8 13 "MadeItSoModel" "parents" "[I") (by decide +kernel)) (fun _ h9 => h9) rfl dX8_cut_12 ?_
    refine lv_iload_n hx hb dX8_cut_15 rfl (lv_at hl 2 rfl) ?_
    refine lv_dup2_11 hx hb dX8_cut_16 rfl rfl ?_
    refine va_iald hx hb hK hP 1 0 rfl rfl (vp_in_nI (by omega) (by omega)) dX8_cut_17 ?_
    refine mz_ti (y := (fp j)) (by rw [mz_cl (by omega)]) ?_
    refine lv_iconst (v := 1) hx hb dX8_cut_18 (by decide +kernel) ?_
    refine lv_iload_n hx hb dX8_cut_19 rfl (lv_at hl 1 rfl) ?_
    refine lv_ishl hx hb dX8_cut_20 ?_
    refine lv_iconst (v := (-1)) hx hb dX8_cut_21 (by decide +kernel) ?_
    refine lv_ixor hx hb dX8_cut_22 ?_
    refine lv_iand hx hb dX8_cut_23 ?_
    refine va_iast hx hb hK hP hD hS 1 0 rfl rfl (vp_in_nI (by omega) (by omega)) dX8_cut_24 (fun H locs hP hD hS => ?_)
    rw [mz_cl (n := j) (by omega)] at hP hD
    have hP : va_P (dC, dI) vwCl [(mo, .inr (8, [.int (nI n), .ref m1, .ref m2, .ref m3, .long ka, .long kb, .ref m6, .ref m7, .ref m8, .ref m9, .ref m10, .ref m11, .ref m12, .ref m13, .ref m14, .ref m15, .ref m16])), (m2, .inl (cI, 8, .inl (upd fp j ((fp j) &&& ((1 <<< ((nI i) &&& 31)) ^^^ (-1)))))), (m3, .inl (cI, 1024, .inl fb))] H := hP
    have hD : va_D A [(mo, .inr (8, [.int (nI n), .ref m1, .ref m2, .ref m3, .long ka, .long kb, .ref m6, .ref m7, .ref m8, .ref m9, .ref m10, .ref m11, .ref m12, .ref m13, .ref m14, .ref m15, .ref m16])), (m2, .inl (cI, 8, .inl (upd fp j ((fp j) &&& ((1 <<< ((nI i) &&& 31)) ^^^ (-1)))))), (m3, .inl (cI, 1024, .inl fb))] := hD
    refine lv_aload_n hx hb dX8_cut_25 rfl (lv_at hl 0 rfl) ?_
    refine lv_iload_n hx hb dX8_cut_26 rfl (lv_at hl 2 rfl) ?_
    have hPc := hP.sub (ws' := [(mo, .inr (8, [.int (nI n), .ref m1, .ref m2, .ref m3, .long ka, .long kb, .ref m6, .ref m7, .ref m8, .ref m9, .ref m10, .ref m11, .ref m12, .ref m13, .ref m14, .ref m15, .ref m16])), (m3, .inl (cI, 1024, .inl fb))]) [0, 2] rfl
    have hDc := hD.sub (ws' := [(mo, .inr (8, [.int (nI n), .ref m1, .ref m2, .ref m3, .long ka, .long kb, .ref m6, .ref m7, .ref m8, .ref m9, .ref m10, .ref m11, .ref m12, .ref m13, .ref m14, .ref m15, .ref m16])), (m3, .inl (cI, 1024, .inl fb))]) [0, 2] (by decide) rfl
    have hFc := va_free (wc := [(mo, .inr (8, [.int (nI n), .ref m1, .ref m2, .ref m3, .long ka, .long kb, .ref m6, .ref m7, .ref m8, .ref m9, .ref m10, .ref m11, .ref m12, .ref m13, .ref m14, .ref m15, .ref m16])), (m3, .inl (cI, 1024, .inl fb))]) hD hS hA [0, 2] rfl
    refine va_callv (va_runV (As := [.int (nI j)]) (rest := []) ⟨hx, hb, hml, hown, hts⟩ (mz_e_m_fresh l dC dI cI cJ cZ mo m1 m2 m3 m6 m7 m8 m9 m10 m11 m12 m13 m14 m15 m16 n ka kb fb j H.size (by first | assumption | omega)) (cwV 1 hts gX8_cut_X8_fresh rfl rfl rfl (by decide +kernel) ⟨Nat.le_of_ble_eq_true rfl, Nat.le_of_ble_eq_true rfl⟩) ⟨fun a U g mk q => mz_blI q, va_recv hK hPc (ci := 8) (q0 := 0) rfl rfl, fun U hU hW => ⟨rfl, by rw [hU], by rw [hU]; exact hPc, va_K.moved hW.alike hK, hDc.weaken (fun _ _ _ _ => trivial), mz_nw hW hN⟩⟩ rfl rfl hl.1 rfl (lv_room (Nat.le_of_ble_eq_true rfl)) dX8_cut_27 ⟨Nat.le_of_ble_eq_true rfl, Nat.le_of_ble_eq_true rfl⟩) hS (fun q _ h => hFc q h) hFc (fun u t H1 locs ht hvm hw_27 hB hz1 hk1 hS => ?_)
    obtain ⟨gb_27, hx0_27, hP1, hD1⟩ := hB
    rw [ht] at hP1
    obtain ⟨hP, hD⟩ := va_join (wr := [(m2, .inl (cI, 8, .inl (upd fp j ((fp j) &&& ((1 <<< ((nI i) &&& 31)) ^^^ (-1))))))]) (w1 := [(mo, .inr (8, [.int (nI n), .ref m1, .ref m2, .ref m3, .long ka, .long kb, .ref m6, .ref m7, .ref m8, .ref m9, .ref m10, .ref m11, .ref m12, .ref m13, .ref m14, .ref m15, .ref m16])), (m3, .inl (cI, 1024, .inl gb_27))]) hP hD [0, 2] [1] rfl rfl (by decide) (by decide) hk1 hFc hP1 hD1
    generalize H1 = H at hP hS ⊢
    have hP : va_P (dC, dI) vwCl [(m2, .inl (cI, 8, .inl (upd fp j ((fp j) &&& ((1 <<< ((nI i) &&& 31)) ^^^ (-1)))))), (mo, .inr (8, [.int (nI n), .ref m1, .ref m2, .ref m3, .long ka, .long kb, .ref m6, .ref m7, .ref m8, .ref m9, .ref m10, .ref m11, .ref m12, .ref m13, .ref m14, .ref m15, .ref m16])), (m3, .inl (cI, 1024, .inl gb_27))] H := hP
    have hD : va_D A [(m2, .inl (cI, 8, .inl (upd fp j ((fp j) &&& ((1 <<< ((nI i) &&& 31)) ^^^ (-1)))))), (mo, .inr (8, [.int (nI n), .ref m1, .ref m2, .ref m3, .long ka, .long kb, .ref m6, .ref m7, .ref m8, .ref m9, .ref m10, .ref m11, .ref m12, .ref m13, .ref m14, .ref m15, .ref m16])), (m3, .inl (cI, 1024, .inl gb_27))] := hD
    refine lv_iconst (v := 1) hx hb dX8_cut_30 (by decide +kernel) ?_
    have hP9 := hP.sub (ws' := [(mo, .inr (8, [.int (nI n), .ref m1, .ref m2, .ref m3, .long ka, .long kb, .ref m6, .ref m7, .ref m8, .ref m9, .ref m10, .ref m11, .ref m12, .ref m13, .ref m14, .ref m15, .ref m16])), (m2, .inl (cI, 8, .inl (upd fp j ((fp j) &&& ((1 <<< ((nI i) &&& 31)) ^^^ (-1)))))), (m3, .inl (cI, 1024, .inl gb_27))]) [1, 0, 2] rfl
    have hD9 := hD.sub (ws' := [(mo, .inr (8, [.int (nI n), .ref m1, .ref m2, .ref m3, .long ka, .long kb, .ref m6, .ref m7, .ref m8, .ref m9, .ref m10, .ref m11, .ref m12, .ref m13, .ref m14, .ref m15, .ref m16])), (m2, .inl (cI, 8, .inl (upd fp j ((fp j) &&& ((1 <<< ((nI i) &&& 31)) ^^^ (-1)))))), (m3, .inl (cI, 1024, .inl gb_27))]) [1, 0, 2] (by decide) rfl
    refine W.widen (k := 0) (n := 0) (Nat.le_of_ble_eq_true rfl) (Nat.le_of_ble_eq_true rfl) ?_
    exact W.zret (v := 1) hx hb hr (mz_nz (by decide +kernel)) (fun t ht hW => ⟨⟨1, (), rfl, Or.inl ⟨rfl, ht_3⟩, (upd fp j ((fp j) &&& ((1 <<< ((nI i) &&& 31)) ^^^ (-1)))), gb_27, (mz_cut ha), (fun _ => ⟨rfl, hx0_27⟩), (fun h => by rw [ht_3] at h; cases h), by rw [ht]; exact hP9, hD9⟩, hS.F ht⟩) hS.2.2 dX8_cut_31
  · skip
    refine lv_if_ne (tgt := 11) hx hb dX8_cut_6 (by decide) (fun c_6 => absurd (by decide +kernel) c_6) (fun _ => ?_)
    refine lv_iconst (v := 0) hx hb dX8_cut_9 (by decide +kernel) ?_
    have hP9 := hP.sub (ws' := [(mo, .inr (8, [.int (nI n), .ref m1, .ref m2, .ref m3, .long ka, .long kb, .ref m6, .ref m7, .ref m8, .ref m9, .ref m10, .ref m11, .ref m12, .ref m13, .ref m14, .ref m15, .ref m16])), (m2, .inl (cI, 8, .inl fp)), (m3, .inl (cI, 1024, .inl fb))]) [0, 1, 2] rfl
    have hD9 := hD.sub (ws' := [(mo, .inr (8, [.int (nI n), .ref m1, .ref m2, .ref m3, .long ka, .long kb, .ref m6, .ref m7, .ref m8, .ref m9, .ref m10, .ref m11, .ref m12, .ref m13, .ref m14, .ref m15, .ref m16])), (m2, .inl (cI, 8, .inl fp)), (m3, .inl (cI, 1024, .inl fb))]) [0, 1, 2] (by decide) rfl
    refine W.widen (k := 0) (n := 0) (Nat.le_of_ble_eq_true rfl) (Nat.le_of_ble_eq_true rfl) ?_
    exact W.zret (v := 0) hx hb hr (mz_nz (by decide +kernel)) (fun t ht hW => ⟨⟨0, (), rfl, Or.inr ⟨rfl, ht_3⟩, fp, fb, ha, (fun h => by rw [ht_3] at h; cases h), (fun _ => ⟨rfl, rfl⟩), by rw [ht]; exact hP9, hD9⟩, hS.F ht⟩) hS.2.2 dX8_cut_10
set_option maxHeartbeats 1000000 in
set_option maxRecDepth 100000 in
theorem mz_e_m_cut_out (l : Launch) (dC : Nat → ClassId) (dI : Nat → Nat → Nat) (cI cJ cZ : ClassId) (mo : Nat) (m1 : Nat) (m2 : Nat) (m3 : Nat) (m6 : Nat) (m7 : Nat) (m8 : Nat) (m9 : Nat) (m10 : Nat) (m11 : Nat) (m12 : Nat) (m13 : Nat) (m14 : Nat) (m15 : Nat) (m16 : Nat) (n : Nat) (ka : Int64) (kb : Int64) (p1 : Int32) (p2 : Int32) (Hq : Heap) (hn : n ≤ 8) (hout : ¬ ∃ i j : Nat, i < n ∧ j < n ∧ p1 = nI i ∧ p2 = nI j) : Met l yX8_cut wsX8_cut ({ frames := 2, cells := 0, slots := 0, locals := 43 }) (va_Pc [.ref mo, .int p1, .int p2] (fun U => U.heap = Hq ∧ va_P (dC, dI) vwCl [(mo, .inr (8, [.int (nI n), .ref m1, .ref m2, .ref m3, .long ka, .long kb, .ref m6, .ref m7, .ref m8, .ref m9, .ref m10, .ref m11, .ref m12, .ref m13, .ref m14, .ref m15, .ref m16]))] Hq ∧ va_K (dC, dI) vwCl [(cI, FieldType.int), (cJ, FieldType.long), (cZ, FieldType.boolean)] U ∧ mz_N U)) (va_Qi (fun (r : Int32) (_ : Unit) => r = 0) (fun _ t => t.heap = Hq) (fun _ : Nat => False)) 0 0 (fun _ : Nat => False) := by
  refine Met.ofW (cc := cX8_cut) (maxL := 3) (ret := (some .boolean)) (by decide) rfl ?_
  intro p e s m args below meth c s₁ B hml hv
  obtain ⟨rfl, hH, hP, hK, hN⟩ := hv
  subst hH
  have hx := B.exec
  have hb := B.bytes
  have hr := B.returns
  have hts := atoms_spec (ws := wsX8_cut) B.pre
  have hown : s.vm.findClass RX8 = some m.cls := findClass_of_methodNamed B.named
  have hlocks := B.notSynchronized
  have hS : va_S (fun _ : Nat => False) s.heap s.heap [] := va_S.rf
  have hl := lv_entry ([.ref mo, .int p1, .int p2]) (n := 3) (Nat.le_of_ble_eq_true rfl)
  rw [lg_entry_eq]
  generalize (lg_sl ([.ref mo, .int p1, .int p2]) ++ List.replicate (3 - (lg_sl ([.ref mo, .int p1, .int p2])).length) Slot.unset).toArray = ls at hl ⊢
  have hl : lv_has ls 3 [(0, .ref mo), (1, .int p1), (2, .int p2)] := hl
  refine lv_aload_n hx hb dX8_cut_0 rfl (lv_at hl 0 rfl) ?_
  refine lv_iload_n hx hb dX8_cut_1 rfl (lv_at hl 1 rfl) ?_
  refine lv_iload_n hx hb dX8_cut_2 rfl (lv_at hl 2 rfl) ?_
  have hPc := hP.sub (ws' := [(mo, .inr (8, [.int (nI n), .ref m1, .ref m2, .ref m3, .long ka, .long kb, .ref m6, .ref m7, .ref m8, .ref m9, .ref m10, .ref m11, .ref m12, .ref m13, .ref m14, .ref m15, .ref m16]))]) [0] rfl
  refine va_calli (va_runV (As := [.int p1, .int p2]) (rest := []) ⟨hx, hb, hml, hown, hts⟩ (mz_e_m_has_out l dC dI cI cJ cZ mo m1 m2 m3 m6 m7 m8 m9 m10 m11 m12 m13 m14 m15 m16 n ka kb p1 p2 s.heap (by first | assumption | omega) hout) (cwV 2 hts gX8_cut_X8_has rfl rfl rfl (by decide +kernel) ⟨Nat.le_of_ble_eq_true rfl, Nat.le_of_ble_eq_true rfl⟩) ⟨fun a U g mk q => mz_blP q, va_recv hK hPc (ci := 8) (q0 := 0) rfl rfl, fun U hU hW => ⟨rfl, hU, hPc, va_K.moved hW.alike hK, mz_nw hW hN⟩⟩ rfl rfl hl.1 rfl (lv_room (Nat.le_of_ble_eq_true rfl)) dX8_cut_3 ⟨Nat.le_of_ble_eq_true rfl, Nat.le_of_ble_eq_true rfl⟩) hS (fun q _ h => h.elim) (fun q h => h.elim) (fun r_3 u t H1 locs ht hvm hw_3 hB hz1 hk1 hS => ?_)
  have hE : s.heap = H1 := hB.symm.trans ht
  subst hE
  obtain rfl : r_3 = 0 := hw_3
  refine lv_if_ne (tgt := 11) hx hb dX8_cut_6 (by decide) (fun c_6 => absurd (by decide +kernel) c_6) (fun _ => ?_)
  refine lv_iconst (v := 0) hx hb dX8_cut_9 (by decide +kernel) ?_
  refine W.widen (k := 0) (n := 0) (Nat.le_of_ble_eq_true rfl) (Nat.le_of_ble_eq_true rfl) ?_
  exact W.zret (v := 0) hx hb hr (mz_nz (by decide +kernel)) (fun t ht hW => ⟨⟨0, (), rfl, rfl, ht⟩, hS.F ht⟩) hS.2.2 dX8_cut_10
set_option maxHeartbeats 1000000 in
set_option maxRecDepth 100000 in
theorem mz_e_x_turn (l : Launch) (dC : Nat → ClassId) (dI : Nat → Nat → Nat) (cI cJ cZ : ClassId) (mx : Nat) (dr : Nat) (th : Nat) (bk : Nat) (wt : Nat) (tt : Nat) (lh : Nat) (la : Nat) (sh : Int32) (ab : Int64) (be : Int64) (dp : Nat) (dc : Nat) (n : Nat) (fp : Nat → Int32) (fc : Nat → Int32) (bp : Nat) (fb : Nat → Int32) (i : Nat) (j : Nat) (sz : Nat) (hn : n ≤ 8) (hi : i < n) (hj : j < n) (hf8 : ∀ k, k < 8 → ∀ j, j < 32 → mz_t (fc k) j = true → j < 8) : Met l yX7_turn wsX7_turn ({ frames := 6, cells := 0, slots := 0, locals := 133 }) (va_Pc [.ref mx, .int (nI i), .int (nI j)] (fun U => U.heap.size = sz ∧ va_P (dC, dI) vwCl [(mx, .inr (7, [.ref dr, .ref th, .ref bk, .ref wt, .ref tt, .ref lh, .ref la, .int sh, .long ab, .long be])), (dr, .inr (2, [.ref dp, .ref dc, .int (nI n)])), (dp, .inl (cI, 8, .inl fp)), (dc, .inl (cI, 8, .inl fc)), (bk, .inr (1, [.ref bp])), (bp, .inl (cI, 1024, .inl fb))] U.heap ∧ va_K (dC, dI) vwCl [(cI, FieldType.int), (cJ, FieldType.long), (cZ, FieldType.boolean)] U ∧ va_D (fun _ => True) [(mx, .inr (7, [.ref dr, .ref th, .ref bk, .ref wt, .ref tt, .ref lh, .ref la, .int sh, .long ab, .long be])), (dr, .inr (2, [.ref dp, .ref dc, .int (nI n)])), (dp, .inl (cI, 8, .inl fp)), (dc, .inl (cI, 8, .inl fc)), (bk, .inr (1, [.ref bp])), (bp, .inl (cI, 1024, .inl fb))] ∧ mz_N U)) (va_Qi (fun (r : Int32) (_ : Unit) => (r = 1 ∧ mz_t (fc i) j = true ∧ mz_can (upd fp j ((fp j) &&& ((1 <<< ((nI i) &&& 31)) ^^^ (-1)))) (upd fc i ((fc i) &&& ((1 <<< ((nI j) &&& 31)) ^^^ (-1)))) j i) ∨ (r = 0 ∧ (mz_t (fc i) j = false ∨ mz_cant (upd fp j ((fp j) &&& ((1 <<< ((nI i) &&& 31)) ^^^ (-1)))) (upd fc i ((fc i) &&& ((1 <<< ((nI j) &&& 31)) ^^^ (-1)))) j i))) (fun _ t => ∃ (gp : Nat → Int32), ∃ (gc : Nat → Int32), ∃ (gb : Nat → Int32), (mz_t (fc i) j = true → mz_t (fp j) i = true → mz_can (upd fp j ((fp j) &&& ((1 <<< ((nI i) &&& 31)) ^^^ (-1)))) (upd fc i ((fc i) &&& ((1 <<< ((nI j) &&& 31)) ^^^ (-1)))) j i → (gp = upd (upd fp j ((fp j) &&& ((1 <<< ((nI i) &&& 31)) ^^^ (-1)))) i (((upd fp j ((fp j) &&& ((1 <<< ((nI i) &&& 31)) ^^^ (-1)))) i) ||| (1 <<< ((nI j) &&& 31))) ∧ gc = upd (upd fc i ((fc i) &&& ((1 <<< ((nI j) &&& 31)) ^^^ (-1)))) j (((upd fc i ((fc i) &&& ((1 <<< ((nI j) &&& 31)) ^^^ (-1)))) j) ||| (1 <<< ((nI i) &&& 31))) ∧ ∃ g1, mz_bkp fb g1 i 128 ∧ mz_bkp g1 gb j 128)) ∧ (mz_t (fc i) j = true → mz_t (fp j) i = true → mz_cant (upd fp j ((fp j) &&& ((1 <<< ((nI i) &&& 31)) ^^^ (-1)))) (upd fc i ((fc i) &&& ((1 <<< ((nI j) &&& 31)) ^^^ (-1)))) j i → (gp = fp ∧ gc = fc ∧ gb = fb)) ∧ (mz_t (fc i) j = false → (gp = fp ∧ gc = fc ∧ gb = fb)) ∧ va_P (dC, dI) vwCl [(mx, .inr (7, [.ref dr, .ref th, .ref bk, .ref wt, .ref tt, .ref lh, .ref la, .int sh, .long ab, .long be])), (dr, .inr (2, [.ref dp, .ref dc, .int (nI n)])), (dp, .inl (cI, 8, .inl gp)), (dc, .inl (cI, 8, .inl gc)), (bk, .inr (1, [.ref bp])), (bp, .inl (cI, 1024, .inl gb))] t.heap ∧ va_D (va_A [(mx, .inr (7, [.ref dr, .ref th, .ref bk, .ref wt, .ref tt, .ref lh, .ref la, .int sh, .long ab, .long be])), (dr, .inr (2, [.ref dp, .ref dc, .int (nI n)])), (dp, .inl (cI, 8, .inl fp)), (dc, .inl (cI, 8, .inl fc)), (bk, .inr (1, [.ref bp])), (bp, .inl (cI, 1024, .inl fb))] sz) [(mx, .inr (7, [.ref dr, .ref th, .ref bk, .ref wt, .ref tt, .ref lh, .ref la, .int sh, .long ab, .long be])), (dr, .inr (2, [.ref dp, .ref dc, .int (nI n)])), (dp, .inl (cI, 8, .inl gp)), (dc, .inl (cI, 8, .inl gc)), (bk, .inr (1, [.ref bp])), (bp, .inl (cI, 1024, .inl gb))]) (va_A [(mx, .inr (7, [.ref dr, .ref th, .ref bk, .ref wt, .ref tt, .ref lh, .ref la, .int sh, .long ab, .long be])), (dr, .inr (2, [.ref dp, .ref dc, .int (nI n)])), (dp, .inl (cI, 8, .inl fp)), (dc, .inl (cI, 8, .inl fc)), (bk, .inr (1, [.ref bp])), (bp, .inl (cI, 1024, .inl fb))] sz)) 0 0 (va_A [(mx, .inr (7, [.ref dr, .ref th, .ref bk, .ref wt, .ref tt, .ref lh, .ref la, .int sh, .long ab, .long be])), (dr, .inr (2, [.ref dp, .ref dc, .int (nI n)])), (dp, .inl (cI, 8, .inl fp)), (dc, .inl (cI, 8, .inl fc)), (bk, .inr (1, [.ref bp])), (bp, .inl (cI, 1024, .inl fb))] sz) := by
  refine Met.ofW (cc := cX7_turn) (maxL := 3) (ret := (some .boolean)) (by decide) rfl ?_
  intro p e s m args below meth c s₁ B hml hv
  obtain ⟨rfl, hsz, hP, hK, hD0, hN⟩ := hv
  subst hsz
  have hx := B.exec
  have hb := B.bytes
  have hr := B.returns
  have hts := atoms_spec (ws := wsX7_turn) B.pre
  have hown : s.vm.findClass RX7 = some m.cls := findClass_of_methodNamed B.named
  have hlocks := B.notSynchronized
  have hD := hD0.self (sz := s.heap.size)
  generalize hAe : va_A [(mx, .inr (7, [.ref dr, .ref th, .ref bk, .ref wt, .ref tt, .ref lh, .ref la, .int sh, .long ab, .long be])), (dr, .inr (2, [.ref dp, .ref dc, .int (nI n)])), (dp, .inl (cI, 8, .inl fp)), (dc, .inl (cI, 8, .inl fc)), (bk, .inr (1, [.ref bp])), (bp, .inl (cI, 1024, .inl fb))] s.heap.size = A at hD ⊢
  have hA : ∀ q : Nat, s.heap.size ≤ q → A q := fun q h => by rw [← hAe]; exact Or.inr h
  have hS : va_S A s.heap s.heap [] := va_S.rf
  have hiX7 : ∀ w ∈ u_ws RX7 TX7 10, w ∈ wsX7_turn := by decide +kernel
  have hl := lv_entry ([.ref mx, .int (nI i), .int (nI j)]) (n := 3) (Nat.le_of_ble_eq_true rfl)
  rw [lg_entry_eq]
  generalize (lg_sl ([.ref mx, .int (nI i), .int (nI j)]) ++ List.replicate (3 - (lg_sl ([.ref mx, .int (nI i), .int (nI j)])).length) Slot.unset).toArray = ls at hl ⊢
  have hl : lv_has ls 3 [(0, .ref mx), (1, .int (nI i)), (2, .int (nI j))] := hl
  refine lv_aload_n hx hb dX7_turn_0 rfl (lv_at hl 0 rfl) ?_
  refine va_get (D := (dC, dI)) (ci := 7) (v := .ref dr) (C := RX7) (T := TX7) (N := 10) hx hb hts hiX7 hown hK hP 0 rfl rfl 0 (by decide) (hts (.fieldLink RX7 12 "MadeItSo" "drawing" "LMadeItSo$Drawing;") (by decide +kernel)) (fun _ h9 => h9) rfl dX7_turn_1 ?_
  refine lv_iload_n hx hb dX7_turn_4 rfl (lv_at hl 1 rfl) ?_
  refine lv_iload_n hx hb dX7_turn_5 rfl (lv_at hl 2 rfl) ?_
  have hPc := hP.sub (ws' := [(dr, .inr (2, [.ref dp, .ref dc, .int (nI n)])), (dc, .inl (cI, 8, .inl fc))]) [1, 3] rfl
  refine va_calli (va_runV (As := [.int (nI i), .int (nI j)]) (rest := []) ⟨hx, hb, hml, hown, hts⟩ (mz_e_leads l dC dI cI cJ cZ dr dp dc n fc i j s.heap (by first | assumption | omega) (by first | assumption | omega) (by first | assumption | omega)) (cwV 2 hts gX7_turn_X2_leads rfl rfl rfl (by decide +kernel) ⟨Nat.le_of_ble_eq_true rfl, Nat.le_of_ble_eq_true rfl⟩) ⟨fun a U g mk q => mz_blP q, va_recv hK hPc (ci := 2) (q0 := 0) rfl rfl, fun U hU hW => ⟨rfl, hU, hPc, va_K.moved hW.alike hK, mz_nw hW hN⟩⟩ rfl rfl hl.1 rfl (lv_room (Nat.le_of_ble_eq_true rfl)) dX7_turn_6 ⟨Nat.le_of_ble_eq_true rfl, Nat.le_of_ble_eq_true rfl⟩) hS (fun q _ h => h.elim) (fun q h => h.elim) (fun r_6 u t H1 locs ht hvm hw_6 hB hz1 hk1 hS => ?_)
  have hE : s.heap = H1 := hB.symm.trans ht
  subst hE
  rcases (show (r_6 = 1 ∧ mz_t (fc i) j = true) ∨ (r_6 = 0 ∧ mz_t (fc i) j = false) from hw_6) with ⟨rfl, ht_6⟩ | ⟨rfl, ht_6⟩
  · skip
    refine lv_if_ne (tgt := 14) hx hb dX7_turn_9 (by decide) (fun _ => ?_) (fun c_9 => absurd c_9 (by decide +kernel))
    refine lv_aload_n hx hb dX7_turn_14 rfl (lv_at hl 0 rfl) ?_
    refine va_get (D := (dC, dI)) (ci := 7) (v := .ref dr) (C := RX7) (T := TX7) (N := 10) hx hb hts hiX7 hown hK hP 0 rfl rfl 0 (by decide) (hts (.fieldLink RX7 12 "MadeItSo" "drawing" "LMadeItSo$Drawing;") (by decide +kernel)) (fun _ h9 => h9) rfl dX7_turn_15 ?_
    refine lv_iload_n hx hb dX7_turn_18 rfl (lv_at hl 1 rfl) ?_
    refine lv_iload_n hx hb dX7_turn_19 rfl (lv_at hl 2 rfl) ?_
    have hPc := hP.sub (ws' := [(dr, .inr (2, [.ref dp, .ref dc, .int (nI n)])), (dp, .inl (cI, 8, .inl fp)), (dc, .inl (cI, 8, .inl fc))]) [1, 2, 3] rfl
    have hDc := hD.sub (ws' := [(dr, .inr (2, [.ref dp, .ref dc, .int (nI n)])), (dp, .inl (cI, 8, .inl fp)), (dc, .inl (cI, 8, .inl fc))]) [1, 2, 3] (by decide) rfl
    have hFc := va_free (wc := [(dr, .inr (2, [.ref dp, .ref dc, .int (nI n)])), (dp, .inl (cI, 8, .inl fp)), (dc, .inl (cI, 8, .inl fc))]) hD hS hA [1, 2, 3] rfl
    refine va_callv (va_runV (As := [.int (nI i), .int (nI j)]) (rest := []) ⟨hx, hb, hml, hown, hts⟩ (mz_e_part l dC dI cI cJ cZ dr dp dc n fp fc i j s.heap.size (by first | assumption | omega) (by first | assumption | omega) (by first | assumption | omega)) (cwV 2 hts gX7_turn_X2_part rfl rfl rfl (by decide +kernel) ⟨Nat.le_of_ble_eq_true rfl, Nat.le_of_ble_eq_true rfl⟩) ⟨fun a U g mk q => mz_blI q, va_recv hK hPc (ci := 2) (q0 := 0) rfl rfl, fun U hU hW => ⟨rfl, by rw [hU], by rw [hU]; exact hPc, va_K.moved hW.alike hK, hDc.weaken (fun _ _ _ _ => trivial), mz_nw hW hN⟩⟩ rfl rfl hl.1 rfl (lv_room (Nat.le_of_ble_eq_true rfl)) dX7_turn_20 ⟨Nat.le_of_ble_eq_true rfl, Nat.le_of_ble_eq_true rfl⟩) hS (fun q _ h => hFc q h) hFc (fun u t H1 locs ht hvm hw_20 hB hz1 hk1 hS => ?_)
    obtain ⟨gp_20, gc_20, hx0_20, hx1_20, hP1, hD1⟩ := hB
    rw [ht] at hP1
    obtain ⟨hP, hD⟩ := va_join (wr := [(mx, .inr (7, [.ref dr, .ref th, .ref bk, .ref wt, .ref tt, .ref lh, .ref la, .int sh, .long ab, .long be])), (bk, .inr (1, [.ref bp])), (bp, .inl (cI, 1024, .inl fb))]) (w1 := [(dr, .inr (2, [.ref dp, .ref dc, .int (nI n)])), (dp, .inl (cI, 8, .inl gp_20)), (dc, .inl (cI, 8, .inl gc_20))]) hP hD [1, 2, 3] [0, 4, 5] rfl rfl (by decide) (by decide) hk1 hFc hP1 hD1
    generalize H1 = H at hP hS ⊢
    have hP : va_P (dC, dI) vwCl [(mx, .inr (7, [.ref dr, .ref th, .ref bk, .ref wt, .ref tt, .ref lh, .ref la, .int sh, .long ab, .long be])), (bk, .inr (1, [.ref bp])), (bp, .inl (cI, 1024, .inl fb)), (dr, .inr (2, [.ref dp, .ref dc, .int (nI n)])), (dp, .inl (cI, 8, .inl gp_20)), (dc, .inl (cI, 8, .inl gc_20))] H := hP
    have hD : va_D A [(mx, .inr (7, [.ref dr, .ref th, .ref bk, .ref wt, .ref tt, .ref lh, .ref la, .int sh, .long ab, .long be])), (bk, .inr (1, [.ref bp])), (bp, .inl (cI, 1024, .inl fb)), (dr, .inr (2, [.ref dp, .ref dc, .int (nI n)])), (dp, .inl (cI, 8, .inl gp_20)), (dc, .inl (cI, 8, .inl gc_20))] := hD
    refine lv_aload_n hx hb dX7_turn_23 rfl (lv_at hl 0 rfl) ?_
    refine va_get (D := (dC, dI)) (ci := 7) (v := .ref dr) (C := RX7) (T := TX7) (N := 10) hx hb hts hiX7 hown hK hP 0 rfl rfl 0 (by decide) (hts (.fieldLink RX7 12 "MadeItSo" "drawing" "LMadeItSo$Drawing;") (by decide +kernel)) (fun _ h9 => h9) rfl dX7_turn_24 ?_
    refine lv_iload_n hx hb dX7_turn_27 rfl (lv_at hl 2 rfl) ?_
    refine lv_iload_n hx hb dX7_turn_28 rfl (lv_at hl 1 rfl) ?_
    have hPc := hP.sub (ws' := [(dr, .inr (2, [.ref dp, .ref dc, .int (nI n)])), (dp, .inl (cI, 8, .inl gp_20)), (dc, .inl (cI, 8, .inl gc_20))]) [3, 4, 5] rfl
    refine va_calli (va_runV (As := [.int (nI j), .int (nI i)]) (rest := []) ⟨hx, hb, hml, hown, hts⟩ (mz_e_canJoin l dC dI cI cJ cZ dr dp dc n gp_20 gc_20 j i H (by first | assumption | omega) (by first | assumption | omega) (by first | assumption | omega) (by rw [hx1_20]; exact mz_hf8_cut hf8)) (cwV 2 hts gX7_turn_X2_canJoin rfl rfl rfl (by decide +kernel) ⟨Nat.le_of_ble_eq_true rfl, Nat.le_of_ble_eq_true rfl⟩) ⟨fun a U g mk q => mz_blP q, va_recv hK hPc (ci := 2) (q0 := 0) rfl rfl, fun U hU hW => ⟨rfl, hU, hPc, va_K.moved hW.alike hK, mz_nw hW hN⟩⟩ rfl rfl hl.1 rfl (lv_room (Nat.le_of_ble_eq_true rfl)) dX7_turn_29 ⟨Nat.le_of_ble_eq_true rfl, Nat.le_of_ble_eq_true rfl⟩) hS (fun q _ h => h.elim) (fun q h => h.elim) (fun r_29 u t H1 locs ht hvm hw_29 hB hz1 hk1 hS => ?_)
    have hE : H = H1 := hB.symm.trans ht
    subst hE
    rcases (show (r_29 = 1 ∧ (¬ j = i ∧ mz_t ((gp_20 j) ||| (gc_20 j)) i = false ∧ ∃ S, mz_lst gc_20 (gc_20 i) S ∧ mz_t S j = false)) ∨ (r_29 = 0 ∧ (j = i ∨ mz_t ((gp_20 j) ||| (gc_20 j)) i = true ∨ ∃ S, mz_lst gc_20 (gc_20 i) S ∧ mz_t S j = true)) from hw_29) with ⟨rfl, hc_29⟩ | ⟨rfl, hc_29⟩
    · skip
      refine lv_if_ne (tgt := 46) hx hb dX7_turn_32 (by decide) (fun _ => ?_) (fun c_32 => absurd c_32 (by decide +kernel))
      refine lv_aload_n hx hb dX7_turn_46 rfl (lv_at hl 0 rfl) ?_
      refine va_get (D := (dC, dI)) (ci := 7) (v := .ref dr) (C := RX7) (T := TX7) (N := 10) hx hb hts hiX7 hown hK hP 0 rfl rfl 0 (by decide) (hts (.fieldLink RX7 12 "MadeItSo" "drawing" "LMadeItSo$Drawing;") (by decide +kernel)) (fun _ h9 => h9) rfl dX7_turn_47 ?_
      refine lv_iload_n hx hb dX7_turn_50 rfl (lv_at hl 2 rfl) ?_
      refine lv_iload_n hx hb dX7_turn_51 rfl (lv_at hl 1 rfl) ?_
      have hPc := hP.sub (ws' := [(dr, .inr (2, [.ref dp, .ref dc, .int (nI n)])), (dp, .inl (cI, 8, .inl gp_20)), (dc, .inl (cI, 8, .inl gc_20))]) [3, 4, 5] rfl
      have hDc := hD.sub (ws' := [(dr, .inr (2, [.ref dp, .ref dc, .int (nI n)])), (dp, .inl (cI, 8, .inl gp_20)), (dc, .inl (cI, 8, .inl gc_20))]) [3, 4, 5] (by decide) rfl
      have hFc := va_free (wc := [(dr, .inr (2, [.ref dp, .ref dc, .int (nI n)])), (dp, .inl (cI, 8, .inl gp_20)), (dc, .inl (cI, 8, .inl gc_20))]) hD hS hA [3, 4, 5] rfl
      refine va_callv (va_runV (As := [.int (nI j), .int (nI i)]) (rest := []) ⟨hx, hb, hml, hown, hts⟩ (mz_e_join l dC dI cI cJ cZ dr dp dc n gp_20 gc_20 j i H.size (by first | assumption | omega) (by first | assumption | omega) (by first | assumption | omega)) (cwV 2 hts gX7_turn_X2_join rfl rfl rfl (by decide +kernel) ⟨Nat.le_of_ble_eq_true rfl, Nat.le_of_ble_eq_true rfl⟩) ⟨fun a U g mk q => mz_blI q, va_recv hK hPc (ci := 2) (q0 := 0) rfl rfl, fun U hU hW => ⟨rfl, by rw [hU], by rw [hU]; exact hPc, va_K.moved hW.alike hK, hDc.weaken (fun _ _ _ _ => trivial), mz_nw hW hN⟩⟩ rfl rfl hl.1 rfl (lv_room (Nat.le_of_ble_eq_true rfl)) dX7_turn_52 ⟨Nat.le_of_ble_eq_true rfl, Nat.le_of_ble_eq_true rfl⟩) hS (fun q _ h => hFc q h) hFc (fun u t H1 locs ht hvm hw_52 hB hz1 hk1 hS => ?_)
      obtain ⟨gp_52, gc_52, hx0_52, hx1_52, hP1, hD1⟩ := hB
      rw [ht] at hP1
      obtain ⟨hP, hD⟩ := va_join (wr := [(mx, .inr (7, [.ref dr, .ref th, .ref bk, .ref wt, .ref tt, .ref lh, .ref la, .int sh, .long ab, .long be])), (bk, .inr (1, [.ref bp])), (bp, .inl (cI, 1024, .inl fb))]) (w1 := [(dr, .inr (2, [.ref dp, .ref dc, .int (nI n)])), (dp, .inl (cI, 8, .inl gp_52)), (dc, .inl (cI, 8, .inl gc_52))]) hP hD [3, 4, 5] [0, 1, 2] rfl rfl (by decide) (by decide) hk1 hFc hP1 hD1
      generalize H1 = H at hP hS ⊢
      have hP : va_P (dC, dI) vwCl [(mx, .inr (7, [.ref dr, .ref th, .ref bk, .ref wt, .ref tt, .ref lh, .ref la, .int sh, .long ab, .long be])), (bk, .inr (1, [.ref bp])), (bp, .inl (cI, 1024, .inl fb)), (dr, .inr (2, [.ref dp, .ref dc, .int (nI n)])), (dp, .inl (cI, 8, .inl gp_52)), (dc, .inl (cI, 8, .inl gc_52))] H := hP
      have hD : va_D A [(mx, .inr (7, [.ref dr, .ref th, .ref bk, .ref wt, .ref tt, .ref lh, .ref la, .int sh, .long ab, .long be])), (bk, .inr (1, [.ref bp])), (bp, .inl (cI, 1024, .inl fb)), (dr, .inr (2, [.ref dp, .ref dc, .int (nI n)])), (dp, .inl (cI, 8, .inl gp_52)), (dc, .inl (cI, 8, .inl gc_52))] := hD
      refine lv_aload_n hx hb dX7_turn_55 rfl (lv_at hl 0 rfl) ?_
      refine va_get (D := (dC, dI)) (ci := 7) (v := .ref bk) (C := RX7) (T := TX7) (N := 10) hx hb hts hiX7 hown hK hP 0 rfl rfl 2 (by decide) (hts (.fieldLink RX7 22 "MadeItSo" "books" "LMadeItSo$Books;") (by decide +kernel)) (fun _ h9 => h9) rfl dX7_turn_56 ?_
      refine lv_iload_n hx hb dX7_turn_59 rfl (lv_at hl 1 rfl) ?_
      have hPc := hP.sub (ws' := [(bk, .inr (1, [.ref bp])), (bp, .inl (cI, 1024, .inl fb))]) [1, 2] rfl
      have hDc := hD.sub (ws' := [(bk, .inr (1, [.ref bp])), (bp, .inl (cI, 1024, .inl fb))]) [1, 2] (by decide) rfl
      have hFc := va_free (wc := [(bk, .inr (1, [.ref bp])), (bp, .inl (cI, 1024, .inl fb))]) hD hS hA [1, 2] rfl
      refine va_callv (va_runV (As := [.int (nI i)]) (rest := []) ⟨hx, hb, hml, hown, hts⟩ (mz_e_blank l dC dI cI cJ cZ bk bp fb i H.size (by first | assumption | omega)) (cwV 1 hts gX7_turn_X1_blank rfl rfl rfl (by decide +kernel) ⟨Nat.le_of_ble_eq_true rfl, Nat.le_of_ble_eq_true rfl⟩) ⟨fun a U g mk q => mz_blI q, va_recv hK hPc (ci := 1) (q0 := 0) rfl rfl, fun U hU hW => ⟨rfl, by rw [hU], by rw [hU]; exact hPc, va_K.moved hW.alike hK, hDc.weaken (fun _ _ _ _ => trivial), mz_nw hW hN⟩⟩ rfl rfl hl.1 rfl (lv_room (Nat.le_of_ble_eq_true rfl)) dX7_turn_60 ⟨Nat.le_of_ble_eq_true rfl, Nat.le_of_ble_eq_true rfl⟩) hS (fun q _ h => hFc q h) hFc (fun u t H1 locs ht hvm hw_60 hB hz1 hk1 hS => ?_)
      obtain ⟨gb_60, hx0_60, hP1, hD1⟩ := hB
      rw [ht] at hP1
      obtain ⟨hP, hD⟩ := va_join (wr := [(mx, .inr (7, [.ref dr, .ref th, .ref bk, .ref wt, .ref tt, .ref lh, .ref la, .int sh, .long ab, .long be])), (dr, .inr (2, [.ref dp, .ref dc, .int (nI n)])), (dp, .inl (cI, 8, .inl gp_52)), (dc, .inl (cI, 8, .inl gc_52))]) (w1 := [(bk, .inr (1, [.ref bp])), (bp, .inl (cI, 1024, .inl gb_60))]) hP hD [1, 2] [0, 3, 4, 5] rfl rfl (by decide) (by decide) hk1 hFc hP1 hD1
      generalize H1 = H at hP hS ⊢
      have hP : va_P (dC, dI) vwCl [(mx, .inr (7, [.ref dr, .ref th, .ref bk, .ref wt, .ref tt, .ref lh, .ref la, .int sh, .long ab, .long be])), (dr, .inr (2, [.ref dp, .ref dc, .int (nI n)])), (dp, .inl (cI, 8, .inl gp_52)), (dc, .inl (cI, 8, .inl gc_52)), (bk, .inr (1, [.ref bp])), (bp, .inl (cI, 1024, .inl gb_60))] H := hP
      have hD : va_D A [(mx, .inr (7, [.ref dr, .ref th, .ref bk, .ref wt, .ref tt, .ref lh, .ref la, .int sh, .long ab, .long be])), (dr, .inr (2, [.ref dp, .ref dc, .int (nI n)])), (dp, .inl (cI, 8, .inl gp_52)), (dc, .inl (cI, 8, .inl gc_52)), (bk, .inr (1, [.ref bp])), (bp, .inl (cI, 1024, .inl gb_60))] := hD
      refine lv_aload_n hx hb dX7_turn_63 rfl (lv_at hl 0 rfl) ?_
      refine va_get (D := (dC, dI)) (ci := 7) (v := .ref bk) (C := RX7) (T := TX7) (N := 10) hx hb hts hiX7 hown hK hP 0 rfl rfl 2 (by decide) (hts (.fieldLink RX7 22 "MadeItSo" "books" "LMadeItSo$Books;") (by decide +kernel)) (fun _ h9 => h9) rfl dX7_turn_64 ?_
      refine lv_iload_n hx hb dX7_turn_67 rfl (lv_at hl 2 rfl) ?_
      have hPc := hP.sub (ws' := [(bk, .inr (1, [.ref bp])), (bp, .inl (cI, 1024, .inl gb_60))]) [4, 5] rfl
      have hDc := hD.sub (ws' := [(bk, .inr (1, [.ref bp])), (bp, .inl (cI, 1024, .inl gb_60))]) [4, 5] (by decide) rfl
      have hFc := va_free (wc := [(bk, .inr (1, [.ref bp])), (bp, .inl (cI, 1024, .inl gb_60))]) hD hS hA [4, 5] rfl
      refine va_callv (va_runV (As := [.int (nI j)]) (rest := []) ⟨hx, hb, hml, hown, hts⟩ (mz_e_blank l dC dI cI cJ cZ bk bp gb_60 j H.size (by first | assumption | omega)) (cwV 1 hts gX7_turn_X1_blank rfl rfl rfl (by decide +kernel) ⟨Nat.le_of_ble_eq_true rfl, Nat.le_of_ble_eq_true rfl⟩) ⟨fun a U g mk q => mz_blI q, va_recv hK hPc (ci := 1) (q0 := 0) rfl rfl, fun U hU hW => ⟨rfl, by rw [hU], by rw [hU]; exact hPc, va_K.moved hW.alike hK, hDc.weaken (fun _ _ _ _ => trivial), mz_nw hW hN⟩⟩ rfl rfl hl.1 rfl (lv_room (Nat.le_of_ble_eq_true rfl)) dX7_turn_68 ⟨Nat.le_of_ble_eq_true rfl, Nat.le_of_ble_eq_true rfl⟩) hS (fun q _ h => hFc q h) hFc (fun u t H1 locs ht hvm hw_68 hB hz1 hk1 hS => ?_)
      obtain ⟨gb_68, hx0_68, hP1, hD1⟩ := hB
      rw [ht] at hP1
      obtain ⟨hP, hD⟩ := va_join (wr := [(mx, .inr (7, [.ref dr, .ref th, .ref bk, .ref wt, .ref tt, .ref lh, .ref la, .int sh, .long ab, .long be])), (dr, .inr (2, [.ref dp, .ref dc, .int (nI n)])), (dp, .inl (cI, 8, .inl gp_52)), (dc, .inl (cI, 8, .inl gc_52))]) (w1 := [(bk, .inr (1, [.ref bp])), (bp, .inl (cI, 1024, .inl gb_68))]) hP hD [4, 5] [0, 1, 2, 3] rfl rfl (by decide) (by decide) hk1 hFc hP1 hD1
      generalize H1 = H at hP hS ⊢
      have hP : va_P (dC, dI) vwCl [(mx, .inr (7, [.ref dr, .ref th, .ref bk, .ref wt, .ref tt, .ref lh, .ref la, .int sh, .long ab, .long be])), (dr, .inr (2, [.ref dp, .ref dc, .int (nI n)])), (dp, .inl (cI, 8, .inl gp_52)), (dc, .inl (cI, 8, .inl gc_52)), (bk, .inr (1, [.ref bp])), (bp, .inl (cI, 1024, .inl gb_68))] H := hP
      have hD : va_D A [(mx, .inr (7, [.ref dr, .ref th, .ref bk, .ref wt, .ref tt, .ref lh, .ref la, .int sh, .long ab, .long be])), (dr, .inr (2, [.ref dp, .ref dc, .int (nI n)])), (dp, .inl (cI, 8, .inl gp_52)), (dc, .inl (cI, 8, .inl gc_52)), (bk, .inr (1, [.ref bp])), (bp, .inl (cI, 1024, .inl gb_68))] := hD
      refine lv_iconst (v := 1) hx hb dX7_turn_71 (by decide +kernel) ?_
      have hP9 := hP.sub (ws' := [(mx, .inr (7, [.ref dr, .ref th, .ref bk, .ref wt, .ref tt, .ref lh, .ref la, .int sh, .long ab, .long be])), (dr, .inr (2, [.ref dp, .ref dc, .int (nI n)])), (dp, .inl (cI, 8, .inl gp_52)), (dc, .inl (cI, 8, .inl gc_52)), (bk, .inr (1, [.ref bp])), (bp, .inl (cI, 1024, .inl gb_68))]) [0, 1, 2, 3, 4, 5] rfl
      have hD9 := hD.sub (ws' := [(mx, .inr (7, [.ref dr, .ref th, .ref bk, .ref wt, .ref tt, .ref lh, .ref la, .int sh, .long ab, .long be])), (dr, .inr (2, [.ref dp, .ref dc, .int (nI n)])), (dp, .inl (cI, 8, .inl gp_52)), (dc, .inl (cI, 8, .inl gc_52)), (bk, .inr (1, [.ref bp])), (bp, .inl (cI, 1024, .inl gb_68))]) [0, 1, 2, 3, 4, 5] (by decide) rfl
      refine W.widen (k := 0) (n := 0) (Nat.le_of_ble_eq_true rfl) (Nat.le_of_ble_eq_true rfl) ?_
      exact W.zret (v := 1) hx hb hr (mz_nz (by decide +kernel)) (fun t ht hW => ⟨⟨1, (), rfl, Or.inl ⟨rfl, ht_6, (by have h9 := hc_29; rw [hx0_20, hx1_20] at h9; exact h9)⟩, gp_52, gc_52, gb_68, (fun _ _ _ => ⟨by rw [hx0_52, hx0_20], by rw [hx1_52, hx1_20], _, hx0_60, hx0_68⟩), (fun _ _ h => (mz_excl (by omega) (by have h9 := hc_29; rw [hx0_20, hx1_20] at h9; exact h9) h).elim), (fun h => by rw [ht_6] at h; cases h), by rw [ht]; exact hP9, hD9⟩, hS.F ht⟩) hS.2.2 dX7_turn_72
    · skip
      refine lv_if_ne (tgt := 46) hx hb dX7_turn_32 (by decide) (fun c_32 => absurd (by decide +kernel) c_32) (fun _ => ?_)
      refine lv_aload_n hx hb dX7_turn_35 rfl (lv_at hl 0 rfl) ?_
      refine va_get (D := (dC, dI)) (ci := 7) (v := .ref dr) (C := RX7) (T := TX7) (N := 10) hx hb hts hiX7 hown hK hP 0 rfl rfl 0 (by decide) (hts (.fieldLink RX7 12 "MadeItSo" "drawing" "LMadeItSo$Drawing;") (by decide +kernel)) (fun _ h9 => h9) rfl dX7_turn_36 ?_
      refine lv_iload_n hx hb dX7_turn_39 rfl (lv_at hl 1 rfl) ?_
      refine lv_iload_n hx hb dX7_turn_40 rfl (lv_at hl 2 rfl) ?_
      have hPc := hP.sub (ws' := [(dr, .inr (2, [.ref dp, .ref dc, .int (nI n)])), (dp, .inl (cI, 8, .inl gp_20)), (dc, .inl (cI, 8, .inl gc_20))]) [3, 4, 5] rfl
      have hDc := hD.sub (ws' := [(dr, .inr (2, [.ref dp, .ref dc, .int (nI n)])), (dp, .inl (cI, 8, .inl gp_20)), (dc, .inl (cI, 8, .inl gc_20))]) [3, 4, 5] (by decide) rfl
      have hFc := va_free (wc := [(dr, .inr (2, [.ref dp, .ref dc, .int (nI n)])), (dp, .inl (cI, 8, .inl gp_20)), (dc, .inl (cI, 8, .inl gc_20))]) hD hS hA [3, 4, 5] rfl
      refine va_callv (va_runV (As := [.int (nI i), .int (nI j)]) (rest := []) ⟨hx, hb, hml, hown, hts⟩ (mz_e_join l dC dI cI cJ cZ dr dp dc n gp_20 gc_20 i j H.size (by first | assumption | omega) (by first | assumption | omega) (by first | assumption | omega)) (cwV 2 hts gX7_turn_X2_join rfl rfl rfl (by decide +kernel) ⟨Nat.le_of_ble_eq_true rfl, Nat.le_of_ble_eq_true rfl⟩) ⟨fun a U g mk q => mz_blI q, va_recv hK hPc (ci := 2) (q0 := 0) rfl rfl, fun U hU hW => ⟨rfl, by rw [hU], by rw [hU]; exact hPc, va_K.moved hW.alike hK, hDc.weaken (fun _ _ _ _ => trivial), mz_nw hW hN⟩⟩ rfl rfl hl.1 rfl (lv_room (Nat.le_of_ble_eq_true rfl)) dX7_turn_41 ⟨Nat.le_of_ble_eq_true rfl, Nat.le_of_ble_eq_true rfl⟩) hS (fun q _ h => hFc q h) hFc (fun u t H1 locs ht hvm hw_41 hB hz1 hk1 hS => ?_)
      obtain ⟨gp_41, gc_41, hx0_41, hx1_41, hP1, hD1⟩ := hB
      rw [ht] at hP1
      obtain ⟨hP, hD⟩ := va_join (wr := [(mx, .inr (7, [.ref dr, .ref th, .ref bk, .ref wt, .ref tt, .ref lh, .ref la, .int sh, .long ab, .long be])), (bk, .inr (1, [.ref bp])), (bp, .inl (cI, 1024, .inl fb))]) (w1 := [(dr, .inr (2, [.ref dp, .ref dc, .int (nI n)])), (dp, .inl (cI, 8, .inl gp_41)), (dc, .inl (cI, 8, .inl gc_41))]) hP hD [3, 4, 5] [0, 1, 2] rfl rfl (by decide) (by decide) hk1 hFc hP1 hD1
      generalize H1 = H at hP hS ⊢
      have hP : va_P (dC, dI) vwCl [(mx, .inr (7, [.ref dr, .ref th, .ref bk, .ref wt, .ref tt, .ref lh, .ref la, .int sh, .long ab, .long be])), (bk, .inr (1, [.ref bp])), (bp, .inl (cI, 1024, .inl fb)), (dr, .inr (2, [.ref dp, .ref dc, .int (nI n)])), (dp, .inl (cI, 8, .inl gp_41)), (dc, .inl (cI, 8, .inl gc_41))] H := hP
      have hD : va_D A [(mx, .inr (7, [.ref dr, .ref th, .ref bk, .ref wt, .ref tt, .ref lh, .ref la, .int sh, .long ab, .long be])), (bk, .inr (1, [.ref bp])), (bp, .inl (cI, 1024, .inl fb)), (dr, .inr (2, [.ref dp, .ref dc, .int (nI n)])), (dp, .inl (cI, 8, .inl gp_41)), (dc, .inl (cI, 8, .inl gc_41))] := hD
      refine lv_iconst (v := 0) hx hb dX7_turn_44 (by decide +kernel) ?_
      have hP9 := hP.sub (ws' := [(mx, .inr (7, [.ref dr, .ref th, .ref bk, .ref wt, .ref tt, .ref lh, .ref la, .int sh, .long ab, .long be])), (dr, .inr (2, [.ref dp, .ref dc, .int (nI n)])), (dp, .inl (cI, 8, .inl gp_41)), (dc, .inl (cI, 8, .inl gc_41)), (bk, .inr (1, [.ref bp])), (bp, .inl (cI, 1024, .inl fb))]) [0, 3, 4, 5, 1, 2] rfl
      have hD9 := hD.sub (ws' := [(mx, .inr (7, [.ref dr, .ref th, .ref bk, .ref wt, .ref tt, .ref lh, .ref la, .int sh, .long ab, .long be])), (dr, .inr (2, [.ref dp, .ref dc, .int (nI n)])), (dp, .inl (cI, 8, .inl gp_41)), (dc, .inl (cI, 8, .inl gc_41)), (bk, .inr (1, [.ref bp])), (bp, .inl (cI, 1024, .inl fb))]) [0, 3, 4, 5, 1, 2] (by decide) rfl
      refine W.widen (k := 0) (n := 0) (Nat.le_of_ble_eq_true rfl) (Nat.le_of_ble_eq_true rfl) ?_
      exact W.zret (v := 0) hx hb hr (mz_nz (by decide +kernel)) (fun t ht hW => ⟨⟨0, (), rfl, Or.inr ⟨rfl, Or.inr (by have h9 := hc_29; rw [hx0_20, hx1_20] at h9; exact h9)⟩, gp_41, gc_41, fb, (fun _ _ h => (mz_excl (by omega) h (by have h9 := hc_29; rw [hx0_20, hx1_20] at h9; exact h9)).elim), (fun h1 h2 _ => ⟨by rw [hx0_41, hx0_20]; exact mz_back (by omega) h2, by rw [hx1_41, hx1_20]; exact mz_back (by omega) h1, rfl⟩), (fun h => by rw [ht_6] at h; cases h), by rw [ht]; exact hP9, hD9⟩, hS.F ht⟩) hS.2.2 dX7_turn_45
  · skip
    refine lv_if_ne (tgt := 14) hx hb dX7_turn_9 (by decide) (fun c_9 => absurd (by decide +kernel) c_9) (fun _ => ?_)
    refine lv_iconst (v := 0) hx hb dX7_turn_12 (by decide +kernel) ?_
    have hP9 := hP.sub (ws' := [(mx, .inr (7, [.ref dr, .ref th, .ref bk, .ref wt, .ref tt, .ref lh, .ref la, .int sh, .long ab, .long be])), (dr, .inr (2, [.ref dp, .ref dc, .int (nI n)])), (dp, .inl (cI, 8, .inl fp)), (dc, .inl (cI, 8, .inl fc)), (bk, .inr (1, [.ref bp])), (bp, .inl (cI, 1024, .inl fb))]) [0, 1, 2, 3, 4, 5] rfl
    have hD9 := hD.sub (ws' := [(mx, .inr (7, [.ref dr, .ref th, .ref bk, .ref wt, .ref tt, .ref lh, .ref la, .int sh, .long ab, .long be])), (dr, .inr (2, [.ref dp, .ref dc, .int (nI n)])), (dp, .inl (cI, 8, .inl fp)), (dc, .inl (cI, 8, .inl fc)), (bk, .inr (1, [.ref bp])), (bp, .inl (cI, 1024, .inl fb))]) [0, 1, 2, 3, 4, 5] (by decide) rfl
    refine W.widen (k := 0) (n := 0) (Nat.le_of_ble_eq_true rfl) (Nat.le_of_ble_eq_true rfl) ?_
    exact W.zret (v := 0) hx hb hr (mz_nz (by decide +kernel)) (fun t ht hW => ⟨⟨0, (), rfl, Or.inr ⟨rfl, Or.inl ht_6⟩, fp, fc, fb, (fun h => by rw [ht_6] at h; cases h), (fun h => by rw [ht_6] at h; cases h), (fun _ => ⟨rfl, rfl, rfl⟩), by rw [ht]; exact hP9, hD9⟩, hS.F ht⟩) hS.2.2 dX7_turn_13
set_option maxHeartbeats 1000000 in
set_option maxRecDepth 100000 in
theorem mz_e_x_turn_out (l : Launch) (dC : Nat → ClassId) (dI : Nat → Nat → Nat) (cI cJ cZ : ClassId) (mx : Nat) (dr : Nat) (th : Nat) (bk : Nat) (wt : Nat) (tt : Nat) (lh : Nat) (la : Nat) (sh : Int32) (ab : Int64) (be : Int64) (dp : Nat) (dc : Nat) (n : Nat) (p1 : Int32) (p2 : Int32) (Hq : Heap) (hn : n ≤ 8) (hout : ¬ ∃ i j : Nat, i < n ∧ j < n ∧ p1 = nI i ∧ p2 = nI j) : Met l yX7_turn wsX7_turn ({ frames := 2, cells := 0, slots := 0, locals := 43 }) (va_Pc [.ref mx, .int p1, .int p2] (fun U => U.heap = Hq ∧ va_P (dC, dI) vwCl [(mx, .inr (7, [.ref dr, .ref th, .ref bk, .ref wt, .ref tt, .ref lh, .ref la, .int sh, .long ab, .long be])), (dr, .inr (2, [.ref dp, .ref dc, .int (nI n)]))] Hq ∧ va_K (dC, dI) vwCl [(cI, FieldType.int), (cJ, FieldType.long), (cZ, FieldType.boolean)] U ∧ mz_N U)) (va_Qi (fun (r : Int32) (_ : Unit) => r = 0) (fun _ t => t.heap = Hq) (fun _ : Nat => False)) 0 0 (fun _ : Nat => False) := by
  refine Met.ofW (cc := cX7_turn) (maxL := 3) (ret := (some .boolean)) (by decide) rfl ?_
  intro p e s m args below meth c s₁ B hml hv
  obtain ⟨rfl, hH, hP, hK, hN⟩ := hv
  subst hH
  have hx := B.exec
  have hb := B.bytes
  have hr := B.returns
  have hts := atoms_spec (ws := wsX7_turn) B.pre
  have hown : s.vm.findClass RX7 = some m.cls := findClass_of_methodNamed B.named
  have hlocks := B.notSynchronized
  have hS : va_S (fun _ : Nat => False) s.heap s.heap [] := va_S.rf
  have hiX7 : ∀ w ∈ u_ws RX7 TX7 10, w ∈ wsX7_turn := by decide +kernel
  have hl := lv_entry ([.ref mx, .int p1, .int p2]) (n := 3) (Nat.le_of_ble_eq_true rfl)
  rw [lg_entry_eq]
  generalize (lg_sl ([.ref mx, .int p1, .int p2]) ++ List.replicate (3 - (lg_sl ([.ref mx, .int p1, .int p2])).length) Slot.unset).toArray = ls at hl ⊢
  have hl : lv_has ls 3 [(0, .ref mx), (1, .int p1), (2, .int p2)] := hl
  refine lv_aload_n hx hb dX7_turn_0 rfl (lv_at hl 0 rfl) ?_
  refine va_get (D := (dC, dI)) (ci := 7) (v := .ref dr) (C := RX7) (T := TX7) (N := 10) hx hb hts hiX7 hown hK hP 0 rfl rfl 0 (by decide) (hts (.fieldLink RX7 12 "MadeItSo" "drawing" "LMadeItSo$Drawing;") (by decide +kernel)) (fun _ h9 => h9) rfl dX7_turn_1 ?_
  refine lv_iload_n hx hb dX7_turn_4 rfl (lv_at hl 1 rfl) ?_
  refine lv_iload_n hx hb dX7_turn_5 rfl (lv_at hl 2 rfl) ?_
  have hPc := hP.sub (ws' := [(dr, .inr (2, [.ref dp, .ref dc, .int (nI n)]))]) [1] rfl
  refine va_calli (va_runV (As := [.int p1, .int p2]) (rest := []) ⟨hx, hb, hml, hown, hts⟩ (mz_e_leads_out l dC dI cI cJ cZ dr dp dc n p1 p2 s.heap (by first | assumption | omega) hout) (cwV 2 hts gX7_turn_X2_leads rfl rfl rfl (by decide +kernel) ⟨Nat.le_of_ble_eq_true rfl, Nat.le_of_ble_eq_true rfl⟩) ⟨fun a U g mk q => mz_blP q, va_recv hK hPc (ci := 2) (q0 := 0) rfl rfl, fun U hU hW => ⟨rfl, hU, hPc, va_K.moved hW.alike hK, mz_nw hW hN⟩⟩ rfl rfl hl.1 rfl (lv_room (Nat.le_of_ble_eq_true rfl)) dX7_turn_6 ⟨Nat.le_of_ble_eq_true rfl, Nat.le_of_ble_eq_true rfl⟩) hS (fun q _ h => h.elim) (fun q h => h.elim) (fun r_6 u t H1 locs ht hvm hw_6 hB hz1 hk1 hS => ?_)
  have hE : s.heap = H1 := hB.symm.trans ht
  subst hE
  obtain rfl : r_6 = 0 := hw_6
  refine lv_if_ne (tgt := 14) hx hb dX7_turn_9 (by decide) (fun c_9 => absurd (by decide +kernel) c_9) (fun _ => ?_)
  refine lv_iconst (v := 0) hx hb dX7_turn_12 (by decide +kernel) ?_
  refine W.widen (k := 0) (n := 0) (Nat.le_of_ble_eq_true rfl) (Nat.le_of_ble_eq_true rfl) ?_
  exact W.zret (v := 0) hx hb hr (mz_nz (by decide +kernel)) (fun t ht hW => ⟨⟨0, (), rfl, rfl, ht⟩, hS.F ht⟩) hS.2.2 dX7_turn_13
set_option maxHeartbeats 1000000 in
set_option maxRecDepth 100000 in
theorem mz_e_m_turn (l : Launch) (dC : Nat → ClassId) (dI : Nat → Nat → Nat) (cI cJ cZ : ClassId) (mo : Nat) (m1 : Nat) (m2 : Nat) (m3 : Nat) (m6 : Nat) (m7 : Nat) (m8 : Nat) (m9 : Nat) (m10 : Nat) (m11 : Nat) (m12 : Nat) (m13 : Nat) (m14 : Nat) (m15 : Nat) (m16 : Nat) (n : Nat) (ka : Int64) (kb : Int64) (fp : Nat → Int32) (fb : Nat → Int32) (i : Nat) (j : Nat) (sz : Nat) (hn : n ≤ 8) (hi : i < n) (hj : j < n) (ha : mz_acy n fp) (hgb : ∀ k, k < n → ∀ j, j < 32 → mz_t (fp k) j = true → j < n) : Met l yX8_turn wsX8_turn ({ frames := 2, cells := 0, slots := 0, locals := 50 }) (va_Pc [.ref mo, .int (nI i), .int (nI j)] (fun U => U.heap.size = sz ∧ va_P (dC, dI) vwCl [(mo, .inr (8, [.int (nI n), .ref m1, .ref m2, .ref m3, .long ka, .long kb, .ref m6, .ref m7, .ref m8, .ref m9, .ref m10, .ref m11, .ref m12, .ref m13, .ref m14, .ref m15, .ref m16])), (m2, .inl (cI, 8, .inl fp)), (m3, .inl (cI, 1024, .inl fb))] U.heap ∧ va_K (dC, dI) vwCl [(cI, FieldType.int), (cJ, FieldType.long), (cZ, FieldType.boolean)] U ∧ va_D (fun _ => True) [(mo, .inr (8, [.int (nI n), .ref m1, .ref m2, .ref m3, .long ka, .long kb, .ref m6, .ref m7, .ref m8, .ref m9, .ref m10, .ref m11, .ref m12, .ref m13, .ref m14, .ref m15, .ref m16])), (m2, .inl (cI, 8, .inl fp)), (m3, .inl (cI, 1024, .inl fb))] ∧ mz_N U)) (va_Qi (fun (r : Int32) (_ : Unit) => (r = 1 ∧ mz_t (fp j) i = true ∧ mz_mcan n (upd fp j ((fp j) &&& ((1 <<< ((nI i) &&& 31)) ^^^ (-1)))) j i) ∨ (r = 0 ∧ (mz_t (fp j) i = false ∨ mz_mcant n (upd fp j ((fp j) &&& ((1 <<< ((nI i) &&& 31)) ^^^ (-1)))) j i))) (fun _ t => ∃ (gp : Nat → Int32), ∃ (gb : Nat → Int32), (mz_acy n gp) ∧ (mz_t (fp j) i = true → mz_mcan n (upd fp j ((fp j) &&& ((1 <<< ((nI i) &&& 31)) ^^^ (-1)))) j i → (gp = upd (upd fp j ((fp j) &&& ((1 <<< ((nI i) &&& 31)) ^^^ (-1)))) i (((upd fp j ((fp j) &&& ((1 <<< ((nI i) &&& 31)) ^^^ (-1)))) i) ||| (1 <<< ((nI j) &&& 31))) ∧ ∃ g1, mz_bkp fb g1 j 128 ∧ mz_bkp g1 gb i 128)) ∧ (mz_t (fp j) i = true → mz_mcant n (upd fp j ((fp j) &&& ((1 <<< ((nI i) &&& 31)) ^^^ (-1)))) j i → (gp = fp ∧ gb = fb)) ∧ (mz_t (fp j) i = false → (gp = fp ∧ gb = fb)) ∧ va_P (dC, dI) vwCl [(mo, .inr (8, [.int (nI n), .ref m1, .ref m2, .ref m3, .long ka, .long kb, .ref m6, .ref m7, .ref m8, .ref m9, .ref m10, .ref m11, .ref m12, .ref m13, .ref m14, .ref m15, .ref m16])), (m2, .inl (cI, 8, .inl gp)), (m3, .inl (cI, 1024, .inl gb))] t.heap ∧ va_D (va_A [(mo, .inr (8, [.int (nI n), .ref m1, .ref m2, .ref m3, .long ka, .long kb, .ref m6, .ref m7, .ref m8, .ref m9, .ref m10, .ref m11, .ref m12, .ref m13, .ref m14, .ref m15, .ref m16])), (m2, .inl (cI, 8, .inl fp)), (m3, .inl (cI, 1024, .inl fb))] sz) [(mo, .inr (8, [.int (nI n), .ref m1, .ref m2, .ref m3, .long ka, .long kb, .ref m6, .ref m7, .ref m8, .ref m9, .ref m10, .ref m11, .ref m12, .ref m13, .ref m14, .ref m15, .ref m16])), (m2, .inl (cI, 8, .inl gp)), (m3, .inl (cI, 1024, .inl gb))]) (va_A [(mo, .inr (8, [.int (nI n), .ref m1, .ref m2, .ref m3, .long ka, .long kb, .ref m6, .ref m7, .ref m8, .ref m9, .ref m10, .ref m11, .ref m12, .ref m13, .ref m14, .ref m15, .ref m16])), (m2, .inl (cI, 8, .inl fp)), (m3, .inl (cI, 1024, .inl fb))] sz)) 0 0 (va_A [(mo, .inr (8, [.int (nI n), .ref m1, .ref m2, .ref m3, .long ka, .long kb, .ref m6, .ref m7, .ref m8, .ref m9, .ref m10, .ref m11, .ref m12, .ref m13, .ref m14, .ref m15, .ref m16])), (m2, .inl (cI, 8, .inl fp)), (m3, .inl (cI, 1024, .inl fb))] sz) := by
  refine Met.ofW (cc := cX8_turn) (maxL := 4) (ret := (some .boolean)) (by decide) rfl ?_
  intro p e s m args below meth c s₁ B hml hv
  obtain ⟨rfl, hsz, hP, hK, hD0, hN⟩ := hv
  subst hsz
  have hx := B.exec
  have hb := B.bytes
  have hr := B.returns
  have hts := atoms_spec (ws := wsX8_turn) B.pre
  have hown : s.vm.findClass RX8 = some m.cls := findClass_of_methodNamed B.named
  have hlocks := B.notSynchronized
  have hD := hD0.self (sz := s.heap.size)
  generalize hAe : va_A [(mo, .inr (8, [.int (nI n), .ref m1, .ref m2, .ref m3, .long ka, .long kb, .ref m6, .ref m7, .ref m8, .ref m9, .ref m10, .ref m11, .ref m12, .ref m13, .ref m14, .ref m15, .ref m16])), (m2, .inl (cI, 8, .inl fp)), (m3, .inl (cI, 1024, .inl fb))] s.heap.size = A at hD ⊢
  have hA : ∀ q : Nat, s.heap.size ≤ q → A q := fun q h => by rw [← hAe]; exact Or.inr h
  have hS : va_S A s.heap s.heap [] := va_S.rf
  have hiX8 : ∀ w ∈ u_ws RX8 TX8 17, w ∈ wsX8_turn := by decide +kernel
  have hl := lv_entry ([.ref mo, .int (nI i), .int (nI j)]) (n := 4) (Nat.le_of_ble_eq_true rfl)
  rw [lg_entry_eq]
  generalize (lg_sl ([.ref mo, .int (nI i), .int (nI j)]) ++ List.replicate (4 - (lg_sl ([.ref mo, .int (nI i), .int (nI j)])).length) Slot.unset).toArray = ls at hl ⊢
  have hl : lv_has ls 4 [(0, .ref mo), (1, .int (nI i)), (2, .int (nI j))] := hl
  refine lv_aload_n hx hb dX8_turn_0 rfl (lv_at hl 0 rfl) ?_
  refine lv_iload_n hx hb dX8_turn_1 rfl (lv_at hl 1 rfl) ?_
  refine lv_iload_n hx hb dX8_turn_2 rfl (lv_at hl 2 rfl) ?_
  have hPc := hP.sub (ws' := [(mo, .inr (8, [.int (nI n), .ref m1, .ref m2, .ref m3, .long ka, .long kb, .ref m6, .ref m7, .ref m8, .ref m9, .ref m10, .ref m11, .ref m12, .ref m13, .ref m14, .ref m15, .ref m16])), (m2, .inl (cI, 8, .inl fp))]) [0, 1] rfl
  refine va_calli (va_runV (As := [.int (nI i), .int (nI j)]) (rest := []) ⟨hx, hb, hml, hown, hts⟩ (mz_e_m_has l dC dI cI cJ cZ mo m1 m2 m3 m6 m7 m8 m9 m10 m11 m12 m13 m14 m15 m16 n ka kb fp i j s.heap (by first | assumption | omega) (by first | assumption | omega) (by first | assumption | omega)) (cwV 2 hts gX8_turn_X8_has rfl rfl rfl (by decide +kernel) ⟨Nat.le_of_ble_eq_true rfl, Nat.le_of_ble_eq_true rfl⟩) ⟨fun a U g mk q => mz_blP q, va_recv hK hPc (ci := 8) (q0 := 0) rfl rfl, fun U hU hW => ⟨rfl, hU, hPc, va_K.moved hW.alike hK, mz_nw hW hN⟩⟩ rfl rfl hl.1 rfl (lv_room (Nat.le_of_ble_eq_true rfl)) dX8_turn_3 ⟨Nat.le_of_ble_eq_true rfl, Nat.le_of_ble_eq_true rfl⟩) hS (fun q _ h => h.elim) (fun q h => h.elim) (fun r_3 u t H1 locs ht hvm hw_3 hB hz1 hk1 hS => ?_)
  have hE : s.heap = H1 := hB.symm.trans ht
  subst hE
  rcases (show (r_3 = 1 ∧ mz_t (fp j) i = true) ∨ (r_3 = 0 ∧ mz_t (fp j) i = false) from hw_3) with ⟨rfl, ht_3⟩ | ⟨rfl, ht_3⟩
  · skip
    refine lv_if_ne (tgt := 11) hx hb dX8_turn_6 (by decide) (fun _ => ?_) (fun c_6 => absurd c_6 (by decide +kernel))
    refine lv_aload_n hx hb dX8_turn_11 rfl (lv_at hl 0 rfl) ?_
    refine va_get (D := (dC, dI)) (ci := 8) (v := .ref m2) (C := RX8) (T := TX8) (N := 17) hx hb hts hiX8 hown hK hP 0 rfl rfl 2 (by decide) (hts (.fieldLink RX8 13 "MadeItSoModel" "parents" "[I") (by decide +kernel)) (fun _ h9 => h9) rfl dX8_turn_12 ?_
    refine lv_iload_n hx hb dX8_turn_15 rfl (lv_at hl 2 rfl) ?_
    refine lv_dup2_11 hx hb dX8_turn_16 rfl rfl ?_
    refine va_iald hx hb hK hP 1 0 rfl rfl (vp_in_nI (by omega) (by omega)) dX8_turn_17 ?_
    refine mz_ti (y := (fp j)) (by rw [mz_cl (by omega)]) ?_
    refine lv_iconst (v := 1) hx hb dX8_turn_18 (by decide +kernel) ?_
    refine lv_iload_n hx hb dX8_turn_19 rfl (lv_at hl 1 rfl) ?_
    refine lv_ishl hx hb dX8_turn_20 ?_
    refine lv_iconst (v := (-1)) hx hb dX8_turn_21 (by decide +kernel) ?_
    refine lv_ixor hx hb dX8_turn_22 ?_
    refine lv_iand hx hb dX8_turn_23 ?_
    refine va_iast hx hb hK hP hD hS 1 0 rfl rfl (vp_in_nI (by omega) (by omega)) dX8_turn_24 (fun H locs hP hD hS => ?_)
    rw [mz_cl (n := j) (by omega)] at hP hD
    have hP : va_P (dC, dI) vwCl [(mo, .inr (8, [.int (nI n), .ref m1, .ref m2, .ref m3, .long ka, .long kb, .ref m6, .ref m7, .ref m8, .ref m9, .ref m10, .ref m11, .ref m12, .ref m13, .ref m14, .ref m15, .ref m16])), (m2, .inl (cI, 8, .inl (upd fp j ((fp j) &&& ((1 <<< ((nI i) &&& 31)) ^^^ (-1)))))), (m3, .inl (cI, 1024, .inl fb))] H := hP
    have hD : va_D A [(mo, .inr (8, [.int (nI n), .ref m1, .ref m2, .ref m3, .long ka, .long kb, .ref m6, .ref m7, .ref m8, .ref m9, .ref m10, .ref m11, .ref m12, .ref m13, .ref m14, .ref m15, .ref m16])), (m2, .inl (cI, 8, .inl (upd fp j ((fp j) &&& ((1 <<< ((nI i) &&& 31)) ^^^ (-1)))))), (m3, .inl (cI, 1024, .inl fb))] := hD
    refine lv_aload_n hx hb dX8_turn_25 rfl (lv_at hl 0 rfl) ?_
    refine lv_iload_n hx hb dX8_turn_26 rfl (lv_at hl 1 rfl) ?_
    refine lv_iconst (v := 0) hx hb dX8_turn_27 (by decide +kernel) ?_
    have hPc := hP.sub (ws' := [(mo, .inr (8, [.int (nI n), .ref m1, .ref m2, .ref m3, .long ka, .long kb, .ref m6, .ref m7, .ref m8, .ref m9, .ref m10, .ref m11, .ref m12, .ref m13, .ref m14, .ref m15, .ref m16])), (m2, .inl (cI, 8, .inl (upd fp j ((fp j) &&& ((1 <<< ((nI i) &&& 31)) ^^^ (-1))))))]) [0, 1] rfl
    refine va_calli (va_runV (As := [.int (nI i), .int 0]) (rest := []) ⟨hx, hb, hml, hown, hts⟩ (mz_e_m_belowOf l dC dI cI cJ cZ mo m1 m2 m3 m6 m7 m8 m9 m10 m11 m12 m13 m14 m15 m16 n ka kb (upd fp j ((fp j) &&& ((1 <<< ((nI i) &&& 31)) ^^^ (-1)))) i H (by first | assumption | omega) (mz_hgb_cut hgb)) (cwV 2 hts gX8_turn_X8_belowOf rfl rfl rfl (by decide +kernel) ⟨Nat.le_of_ble_eq_true rfl, Nat.le_of_ble_eq_true rfl⟩) ⟨fun a U g mk q => mz_blP q, va_recv hK hPc (ci := 8) (q0 := 0) rfl rfl, fun U hU hW => ⟨rfl, hU, hPc, va_K.moved hW.alike hK, mz_nw hW hN⟩⟩ rfl rfl hl.1 rfl (lv_room (Nat.le_of_ble_eq_true rfl)) dX8_turn_28 ⟨Nat.le_of_ble_eq_true rfl, Nat.le_of_ble_eq_true rfl⟩) hS (fun q _ h => h.elim) (fun q h => h.elim) (fun r_28 u t H1 locs ht hvm hw_28 hB hz1 hk1 hS => ?_)
    have hE : H = H1 := hB.symm.trans ht
    subst hE
    refine lv_iload_n hx hb dX8_turn_31 rfl (lv_at hl 2 rfl) ?_
    refine lv_ishr hx hb dX8_turn_32 ?_
    refine lv_iconst (v := 1) hx hb dX8_turn_33 (by decide +kernel) ?_
    refine lv_iand hx hb dX8_turn_34 ?_
    refine lv_iconst (v := 1) hx hb dX8_turn_35 (by decide +kernel) ?_
    refine lv_icmp_ne (tgt := 43) hx hb dX8_turn_36 (by decide) (fun c_36 => ?_) (fun c_36 => ?_)
    · skip
      refine lv_iconst (v := 0) hx hb dX8_turn_43 (by decide +kernel) ?_
      refine lv_istore_n (lv' := [(3, .int 0), (0, .ref mo), (1, .int (nI i)), (2, .int (nI j))]) hx hb dX8_turn_44 rfl hl (by decide) rfl (fun ls hl => ?_)
      refine lv_iload_n hx hb dX8_turn_45 rfl (lv_at hl 0 rfl) ?_
      refine lv_if_eq (tgt := 63) hx hb dX8_turn_46 (by decide) (fun _ => ?_) (fun c_46 => absurd (by decide +kernel) c_46)
      refine lv_aload_n hx hb dX8_turn_63 rfl (lv_at hl 1 rfl) ?_
      refine va_get (D := (dC, dI)) (ci := 8) (v := .ref m2) (C := RX8) (T := TX8) (N := 17) hx hb hts hiX8 hown hK hP 0 rfl rfl 2 (by decide) (hts (.fieldLink RX8 13 "MadeItSoModel" "parents" "[I") (by decide +kernel)) (fun _ h9 => h9) rfl dX8_turn_64 ?_
      refine lv_iload_n hx hb dX8_turn_67 rfl (lv_at hl 2 rfl) ?_
      refine lv_dup2_11 hx hb dX8_turn_68 rfl rfl ?_
      refine va_iald hx hb hK hP 1 0 rfl rfl (vp_in_nI (by omega) (by omega)) dX8_turn_69 ?_
      refine mz_ti (y := ((upd fp j ((fp j) &&& ((1 <<< ((nI i) &&& 31)) ^^^ (-1)))) i)) (by rw [mz_cl (by omega)]) ?_
      refine lv_iconst (v := 1) hx hb dX8_turn_70 (by decide +kernel) ?_
      refine lv_iload_n hx hb dX8_turn_71 rfl (lv_at hl 3 rfl) ?_
      refine lv_ishl hx hb dX8_turn_72 ?_
      refine lv_ior hx hb dX8_turn_73 ?_
      refine va_iast hx hb hK hP hD hS 1 0 rfl rfl (vp_in_nI (by omega) (by omega)) dX8_turn_74 (fun H locs hP hD hS => ?_)
      rw [mz_cl (n := i) (by omega)] at hP hD
      have hP : va_P (dC, dI) vwCl [(mo, .inr (8, [.int (nI n), .ref m1, .ref m2, .ref m3, .long ka, .long kb, .ref m6, .ref m7, .ref m8, .ref m9, .ref m10, .ref m11, .ref m12, .ref m13, .ref m14, .ref m15, .ref m16])), (m2, .inl (cI, 8, .inl (upd (upd fp j ((fp j) &&& ((1 <<< ((nI i) &&& 31)) ^^^ (-1)))) i (((upd fp j ((fp j) &&& ((1 <<< ((nI i) &&& 31)) ^^^ (-1)))) i) ||| (1 <<< ((nI j) &&& 31)))))), (m3, .inl (cI, 1024, .inl fb))] H := hP
      have hD : va_D A [(mo, .inr (8, [.int (nI n), .ref m1, .ref m2, .ref m3, .long ka, .long kb, .ref m6, .ref m7, .ref m8, .ref m9, .ref m10, .ref m11, .ref m12, .ref m13, .ref m14, .ref m15, .ref m16])), (m2, .inl (cI, 8, .inl (upd (upd fp j ((fp j) &&& ((1 <<< ((nI i) &&& 31)) ^^^ (-1)))) i (((upd fp j ((fp j) &&& ((1 <<< ((nI i) &&& 31)) ^^^ (-1)))) i) ||| (1 <<< ((nI j) &&& 31)))))), (m3, .inl (cI, 1024, .inl fb))] := hD
      refine lv_aload_n hx hb dX8_turn_75 rfl (lv_at hl 1 rfl) ?_
      refine lv_iload_n hx hb dX8_turn_76 rfl (lv_at hl 3 rfl) ?_
      have hPc := hP.sub (ws' := [(mo, .inr (8, [.int (nI n), .ref m1, .ref m2, .ref m3, .long ka, .long kb, .ref m6, .ref m7, .ref m8, .ref m9, .ref m10, .ref m11, .ref m12, .ref m13, .ref m14, .ref m15, .ref m16])), (m3, .inl (cI, 1024, .inl fb))]) [0, 2] rfl
      have hDc := hD.sub (ws' := [(mo, .inr (8, [.int (nI n), .ref m1, .ref m2, .ref m3, .long ka, .long kb, .ref m6, .ref m7, .ref m8, .ref m9, .ref m10, .ref m11, .ref m12, .ref m13, .ref m14, .ref m15, .ref m16])), (m3, .inl (cI, 1024, .inl fb))]) [0, 2] (by decide) rfl
      have hFc := va_free (wc := [(mo, .inr (8, [.int (nI n), .ref m1, .ref m2, .ref m3, .long ka, .long kb, .ref m6, .ref m7, .ref m8, .ref m9, .ref m10, .ref m11, .ref m12, .ref m13, .ref m14, .ref m15, .ref m16])), (m3, .inl (cI, 1024, .inl fb))]) hD hS hA [0, 2] rfl
      refine va_callv (va_runV (As := [.int (nI j)]) (rest := []) ⟨hx, hb, hml, hown, hts⟩ (mz_e_m_fresh l dC dI cI cJ cZ mo m1 m2 m3 m6 m7 m8 m9 m10 m11 m12 m13 m14 m15 m16 n ka kb fb j H.size (by first | assumption | omega)) (cwV 1 hts gX8_turn_X8_fresh rfl rfl rfl (by decide +kernel) ⟨Nat.le_of_ble_eq_true rfl, Nat.le_of_ble_eq_true rfl⟩) ⟨fun a U g mk q => mz_blI q, va_recv hK hPc (ci := 8) (q0 := 0) rfl rfl, fun U hU hW => ⟨rfl, by rw [hU], by rw [hU]; exact hPc, va_K.moved hW.alike hK, hDc.weaken (fun _ _ _ _ => trivial), mz_nw hW hN⟩⟩ rfl rfl hl.1 rfl (lv_room (Nat.le_of_ble_eq_true rfl)) dX8_turn_77 ⟨Nat.le_of_ble_eq_true rfl, Nat.le_of_ble_eq_true rfl⟩) hS (fun q _ h => hFc q h) hFc (fun u t H1 locs ht hvm hw_77 hB hz1 hk1 hS => ?_)
      obtain ⟨gb_77, hx0_77, hP1, hD1⟩ := hB
      rw [ht] at hP1
      obtain ⟨hP, hD⟩ := va_join (wr := [(m2, .inl (cI, 8, .inl (upd (upd fp j ((fp j) &&& ((1 <<< ((nI i) &&& 31)) ^^^ (-1)))) i (((upd fp j ((fp j) &&& ((1 <<< ((nI i) &&& 31)) ^^^ (-1)))) i) ||| (1 <<< ((nI j) &&& 31))))))]) (w1 := [(mo, .inr (8, [.int (nI n), .ref m1, .ref m2, .ref m3, .long ka, .long kb, .ref m6, .ref m7, .ref m8, .ref m9, .ref m10, .ref m11, .ref m12, .ref m13, .ref m14, .ref m15, .ref m16])), (m3, .inl (cI, 1024, .inl gb_77))]) hP hD [0, 2] [1] rfl rfl (by decide) (by decide) hk1 hFc hP1 hD1
      generalize H1 = H at hP hS ⊢
      have hP : va_P (dC, dI) vwCl [(m2, .inl (cI, 8, .inl (upd (upd fp j ((fp j) &&& ((1 <<< ((nI i) &&& 31)) ^^^ (-1)))) i (((upd fp j ((fp j) &&& ((1 <<< ((nI i) &&& 31)) ^^^ (-1)))) i) ||| (1 <<< ((nI j) &&& 31)))))), (mo, .inr (8, [.int (nI n), .ref m1, .ref m2, .ref m3, .long ka, .long kb, .ref m6, .ref m7, .ref m8, .ref m9, .ref m10, .ref m11, .ref m12, .ref m13, .ref m14, .ref m15, .ref m16])), (m3, .inl (cI, 1024, .inl gb_77))] H := hP
      have hD : va_D A [(m2, .inl (cI, 8, .inl (upd (upd fp j ((fp j) &&& ((1 <<< ((nI i) &&& 31)) ^^^ (-1)))) i (((upd fp j ((fp j) &&& ((1 <<< ((nI i) &&& 31)) ^^^ (-1)))) i) ||| (1 <<< ((nI j) &&& 31)))))), (mo, .inr (8, [.int (nI n), .ref m1, .ref m2, .ref m3, .long ka, .long kb, .ref m6, .ref m7, .ref m8, .ref m9, .ref m10, .ref m11, .ref m12, .ref m13, .ref m14, .ref m15, .ref m16])), (m3, .inl (cI, 1024, .inl gb_77))] := hD
      refine lv_aload_n hx hb dX8_turn_80 rfl (lv_at hl 1 rfl) ?_
      refine lv_iload_n hx hb dX8_turn_81 rfl (lv_at hl 2 rfl) ?_
      have hPc := hP.sub (ws' := [(mo, .inr (8, [.int (nI n), .ref m1, .ref m2, .ref m3, .long ka, .long kb, .ref m6, .ref m7, .ref m8, .ref m9, .ref m10, .ref m11, .ref m12, .ref m13, .ref m14, .ref m15, .ref m16])), (m3, .inl (cI, 1024, .inl gb_77))]) [1, 2] rfl
      have hDc := hD.sub (ws' := [(mo, .inr (8, [.int (nI n), .ref m1, .ref m2, .ref m3, .long ka, .long kb, .ref m6, .ref m7, .ref m8, .ref m9, .ref m10, .ref m11, .ref m12, .ref m13, .ref m14, .ref m15, .ref m16])), (m3, .inl (cI, 1024, .inl gb_77))]) [1, 2] (by decide) rfl
      have hFc := va_free (wc := [(mo, .inr (8, [.int (nI n), .ref m1, .ref m2, .ref m3, .long ka, .long kb, .ref m6, .ref m7, .ref m8, .ref m9, .ref m10, .ref m11, .ref m12, .ref m13, .ref m14, .ref m15, .ref m16])), (m3, .inl (cI, 1024, .inl gb_77))]) hD hS hA [1, 2] rfl
      refine va_callv (va_runV (As := [.int (nI i)]) (rest := []) ⟨hx, hb, hml, hown, hts⟩ (mz_e_m_fresh l dC dI cI cJ cZ mo m1 m2 m3 m6 m7 m8 m9 m10 m11 m12 m13 m14 m15 m16 n ka kb gb_77 i H.size (by first | assumption | omega)) (cwV 1 hts gX8_turn_X8_fresh rfl rfl rfl (by decide +kernel) ⟨Nat.le_of_ble_eq_true rfl, Nat.le_of_ble_eq_true rfl⟩) ⟨fun a U g mk q => mz_blI q, va_recv hK hPc (ci := 8) (q0 := 0) rfl rfl, fun U hU hW => ⟨rfl, by rw [hU], by rw [hU]; exact hPc, va_K.moved hW.alike hK, hDc.weaken (fun _ _ _ _ => trivial), mz_nw hW hN⟩⟩ rfl rfl hl.1 rfl (lv_room (Nat.le_of_ble_eq_true rfl)) dX8_turn_82 ⟨Nat.le_of_ble_eq_true rfl, Nat.le_of_ble_eq_true rfl⟩) hS (fun q _ h => hFc q h) hFc (fun u t H1 locs ht hvm hw_82 hB hz1 hk1 hS => ?_)
      obtain ⟨gb_82, hx0_82, hP1, hD1⟩ := hB
      rw [ht] at hP1
      obtain ⟨hP, hD⟩ := va_join (wr := [(m2, .inl (cI, 8, .inl (upd (upd fp j ((fp j) &&& ((1 <<< ((nI i) &&& 31)) ^^^ (-1)))) i (((upd fp j ((fp j) &&& ((1 <<< ((nI i) &&& 31)) ^^^ (-1)))) i) ||| (1 <<< ((nI j) &&& 31))))))]) (w1 := [(mo, .inr (8, [.int (nI n), .ref m1, .ref m2, .ref m3, .long ka, .long kb, .ref m6, .ref m7, .ref m8, .ref m9, .ref m10, .ref m11, .ref m12, .ref m13, .ref m14, .ref m15, .ref m16])), (m3, .inl (cI, 1024, .inl gb_82))]) hP hD [1, 2] [0] rfl rfl (by decide) (by decide) hk1 hFc hP1 hD1
      generalize H1 = H at hP hS ⊢
      have hP : va_P (dC, dI) vwCl [(m2, .inl (cI, 8, .inl (upd (upd fp j ((fp j) &&& ((1 <<< ((nI i) &&& 31)) ^^^ (-1)))) i (((upd fp j ((fp j) &&& ((1 <<< ((nI i) &&& 31)) ^^^ (-1)))) i) ||| (1 <<< ((nI j) &&& 31)))))), (mo, .inr (8, [.int (nI n), .ref m1, .ref m2, .ref m3, .long ka, .long kb, .ref m6, .ref m7, .ref m8, .ref m9, .ref m10, .ref m11, .ref m12, .ref m13, .ref m14, .ref m15, .ref m16])), (m3, .inl (cI, 1024, .inl gb_82))] H := hP
      have hD : va_D A [(m2, .inl (cI, 8, .inl (upd (upd fp j ((fp j) &&& ((1 <<< ((nI i) &&& 31)) ^^^ (-1)))) i (((upd fp j ((fp j) &&& ((1 <<< ((nI i) &&& 31)) ^^^ (-1)))) i) ||| (1 <<< ((nI j) &&& 31)))))), (mo, .inr (8, [.int (nI n), .ref m1, .ref m2, .ref m3, .long ka, .long kb, .ref m6, .ref m7, .ref m8, .ref m9, .ref m10, .ref m11, .ref m12, .ref m13, .ref m14, .ref m15, .ref m16])), (m3, .inl (cI, 1024, .inl gb_82))] := hD
      refine lv_iconst (v := 1) hx hb dX8_turn_85 (by decide +kernel) ?_
      have hP9 := hP.sub (ws' := [(mo, .inr (8, [.int (nI n), .ref m1, .ref m2, .ref m3, .long ka, .long kb, .ref m6, .ref m7, .ref m8, .ref m9, .ref m10, .ref m11, .ref m12, .ref m13, .ref m14, .ref m15, .ref m16])), (m2, .inl (cI, 8, .inl (upd (upd fp j ((fp j) &&& ((1 <<< ((nI i) &&& 31)) ^^^ (-1)))) i (((upd fp j ((fp j) &&& ((1 <<< ((nI i) &&& 31)) ^^^ (-1)))) i) ||| (1 <<< ((nI j) &&& 31)))))), (m3, .inl (cI, 1024, .inl gb_82))]) [1, 0, 2] rfl
      have hD9 := hD.sub (ws' := [(mo, .inr (8, [.int (nI n), .ref m1, .ref m2, .ref m3, .long ka, .long kb, .ref m6, .ref m7, .ref m8, .ref m9, .ref m10, .ref m11, .ref m12, .ref m13, .ref m14, .ref m15, .ref m16])), (m2, .inl (cI, 8, .inl (upd (upd fp j ((fp j) &&& ((1 <<< ((nI i) &&& 31)) ^^^ (-1)))) i (((upd fp j ((fp j) &&& ((1 <<< ((nI i) &&& 31)) ^^^ (-1)))) i) ||| (1 <<< ((nI j) &&& 31)))))), (m3, .inl (cI, 1024, .inl gb_82))]) [1, 0, 2] (by decide) rfl
      refine W.widen (k := 0) (n := 0) (Nat.le_of_ble_eq_true rfl) (Nat.le_of_ble_eq_true rfl) ?_
      exact W.zret (v := 1) hx hb hr (mz_nz (by decide +kernel)) (fun t ht hW => ⟨⟨1, (), rfl, Or.inl ⟨rfl, ht_3, mz_turn_can hn hi hj ha ht_3 hw_28 (mz_t_n (by omega) c_36)⟩, (upd (upd fp j ((fp j) &&& ((1 <<< ((nI i) &&& 31)) ^^^ (-1)))) i (((upd fp j ((fp j) &&& ((1 <<< ((nI i) &&& 31)) ^^^ (-1)))) i) ||| (1 <<< ((nI j) &&& 31)))), gb_82, (mz_turn_on hn hi hj ha ((mz_b1 (by omega)).mpr ht_3) hw_28.1 c_36), (fun _ _ => ⟨rfl, _, hx0_77, hx0_82⟩), (fun _ h => (mz_mexcl hj (mz_turn_can hn hi hj ha ht_3 hw_28 (mz_t_n (by omega) c_36)) h).elim), (fun h => by rw [ht_3] at h; cases h), by rw [ht]; exact hP9, hD9⟩, hS.F ht⟩) hS.2.2 dX8_turn_86
    · skip
      refine lv_iconst (v := 1) hx hb dX8_turn_39 (by decide +kernel) ?_
      refine lv_goto (tgt := 44) hx hb dX8_turn_40 (by decide) ?_
      refine lv_istore_n (lv' := [(3, .int 1), (0, .ref mo), (1, .int (nI i)), (2, .int (nI j))]) hx hb dX8_turn_44 rfl hl (by decide) rfl (fun ls hl => ?_)
      refine lv_iload_n hx hb dX8_turn_45 rfl (lv_at hl 0 rfl) ?_
      refine lv_if_eq (tgt := 63) hx hb dX8_turn_46 (by decide) (fun c_46 => absurd c_46 (by decide +kernel)) (fun _ => ?_)
      refine lv_aload_n hx hb dX8_turn_49 rfl (lv_at hl 1 rfl) ?_
      refine va_get (D := (dC, dI)) (ci := 8) (v := .ref m2) (C := RX8) (T := TX8) (N := 17) hx hb hts hiX8 hown hK hP 0 rfl rfl 2 (by decide) (hts (.fieldLink RX8 13 "MadeItSoModel" "parents" "[I") (by decide +kernel)) (fun _ h9 => h9) rfl dX8_turn_50 ?_
      refine lv_iload_n hx hb dX8_turn_53 rfl (lv_at hl 3 rfl) ?_
      refine lv_dup2_11 hx hb dX8_turn_54 rfl rfl ?_
      refine va_iald hx hb hK hP 1 0 rfl rfl (vp_in_nI (by omega) (by omega)) dX8_turn_55 ?_
      refine mz_ti (y := ((upd fp j ((fp j) &&& ((1 <<< ((nI i) &&& 31)) ^^^ (-1)))) j)) (by rw [mz_cl (by omega)]) ?_
      refine lv_iconst (v := 1) hx hb dX8_turn_56 (by decide +kernel) ?_
      refine lv_iload_n hx hb dX8_turn_57 rfl (lv_at hl 2 rfl) ?_
      refine lv_ishl hx hb dX8_turn_58 ?_
      refine lv_ior hx hb dX8_turn_59 ?_
      refine va_iast hx hb hK hP hD hS 1 0 rfl rfl (vp_in_nI (by omega) (by omega)) dX8_turn_60 (fun H locs hP hD hS => ?_)
      rw [mz_cl (n := j) (by omega)] at hP hD
      have hP : va_P (dC, dI) vwCl [(mo, .inr (8, [.int (nI n), .ref m1, .ref m2, .ref m3, .long ka, .long kb, .ref m6, .ref m7, .ref m8, .ref m9, .ref m10, .ref m11, .ref m12, .ref m13, .ref m14, .ref m15, .ref m16])), (m2, .inl (cI, 8, .inl (upd (upd fp j ((fp j) &&& ((1 <<< ((nI i) &&& 31)) ^^^ (-1)))) j (((upd fp j ((fp j) &&& ((1 <<< ((nI i) &&& 31)) ^^^ (-1)))) j) ||| (1 <<< ((nI i) &&& 31)))))), (m3, .inl (cI, 1024, .inl fb))] H := hP
      have hD : va_D A [(mo, .inr (8, [.int (nI n), .ref m1, .ref m2, .ref m3, .long ka, .long kb, .ref m6, .ref m7, .ref m8, .ref m9, .ref m10, .ref m11, .ref m12, .ref m13, .ref m14, .ref m15, .ref m16])), (m2, .inl (cI, 8, .inl (upd (upd fp j ((fp j) &&& ((1 <<< ((nI i) &&& 31)) ^^^ (-1)))) j (((upd fp j ((fp j) &&& ((1 <<< ((nI i) &&& 31)) ^^^ (-1)))) j) ||| (1 <<< ((nI i) &&& 31)))))), (m3, .inl (cI, 1024, .inl fb))] := hD
      refine lv_iconst (v := 0) hx hb dX8_turn_61 (by decide +kernel) ?_
      have hP9 := hP.sub (ws' := [(mo, .inr (8, [.int (nI n), .ref m1, .ref m2, .ref m3, .long ka, .long kb, .ref m6, .ref m7, .ref m8, .ref m9, .ref m10, .ref m11, .ref m12, .ref m13, .ref m14, .ref m15, .ref m16])), (m2, .inl (cI, 8, .inl (upd (upd fp j ((fp j) &&& ((1 <<< ((nI i) &&& 31)) ^^^ (-1)))) j (((upd fp j ((fp j) &&& ((1 <<< ((nI i) &&& 31)) ^^^ (-1)))) j) ||| (1 <<< ((nI i) &&& 31)))))), (m3, .inl (cI, 1024, .inl fb))]) [0, 1, 2] rfl
      have hD9 := hD.sub (ws' := [(mo, .inr (8, [.int (nI n), .ref m1, .ref m2, .ref m3, .long ka, .long kb, .ref m6, .ref m7, .ref m8, .ref m9, .ref m10, .ref m11, .ref m12, .ref m13, .ref m14, .ref m15, .ref m16])), (m2, .inl (cI, 8, .inl (upd (upd fp j ((fp j) &&& ((1 <<< ((nI i) &&& 31)) ^^^ (-1)))) j (((upd fp j ((fp j) &&& ((1 <<< ((nI i) &&& 31)) ^^^ (-1)))) j) ||| (1 <<< ((nI i) &&& 31)))))), (m3, .inl (cI, 1024, .inl fb))]) [0, 1, 2] (by decide) rfl
      refine W.widen (k := 0) (n := 0) (Nat.le_of_ble_eq_true rfl) (Nat.le_of_ble_eq_true rfl) ?_
      exact W.zret (v := 0) hx hb hr (mz_nz (by decide +kernel)) (fun t ht hW => ⟨⟨0, (), rfl, Or.inr ⟨rfl, Or.inr (Or.inr (Or.inr (Or.inr ⟨_, hw_28, mz_t_y (by omega) c_36⟩)))⟩, (upd (upd fp j ((fp j) &&& ((1 <<< ((nI i) &&& 31)) ^^^ (-1)))) j (((upd fp j ((fp j) &&& ((1 <<< ((nI i) &&& 31)) ^^^ (-1)))) j) ||| (1 <<< ((nI i) &&& 31)))), fb, (by rw [mz_back (by omega) ht_3]; exact ha), (fun _ h => (mz_mexcl hj h (Or.inr (Or.inr (Or.inr ⟨_, hw_28, mz_t_y (by omega) c_36⟩)))).elim), (fun _ _ => ⟨mz_back (by omega) ht_3, rfl⟩), (fun h => by rw [ht_3] at h; cases h), by rw [ht]; exact hP9, hD9⟩, hS.F ht⟩) hS.2.2 dX8_turn_62
  · skip
    refine lv_if_ne (tgt := 11) hx hb dX8_turn_6 (by decide) (fun c_6 => absurd (by decide +kernel) c_6) (fun _ => ?_)
    refine lv_iconst (v := 0) hx hb dX8_turn_9 (by decide +kernel) ?_
    have hP9 := hP.sub (ws' := [(mo, .inr (8, [.int (nI n), .ref m1, .ref m2, .ref m3, .long ka, .long kb, .ref m6, .ref m7, .ref m8, .ref m9, .ref m10, .ref m11, .ref m12, .ref m13, .ref m14, .ref m15, .ref m16])), (m2, .inl (cI, 8, .inl fp)), (m3, .inl (cI, 1024, .inl fb))]) [0, 1, 2] rfl
    have hD9 := hD.sub (ws' := [(mo, .inr (8, [.int (nI n), .ref m1, .ref m2, .ref m3, .long ka, .long kb, .ref m6, .ref m7, .ref m8, .ref m9, .ref m10, .ref m11, .ref m12, .ref m13, .ref m14, .ref m15, .ref m16])), (m2, .inl (cI, 8, .inl fp)), (m3, .inl (cI, 1024, .inl fb))]) [0, 1, 2] (by decide) rfl
    refine W.widen (k := 0) (n := 0) (Nat.le_of_ble_eq_true rfl) (Nat.le_of_ble_eq_true rfl) ?_
    exact W.zret (v := 0) hx hb hr (mz_nz (by decide +kernel)) (fun t ht hW => ⟨⟨0, (), rfl, Or.inr ⟨rfl, Or.inl ht_3⟩, fp, fb, ha, (fun h => by rw [ht_3] at h; cases h), (fun h => by rw [ht_3] at h; cases h), (fun _ => ⟨rfl, rfl⟩), by rw [ht]; exact hP9, hD9⟩, hS.F ht⟩) hS.2.2 dX8_turn_10
set_option maxHeartbeats 1000000 in
set_option maxRecDepth 100000 in
theorem mz_e_m_turn_out (l : Launch) (dC : Nat → ClassId) (dI : Nat → Nat → Nat) (cI cJ cZ : ClassId) (mo : Nat) (m1 : Nat) (m2 : Nat) (m3 : Nat) (m6 : Nat) (m7 : Nat) (m8 : Nat) (m9 : Nat) (m10 : Nat) (m11 : Nat) (m12 : Nat) (m13 : Nat) (m14 : Nat) (m15 : Nat) (m16 : Nat) (n : Nat) (ka : Int64) (kb : Int64) (p1 : Int32) (p2 : Int32) (Hq : Heap) (hn : n ≤ 8) (hout : ¬ ∃ i j : Nat, i < n ∧ j < n ∧ p1 = nI i ∧ p2 = nI j) : Met l yX8_turn wsX8_turn ({ frames := 2, cells := 0, slots := 0, locals := 43 }) (va_Pc [.ref mo, .int p1, .int p2] (fun U => U.heap = Hq ∧ va_P (dC, dI) vwCl [(mo, .inr (8, [.int (nI n), .ref m1, .ref m2, .ref m3, .long ka, .long kb, .ref m6, .ref m7, .ref m8, .ref m9, .ref m10, .ref m11, .ref m12, .ref m13, .ref m14, .ref m15, .ref m16]))] Hq ∧ va_K (dC, dI) vwCl [(cI, FieldType.int), (cJ, FieldType.long), (cZ, FieldType.boolean)] U ∧ mz_N U)) (va_Qi (fun (r : Int32) (_ : Unit) => r = 0) (fun _ t => t.heap = Hq) (fun _ : Nat => False)) 0 0 (fun _ : Nat => False) := by
  refine Met.ofW (cc := cX8_turn) (maxL := 4) (ret := (some .boolean)) (by decide) rfl ?_
  intro p e s m args below meth c s₁ B hml hv
  obtain ⟨rfl, hH, hP, hK, hN⟩ := hv
  subst hH
  have hx := B.exec
  have hb := B.bytes
  have hr := B.returns
  have hts := atoms_spec (ws := wsX8_turn) B.pre
  have hown : s.vm.findClass RX8 = some m.cls := findClass_of_methodNamed B.named
  have hlocks := B.notSynchronized
  have hS : va_S (fun _ : Nat => False) s.heap s.heap [] := va_S.rf
  have hl := lv_entry ([.ref mo, .int p1, .int p2]) (n := 4) (Nat.le_of_ble_eq_true rfl)
  rw [lg_entry_eq]
  generalize (lg_sl ([.ref mo, .int p1, .int p2]) ++ List.replicate (4 - (lg_sl ([.ref mo, .int p1, .int p2])).length) Slot.unset).toArray = ls at hl ⊢
  have hl : lv_has ls 4 [(0, .ref mo), (1, .int p1), (2, .int p2)] := hl
  refine lv_aload_n hx hb dX8_turn_0 rfl (lv_at hl 0 rfl) ?_
  refine lv_iload_n hx hb dX8_turn_1 rfl (lv_at hl 1 rfl) ?_
  refine lv_iload_n hx hb dX8_turn_2 rfl (lv_at hl 2 rfl) ?_
  have hPc := hP.sub (ws' := [(mo, .inr (8, [.int (nI n), .ref m1, .ref m2, .ref m3, .long ka, .long kb, .ref m6, .ref m7, .ref m8, .ref m9, .ref m10, .ref m11, .ref m12, .ref m13, .ref m14, .ref m15, .ref m16]))]) [0] rfl
  refine va_calli (va_runV (As := [.int p1, .int p2]) (rest := []) ⟨hx, hb, hml, hown, hts⟩ (mz_e_m_has_out l dC dI cI cJ cZ mo m1 m2 m3 m6 m7 m8 m9 m10 m11 m12 m13 m14 m15 m16 n ka kb p1 p2 s.heap (by first | assumption | omega) hout) (cwV 2 hts gX8_turn_X8_has rfl rfl rfl (by decide +kernel) ⟨Nat.le_of_ble_eq_true rfl, Nat.le_of_ble_eq_true rfl⟩) ⟨fun a U g mk q => mz_blP q, va_recv hK hPc (ci := 8) (q0 := 0) rfl rfl, fun U hU hW => ⟨rfl, hU, hPc, va_K.moved hW.alike hK, mz_nw hW hN⟩⟩ rfl rfl hl.1 rfl (lv_room (Nat.le_of_ble_eq_true rfl)) dX8_turn_3 ⟨Nat.le_of_ble_eq_true rfl, Nat.le_of_ble_eq_true rfl⟩) hS (fun q _ h => h.elim) (fun q h => h.elim) (fun r_3 u t H1 locs ht hvm hw_3 hB hz1 hk1 hS => ?_)
  have hE : s.heap = H1 := hB.symm.trans ht
  subst hE
  obtain rfl : r_3 = 0 := hw_3
  refine lv_if_ne (tgt := 11) hx hb dX8_turn_6 (by decide) (fun c_6 => absurd (by decide +kernel) c_6) (fun _ => ?_)
  refine lv_iconst (v := 0) hx hb dX8_turn_9 (by decide +kernel) ?_
  refine W.widen (k := 0) (n := 0) (Nat.le_of_ble_eq_true rfl) (Nat.le_of_ble_eq_true rfl) ?_
  exact W.zret (v := 0) hx hb hr (mz_nz (by decide +kernel)) (fun t ht hW => ⟨⟨0, (), rfl, rfl, ht⟩, hS.F ht⟩) hS.2.2 dX8_turn_10
set_option maxHeartbeats 1000000 in
set_option maxRecDepth 100000 in
theorem mz_e_m_thing (l : Launch) (dC : Nat → ClassId) (dI : Nat → Nat → Nat) (cI cJ cZ : ClassId) (mo : Nat) (m1 : Nat) (m2 : Nat) (m3 : Nat) (m6 : Nat) (m7 : Nat) (m8 : Nat) (m9 : Nat) (m10 : Nat) (m11 : Nat) (m12 : Nat) (m13 : Nat) (m14 : Nat) (m15 : Nat) (m16 : Nat) (n : Nat) (ka : Int64) (kb : Int64) (fs : Nat → Int32) (fp : Nat → Int32) (fb : Nat → Int32) (p1 : Int32) (sz : Nat) (hn8 : n < 8) (ha : mz_acy n fp) : Met l yX8_thing wsX8_thing ({ frames := 1, cells := 0, slots := 0, locals := 22 }) (va_Pc [.ref mo, .int p1] (fun U => U.heap.size = sz ∧ va_P (dC, dI) vwCl [(mo, .inr (8, [.int (nI n), .ref m1, .ref m2, .ref m3, .long ka, .long kb, .ref m6, .ref m7, .ref m8, .ref m9, .ref m10, .ref m11, .ref m12, .ref m13, .ref m14, .ref m15, .ref m16])), (m1, .inl (cZ, 8, .inl fs)), (m2, .inl (cI, 8, .inl fp)), (m3, .inl (cI, 1024, .inl fb))] U.heap ∧ va_K (dC, dI) vwCl [(cI, FieldType.int), (cJ, FieldType.long), (cZ, FieldType.boolean)] U ∧ va_D (fun _ => True) [(mo, .inr (8, [.int (nI n), .ref m1, .ref m2, .ref m3, .long ka, .long kb, .ref m6, .ref m7, .ref m8, .ref m9, .ref m10, .ref m11, .ref m12, .ref m13, .ref m14, .ref m15, .ref m16])), (m1, .inl (cZ, 8, .inl fs)), (m2, .inl (cI, 8, .inl fp)), (m3, .inl (cI, 1024, .inl fb))] ∧ mz_N U)) (va_Qi (fun (r : Int32) (_ : Unit) => r = (nI n)) (fun _ t => ∃ (gs : Nat → Int32), ∃ (gp : Nat → Int32), ∃ (gb : Nat → Int32), (mz_acy (n + 1) gp) ∧ (gp = upd fp n 0) ∧ (mz_bkp fb gb n 128) ∧ va_P (dC, dI) vwCl [(mo, .inr (8, [.int (nI ((n + 1))), .ref m1, .ref m2, .ref m3, .long ka, .long kb, .ref m6, .ref m7, .ref m8, .ref m9, .ref m10, .ref m11, .ref m12, .ref m13, .ref m14, .ref m15, .ref m16])), (m1, .inl (cZ, 8, .inl gs)), (m2, .inl (cI, 8, .inl gp)), (m3, .inl (cI, 1024, .inl gb))] t.heap ∧ va_D (va_A [(mo, .inr (8, [.int (nI n), .ref m1, .ref m2, .ref m3, .long ka, .long kb, .ref m6, .ref m7, .ref m8, .ref m9, .ref m10, .ref m11, .ref m12, .ref m13, .ref m14, .ref m15, .ref m16])), (m1, .inl (cZ, 8, .inl fs)), (m2, .inl (cI, 8, .inl fp)), (m3, .inl (cI, 1024, .inl fb))] sz) [(mo, .inr (8, [.int (nI ((n + 1))), .ref m1, .ref m2, .ref m3, .long ka, .long kb, .ref m6, .ref m7, .ref m8, .ref m9, .ref m10, .ref m11, .ref m12, .ref m13, .ref m14, .ref m15, .ref m16])), (m1, .inl (cZ, 8, .inl gs)), (m2, .inl (cI, 8, .inl gp)), (m3, .inl (cI, 1024, .inl gb))]) (va_A [(mo, .inr (8, [.int (nI n), .ref m1, .ref m2, .ref m3, .long ka, .long kb, .ref m6, .ref m7, .ref m8, .ref m9, .ref m10, .ref m11, .ref m12, .ref m13, .ref m14, .ref m15, .ref m16])), (m1, .inl (cZ, 8, .inl fs)), (m2, .inl (cI, 8, .inl fp)), (m3, .inl (cI, 1024, .inl fb))] sz)) 0 0 (va_A [(mo, .inr (8, [.int (nI n), .ref m1, .ref m2, .ref m3, .long ka, .long kb, .ref m6, .ref m7, .ref m8, .ref m9, .ref m10, .ref m11, .ref m12, .ref m13, .ref m14, .ref m15, .ref m16])), (m1, .inl (cZ, 8, .inl fs)), (m2, .inl (cI, 8, .inl fp)), (m3, .inl (cI, 1024, .inl fb))] sz) := by
  refine Met.ofW (cc := cX8_thing) (maxL := 2) (ret := (some .int)) (by decide) rfl ?_
  intro p e s m args below meth c s₁ B hml hv
  obtain ⟨rfl, hsz, hP, hK, hD0, hN⟩ := hv
  subst hsz
  have hx := B.exec
  have hb := B.bytes
  have hr := B.returns
  have hts := atoms_spec (ws := wsX8_thing) B.pre
  have hown : s.vm.findClass RX8 = some m.cls := findClass_of_methodNamed B.named
  have hlocks := B.notSynchronized
  have hD := hD0.self (sz := s.heap.size)
  generalize hAe : va_A [(mo, .inr (8, [.int (nI n), .ref m1, .ref m2, .ref m3, .long ka, .long kb, .ref m6, .ref m7, .ref m8, .ref m9, .ref m10, .ref m11, .ref m12, .ref m13, .ref m14, .ref m15, .ref m16])), (m1, .inl (cZ, 8, .inl fs)), (m2, .inl (cI, 8, .inl fp)), (m3, .inl (cI, 1024, .inl fb))] s.heap.size = A at hD ⊢
  have hA : ∀ q : Nat, s.heap.size ≤ q → A q := fun q h => by rw [← hAe]; exact Or.inr h
  have hS : va_S A s.heap s.heap [] := va_S.rf
  have hiX8 : ∀ w ∈ u_ws RX8 TX8 17, w ∈ wsX8_thing := by decide +kernel
  have hl := lv_entry ([.ref mo, .int p1]) (n := 2) (Nat.le_of_ble_eq_true rfl)
  rw [lg_entry_eq]
  generalize (lg_sl ([.ref mo, .int p1]) ++ List.replicate (2 - (lg_sl ([.ref mo, .int p1])).length) Slot.unset).toArray = ls at hl ⊢
  have hl : lv_has ls 2 [(0, .ref mo), (1, .int p1)] := hl
  refine lv_aload_n hx hb dX8_thing_0 rfl (lv_at hl 0 rfl) ?_
  refine va_get (D := (dC, dI)) (ci := 8) (v := .int (nI n)) (C := RX8) (T := TX8) (N := 17) hx hb hts hiX8 hown hK hP 0 rfl rfl 0 (by decide) (hts (.fieldLink RX8 58 "MadeItSoModel" "many" "I") (by decide +kernel)) (fun _ h9 => h9) rfl dX8_thing_1 ?_
  refine lv_bipush (v := 8) hx hb dX8_thing_4 (by decide +kernel) ?_
  refine lv_icmp_ne (tgt := 11) hx hb dX8_thing_6 (by decide) (fun _ => ?_) (fun c_6 => absurd c_6 (fun h => absurd ((nI_eq (a := n) (b := 8) (by omega) (by omega)).mp h) (by omega)))
  refine lv_aload_n hx hb dX8_thing_11 rfl (lv_at hl 0 rfl) ?_
  refine va_get (D := (dC, dI)) (ci := 8) (v := .ref m1) (C := RX8) (T := TX8) (N := 17) hx hb hts hiX8 hown hK hP 0 rfl rfl 1 (by decide) (hts (.fieldLink RX8 9 "MadeItSoModel" "isSeen" "[Z") (by decide +kernel)) (fun _ h9 => h9) rfl dX8_thing_12 ?_
  refine lv_aload_n hx hb dX8_thing_15 rfl (lv_at hl 0 rfl) ?_
  refine va_get (D := (dC, dI)) (ci := 8) (v := .int (nI n)) (C := RX8) (T := TX8) (N := 17) hx hb hts hiX8 hown hK hP 0 rfl rfl 0 (by decide) (hts (.fieldLink RX8 58 "MadeItSoModel" "many" "I") (by decide +kernel)) (fun _ h9 => h9) rfl dX8_thing_16 ?_
  refine lv_iload_n hx hb dX8_thing_19 rfl (lv_at hl 1 rfl) ?_
  refine va_zast hx hb hK hP hD hS 1 2 rfl rfl (vp_in_nI (by omega) (by omega)) dX8_thing_20 (fun H locs hP hD hS => ?_)
  rw [mz_cl (n := n) (by omega)] at hP hD
  have hP : va_P (dC, dI) vwCl [(mo, .inr (8, [.int (nI n), .ref m1, .ref m2, .ref m3, .long ka, .long kb, .ref m6, .ref m7, .ref m8, .ref m9, .ref m10, .ref m11, .ref m12, .ref m13, .ref m14, .ref m15, .ref m16])), (m1, .inl (cZ, 8, .inl (upd fs n (vp_nar .boolean p1)))), (m2, .inl (cI, 8, .inl fp)), (m3, .inl (cI, 1024, .inl fb))] H := hP
  have hD : va_D A [(mo, .inr (8, [.int (nI n), .ref m1, .ref m2, .ref m3, .long ka, .long kb, .ref m6, .ref m7, .ref m8, .ref m9, .ref m10, .ref m11, .ref m12, .ref m13, .ref m14, .ref m15, .ref m16])), (m1, .inl (cZ, 8, .inl (upd fs n (vp_nar .boolean p1)))), (m2, .inl (cI, 8, .inl fp)), (m3, .inl (cI, 1024, .inl fb))] := hD
  refine lv_aload_n hx hb dX8_thing_21 rfl (lv_at hl 0 rfl) ?_
  refine va_get (D := (dC, dI)) (ci := 8) (v := .ref m2) (C := RX8) (T := TX8) (N := 17) hx hb hts hiX8 hown hK hP 0 rfl rfl 2 (by decide) (hts (.fieldLink RX8 13 "MadeItSoModel" "parents" "[I") (by decide +kernel)) (fun _ h9 => h9) rfl dX8_thing_22 ?_
  refine lv_aload_n hx hb dX8_thing_25 rfl (lv_at hl 0 rfl) ?_
  refine va_get (D := (dC, dI)) (ci := 8) (v := .int (nI n)) (C := RX8) (T := TX8) (N := 17) hx hb hts hiX8 hown hK hP 0 rfl rfl 0 (by decide) (hts (.fieldLink RX8 58 "MadeItSoModel" "many" "I") (by decide +kernel)) (fun _ h9 => h9) rfl dX8_thing_26 ?_
  refine lv_iconst (v := 0) hx hb dX8_thing_29 (by decide +kernel) ?_
  refine va_iast hx hb hK hP hD hS 2 0 rfl rfl (vp_in_nI (by omega) (by omega)) dX8_thing_30 (fun H locs hP hD hS => ?_)
  rw [mz_cl (n := n) (by omega)] at hP hD
  have hP : va_P (dC, dI) vwCl [(mo, .inr (8, [.int (nI n), .ref m1, .ref m2, .ref m3, .long ka, .long kb, .ref m6, .ref m7, .ref m8, .ref m9, .ref m10, .ref m11, .ref m12, .ref m13, .ref m14, .ref m15, .ref m16])), (m1, .inl (cZ, 8, .inl (upd fs n (vp_nar .boolean p1)))), (m2, .inl (cI, 8, .inl (upd fp n 0))), (m3, .inl (cI, 1024, .inl fb))] H := hP
  have hD : va_D A [(mo, .inr (8, [.int (nI n), .ref m1, .ref m2, .ref m3, .long ka, .long kb, .ref m6, .ref m7, .ref m8, .ref m9, .ref m10, .ref m11, .ref m12, .ref m13, .ref m14, .ref m15, .ref m16])), (m1, .inl (cZ, 8, .inl (upd fs n (vp_nar .boolean p1)))), (m2, .inl (cI, 8, .inl (upd fp n 0))), (m3, .inl (cI, 1024, .inl fb))] := hD
  refine lv_aload_n hx hb dX8_thing_31 rfl (lv_at hl 0 rfl) ?_
  refine lv_aload_n hx hb dX8_thing_32 rfl (lv_at hl 0 rfl) ?_
  refine va_get (D := (dC, dI)) (ci := 8) (v := .int (nI n)) (C := RX8) (T := TX8) (N := 17) hx hb hts hiX8 hown hK hP 0 rfl rfl 0 (by decide) (hts (.fieldLink RX8 58 "MadeItSoModel" "many" "I") (by decide +kernel)) (fun _ h9 => h9) rfl dX8_thing_33 ?_
  have hPc := hP.sub (ws' := [(mo, .inr (8, [.int (nI n), .ref m1, .ref m2, .ref m3, .long ka, .long kb, .ref m6, .ref m7, .ref m8, .ref m9, .ref m10, .ref m11, .ref m12, .ref m13, .ref m14, .ref m15, .ref m16])), (m3, .inl (cI, 1024, .inl fb))]) [0, 3] rfl
  have hDc := hD.sub (ws' := [(mo, .inr (8, [.int (nI n), .ref m1, .ref m2, .ref m3, .long ka, .long kb, .ref m6, .ref m7, .ref m8, .ref m9, .ref m10, .ref m11, .ref m12, .ref m13, .ref m14, .ref m15, .ref m16])), (m3, .inl (cI, 1024, .inl fb))]) [0, 3] (by decide) rfl
  have hFc := va_free (wc := [(mo, .inr (8, [.int (nI n), .ref m1, .ref m2, .ref m3, .long ka, .long kb, .ref m6, .ref m7, .ref m8, .ref m9, .ref m10, .ref m11, .ref m12, .ref m13, .ref m14, .ref m15, .ref m16])), (m3, .inl (cI, 1024, .inl fb))]) hD hS hA [0, 3] rfl
  refine va_callv (va_runV (As := [.int (nI n)]) (rest := []) ⟨hx, hb, hml, hown, hts⟩ (mz_e_m_fresh l dC dI cI cJ cZ mo m1 m2 m3 m6 m7 m8 m9 m10 m11 m12 m13 m14 m15 m16 n ka kb fb n H.size (by first | assumption | omega)) (cwV 1 hts gX8_thing_X8_fresh rfl rfl rfl (by decide +kernel) ⟨Nat.le_of_ble_eq_true rfl, Nat.le_of_ble_eq_true rfl⟩) ⟨fun a U g mk q => mz_blI q, va_recv hK hPc (ci := 8) (q0 := 0) rfl rfl, fun U hU hW => ⟨rfl, by rw [hU], by rw [hU]; exact hPc, va_K.moved hW.alike hK, hDc.weaken (fun _ _ _ _ => trivial), mz_nw hW hN⟩⟩ rfl rfl hl.1 rfl (lv_room (Nat.le_of_ble_eq_true rfl)) dX8_thing_36 ⟨Nat.le_of_ble_eq_true rfl, Nat.le_of_ble_eq_true rfl⟩) hS (fun q _ h => hFc q h) hFc (fun u t H1 locs ht hvm hw_36 hB hz1 hk1 hS => ?_)
  obtain ⟨gb_36, hx0_36, hP1, hD1⟩ := hB
  rw [ht] at hP1
  obtain ⟨hP, hD⟩ := va_join (wr := [(m1, .inl (cZ, 8, .inl (upd fs n (vp_nar .boolean p1)))), (m2, .inl (cI, 8, .inl (upd fp n 0)))]) (w1 := [(mo, .inr (8, [.int (nI n), .ref m1, .ref m2, .ref m3, .long ka, .long kb, .ref m6, .ref m7, .ref m8, .ref m9, .ref m10, .ref m11, .ref m12, .ref m13, .ref m14, .ref m15, .ref m16])), (m3, .inl (cI, 1024, .inl gb_36))]) hP hD [0, 3] [1, 2] rfl rfl (by decide) (by decide) hk1 hFc hP1 hD1
  generalize H1 = H at hP hS ⊢
  have hP : va_P (dC, dI) vwCl [(m1, .inl (cZ, 8, .inl (upd fs n (vp_nar .boolean p1)))), (m2, .inl (cI, 8, .inl (upd fp n 0))), (mo, .inr (8, [.int (nI n), .ref m1, .ref m2, .ref m3, .long ka, .long kb, .ref m6, .ref m7, .ref m8, .ref m9, .ref m10, .ref m11, .ref m12, .ref m13, .ref m14, .ref m15, .ref m16])), (m3, .inl (cI, 1024, .inl gb_36))] H := hP
  have hD : va_D A [(m1, .inl (cZ, 8, .inl (upd fs n (vp_nar .boolean p1)))), (m2, .inl (cI, 8, .inl (upd fp n 0))), (mo, .inr (8, [.int (nI n), .ref m1, .ref m2, .ref m3, .long ka, .long kb, .ref m6, .ref m7, .ref m8, .ref m9, .ref m10, .ref m11, .ref m12, .ref m13, .ref m14, .ref m15, .ref m16])), (m3, .inl (cI, 1024, .inl gb_36))] := hD
  refine lv_aload_n hx hb dX8_thing_39 rfl (lv_at hl 0 rfl) ?_
  refine lv_dup hx hb dX8_thing_40 rfl ?_
  refine va_get (D := (dC, dI)) (ci := 8) (v := .int (nI n)) (C := RX8) (T := TX8) (N := 17) hx hb hts hiX8 hown hK hP 2 rfl rfl 0 (by decide) (hts (.fieldLink RX8 58 "MadeItSoModel" "many" "I") (by decide +kernel)) (fun _ h9 => h9) rfl dX8_thing_41 ?_
  refine lv_iconst (v := 1) hx hb dX8_thing_44 (by decide +kernel) ?_
  refine lv_iadd hx hb dX8_thing_45 ?_
  refine mz_ti (y := (nI (n + 1))) (nI_add _ _) ?_
  refine va_put (D := (dC, dI)) (ci := 8) (v := .int (nI (n + 1))) (ty := .int) (C := RX8) (T := TX8) (N := 17) hx hb hts hiX8 tyX8 tyX8_ok nmX8 hown hK hP hD hS 2 rfl rfl 0 (by decide) (hts (.fieldLink RX8 58 "MadeItSoModel" "many" "I") (by decide +kernel)) (fun _ h9 => h9) rfl (by decide +kernel) rfl rfl (Nat.le_of_ble_eq_true rfl) dX8_thing_46 (fun H locs hP hD hS => ?_)
  have hP : va_P (dC, dI) vwCl [(m1, .inl (cZ, 8, .inl (upd fs n (vp_nar .boolean p1)))), (m2, .inl (cI, 8, .inl (upd fp n 0))), (mo, .inr (8, [.int (nI (n + 1)), .ref m1, .ref m2, .ref m3, .long ka, .long kb, .ref m6, .ref m7, .ref m8, .ref m9, .ref m10, .ref m11, .ref m12, .ref m13, .ref m14, .ref m15, .ref m16])), (m3, .inl (cI, 1024, .inl gb_36))] H := hP
  have hD : va_D A [(m1, .inl (cZ, 8, .inl (upd fs n (vp_nar .boolean p1)))), (m2, .inl (cI, 8, .inl (upd fp n 0))), (mo, .inr (8, [.int (nI (n + 1)), .ref m1, .ref m2, .ref m3, .long ka, .long kb, .ref m6, .ref m7, .ref m8, .ref m9, .ref m10, .ref m11, .ref m12, .ref m13, .ref m14, .ref m15, .ref m16])), (m3, .inl (cI, 1024, .inl gb_36))] := hD
  refine lv_aload_n hx hb dX8_thing_49 rfl (lv_at hl 0 rfl) ?_
  refine va_get (D := (dC, dI)) (ci := 8) (v := .int (nI (n + 1))) (C := RX8) (T := TX8) (N := 17) hx hb hts hiX8 hown hK hP 2 rfl rfl 0 (by decide) (hts (.fieldLink RX8 58 "MadeItSoModel" "many" "I") (by decide +kernel)) (fun _ h9 => h9) rfl dX8_thing_50 ?_
  refine lv_iconst (v := 1) hx hb dX8_thing_53 (by decide +kernel) ?_
  refine lv_isub hx hb dX8_thing_54 ?_
  refine mz_ti (y := (nI n)) (nI_pred _) ?_
  have hP9 := hP.sub (ws' := [(mo, .inr (8, [.int (nI ((n + 1))), .ref m1, .ref m2, .ref m3, .long ka, .long kb, .ref m6, .ref m7, .ref m8, .ref m9, .ref m10, .ref m11, .ref m12, .ref m13, .ref m14, .ref m15, .ref m16])), (m1, .inl (cZ, 8, .inl (upd fs n (vp_nar .boolean p1)))), (m2, .inl (cI, 8, .inl (upd fp n 0))), (m3, .inl (cI, 1024, .inl gb_36))]) [2, 0, 1, 3] rfl
  have hD9 := hD.sub (ws' := [(mo, .inr (8, [.int (nI ((n + 1))), .ref m1, .ref m2, .ref m3, .long ka, .long kb, .ref m6, .ref m7, .ref m8, .ref m9, .ref m10, .ref m11, .ref m12, .ref m13, .ref m14, .ref m15, .ref m16])), (m1, .inl (cZ, 8, .inl (upd fs n (vp_nar .boolean p1)))), (m2, .inl (cI, 8, .inl (upd fp n 0))), (m3, .inl (cI, 1024, .inl gb_36))]) [2, 0, 1, 3] (by decide) rfl
  refine W.widen (k := 0) (n := 0) (Nat.le_of_ble_eq_true rfl) (Nat.le_of_ble_eq_true rfl) ?_
  exact W.iret (v := (nI n)) hx hb hr (fun t ht hW => ⟨⟨(nI n), (), rfl, rfl, (upd fs n (vp_nar .boolean p1)), (upd fp n 0), gb_36, (mz_acy_more ha (fun t ht => pk_un (by omega)) pk_us), rfl, hx0_36, by rw [ht]; exact hP9, hD9⟩, hS.F ht⟩) hS.2.2 dX8_thing_55
