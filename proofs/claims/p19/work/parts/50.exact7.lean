/-! exact answers: ways, bars -/
set_option maxHeartbeats 1000000 in
set_option maxRecDepth 100000 in
theorem mz_s_spread_p (l : Launch) (dC : Nat → ClassId) (dI : Nat → Nat → Nat) (cI cJ cZ : ClassId) (dr : Nat) (dp : Nat) (dc : Nat) (n : Nat) (fp : Nat → Int32) (p0 : Int32) (Hq : Heap) (hp8 : ∀ k, k < 8 → ∀ j, j < 32 → mz_t (fp k) j = true → j < 8) : Met l yX2_spread wsX2_spread ({ frames := 2, cells := 0, slots := 0, locals := 44 }) (va_Pc [.ref dr, .int p0, .ref dp] (fun U => U.heap = Hq ∧ va_P (dC, dI) vwCl [(dr, .inr (2, [.ref dp, .ref dc, .int (nI n)])), (dp, .inl (cI, 8, .inl fp))] Hq ∧ va_K (dC, dI) vwCl [(cI, FieldType.int), (cJ, FieldType.long), (cZ, FieldType.boolean)] U ∧ mz_N U)) (va_Qi (fun (r : Int32) (_ : Unit) => mz_lst fp p0 r) (fun _ t => t.heap = Hq) (fun _ : Nat => False)) 0 0 (fun _ : Nat => False) := by
  refine Met.ofW (cc := cX2_spread) (maxL := 6) (ret := (some .int)) (by decide) rfl ?_
  intro p e s m args below meth c s₁ B hml hv
  obtain ⟨rfl, hH, hP, hK, hN⟩ := hv
  subst hH
  have hx := B.exec
  have hb := B.bytes
  have hr := B.returns
  have hts := atoms_spec (ws := wsX2_spread) B.pre
  have hown : s.vm.findClass RX2 = some m.cls := findClass_of_methodNamed B.named
  have hlocks := B.notSynchronized
  have hS : va_S (fun _ : Nat => False) s.heap s.heap [] := va_S.rf
  have hl := lv_entry ([.ref dr, .int p0, .ref dp]) (n := 6) (Nat.le_of_ble_eq_true rfl)
  rw [lg_entry_eq]
  generalize (lg_sl ([.ref dr, .int p0, .ref dp]) ++ List.replicate (6 - (lg_sl ([.ref dr, .int p0, .ref dp])).length) Slot.unset).toArray = ls at hl ⊢
  have hl : lv_has ls 6 [(0, .ref dr), (1, .int p0), (2, .ref dp)] := hl
  refine lv_iload_n hx hb dX2_spread_0 rfl (lv_at hl 1 rfl) ?_
  refine lv_istore_n (lv' := [(3, .int p0), (0, .ref dr), (1, .int p0), (2, .ref dp)]) hx hb dX2_spread_1 rfl hl (by decide) rfl (fun ls hl => ?_)
  refine lv_iconst (v := 0) hx hb dX2_spread_2 (by decide +kernel) ?_
  refine lv_istore (lv' := [(4, .int 0), (3, .int p0), (0, .ref dr), (1, .int p0), (2, .ref dp)]) hx hb dX2_spread_3 hl (by decide) rfl (fun ls hl => ?_)
  refine mz_loopU (fun k H locs ls => ∃ (i_5 : Nat), ∃ (x3_5 : Int32), i_5 ≤ 8 ∧ (mz_ss p0 x3_5) ∧ (∀ F, mz_cl2 fp F → mz_ss p0 F → mz_ss x3_5 F) ∧ (i_5 = 0 ∨ mz_un x3_5 8 + i_5 + 1 ≤ 8) ∧ H = s.heap ∧ va_S (fun _ : Nat => False) s.heap H locs ∧ lv_has ls 6 [(4, .int (nI i_5)), (3, .int x3_5), (0, .ref dr), (1, .int p0), (2, .ref dp)] ∧ k = 8 - i_5) ?_ _ _ _ _ ⟨0, p0, by omega, (fun _ _ h => h), (fun _ _ h => h), (Or.inl rfl), rfl, hS, lv_sub hl [0, 1, 2, 3, 4] rfl, rfl⟩
  intro k_5 H locs ls hI_5 ih_5
  obtain ⟨i_5, x3_5, hi_5, h1_5, h3_5, hu_5, hH_5, hS, hl, hk_5⟩ := hI_5
  subst hH_5
  refine lv_iload hx hb dX2_spread_5 (lv_at hl 0 rfl) ?_
  refine lv_bipush (v := 8) hx hb dX2_spread_7 (by decide +kernel) ?_
  refine lv_icmp_ge (tgt := 39) hx hb dX2_spread_9 (by decide) (fun c_9 => ?_) (fun c_9 => ?_)
  · skip
    have d_9 : 8 ≤ i_5 := (nI_leI (a := 8) (b := i_5) (by omega) (by omega)).mp c_9
    refine lv_iload_n hx hb dX2_spread_39 rfl (lv_at hl 1 rfl) ?_
    refine W.widen (k := 0) (n := 0) (Nat.le_of_ble_eq_true rfl) (Nat.le_of_ble_eq_true rfl) ?_
    exact W.iret (v := x3_5) hx hb hr (fun t ht hW => ⟨⟨x3_5, (), rfl, (by exfalso; omega), ht⟩, hS.F ht⟩) hS.2.2 dX2_spread_40
  · skip
    have d_9 : ¬ 8 ≤ i_5 := fun h => c_9 ((nI_leI (a := 8) (b := i_5) (by omega) (by omega)).mpr h)
    refine lv_iload_n hx hb dX2_spread_12 rfl (lv_at hl 1 rfl) ?_
    refine lv_iload_n hx hb dX2_spread_13 rfl (lv_at hl 1 rfl) ?_
    refine lv_aload_n hx hb dX2_spread_14 rfl (lv_at hl 4 rfl) ?_
    have hPc := hP.sub (ws' := [(dp, .inl (cI, 8, .inl fp))]) [1] rfl
    refine va_calli (va_runS (As := [.int x3_5, .ref dp]) (rest := [.int x3_5]) ⟨hx, hb, hml, hown, hts⟩ (mz_e_gather l dC dI cI cJ cZ dp fp x3_5 s.heap ) (va_cwS 2 hts gX2_spread_X2_gather rfl rfl rfl (by decide +kernel) ⟨Nat.le_of_ble_eq_true rfl, Nat.le_of_ble_eq_true rfl⟩) ⟨fun a U g mk q => mz_blP q, fun U hU hW => ⟨rfl, hU, hPc, va_K.moved hW.alike hK, mz_nw hW hN⟩⟩ rfl rfl hl.1 rfl (lv_room (Nat.le_of_ble_eq_true rfl)) dX2_spread_15 ⟨Nat.le_of_ble_eq_true rfl, Nat.le_of_ble_eq_true rfl⟩) hS (fun q _ h => h.elim) (fun q h => h.elim) (fun r_15 u t H1 locs ht hvm hw_15 hB hz1 hk1 hS => ?_)
    have hE : s.heap = H1 := hB.symm.trans ht
    subst hE
    refine lv_ior hx hb dX2_spread_18 ?_
    refine lv_istore (lv' := [(5, .int (x3_5 ||| r_15)), (4, .int (nI i_5)), (3, .int x3_5), (0, .ref dr), (1, .int p0), (2, .ref dp)]) hx hb dX2_spread_19 hl (by decide) rfl (fun ls hl => ?_)
    refine lv_iload hx hb dX2_spread_21 (lv_at hl 0 rfl) ?_
    refine lv_iload_n hx hb dX2_spread_23 rfl (lv_at hl 2 rfl) ?_
    refine lv_icmp_ne (tgt := 30) hx hb dX2_spread_24 (by decide) (fun c_24 => ?_) (fun c_24 => ?_)
    · skip
      refine lv_iload hx hb dX2_spread_30 (lv_at hl 0 rfl) ?_
      refine lv_istore_n (lv' := [(3, .int (x3_5 ||| r_15)), (5, .int (x3_5 ||| r_15)), (4, .int (nI i_5)), (0, .ref dr), (1, .int p0), (2, .ref dp)]) hx hb dX2_spread_32 rfl hl (by decide) rfl (fun ls hl => ?_)
      refine lv_iinc (v := (nI (i_5 + 1))) (lv' := [(4, .int (nI (i_5 + 1))), (3, .int (x3_5 ||| r_15)), (5, .int (x3_5 ||| r_15)), (0, .ref dr), (1, .int p0), (2, .ref dp)]) hx hb dX2_spread_33 hl (k := 2) rfl (nI_1 _) (by decide) rfl (fun ls hl => ?_)
      refine lv_goto (tgt := 5) hx hb dX2_spread_36 (by decide) ?_
      exact ih_5 _ (by omega) _ _ _ ⟨(i_5 + 1), (x3_5 ||| r_15), by omega, (mz_lst_sup h1_5), (mz_lst_min hw_15 h3_5), (Or.inr (by have h9 := mz_un_grow hw_15 hp8 c_24; omega)), rfl, hS, lv_sub hl [0, 1, 3, 4, 5] rfl, rfl⟩
    · skip
      refine lv_goto (tgt := 39) hx hb dX2_spread_27 (by decide) ?_
      refine lv_iload_n hx hb dX2_spread_39 rfl (lv_at hl 2 rfl) ?_
      refine W.widen (k := 0) (n := 0) (Nat.le_of_ble_eq_true rfl) (Nat.le_of_ble_eq_true rfl) ?_
      exact W.iret (v := x3_5) hx hb hr (fun t ht hW => ⟨⟨x3_5, (), rfl, (mz_lst_done hw_15 c_24 h1_5 h3_5), ht⟩, hS.F ht⟩) hS.2.2 dX2_spread_40
set_option maxHeartbeats 1000000 in
set_option maxRecDepth 100000 in
theorem mz_s_barred (l : Launch) (dC : Nat → ClassId) (dI : Nat → Nat → Nat) (cI cJ cZ : ClassId) (dr : Nat) (dp : Nat) (dc : Nat) (n : Nat) (fp : Nat → Int32) (fc : Nat → Int32) (p0 : Int32) (p1 : Int32) (p2 : Int32) (Hq : Heap) (hp8 : ∀ k, k < 8 → ∀ j, j < 32 → mz_t (fp k) j = true → j < 8) (hf8 : ∀ k, k < 8 → ∀ j, j < 32 → mz_t (fc k) j = true → j < 8) : Met l yX2_barred wsX2_barred ({ frames := 3, cells := 0, slots := 0, locals := 69 }) (va_Pc [.ref dr, .int p0, .int p1, .int p2] (fun U => U.heap = Hq ∧ va_P (dC, dI) vwCl [(dr, .inr (2, [.ref dp, .ref dc, .int (nI n)])), (dp, .inl (cI, 8, .inl fp)), (dc, .inl (cI, 8, .inl fc))] Hq ∧ va_K (dC, dI) vwCl [(cI, FieldType.int), (cJ, FieldType.long), (cZ, FieldType.boolean)] U ∧ mz_N U)) (va_Qi (fun (r : Int32) (_ : Unit) => (r = 1 ∧ ∃ M C F : Int32, mz_lst fp p2 M ∧ mz_brl fp fc p0 p2 M C F ∧  (C ||| F) &&& p1 = 0) ∨ (r = 0 ∧ ∃ M C F : Int32, mz_lst fp p2 M ∧ mz_brl fp fc p0 p2 M C F ∧ ¬ (C ||| F) &&& p1 = 0)) (fun _ t => t.heap = Hq) (fun _ : Nat => False)) 0 0 (fun _ : Nat => False) := by
  refine Met.ofW (cc := cX2_barred) (maxL := 12) (ret := (some .boolean)) (by decide) rfl ?_
  intro p e s m args below meth c s₁ B hml hv
  obtain ⟨rfl, hH, hP, hK, hN⟩ := hv
  subst hH
  have hx := B.exec
  have hb := B.bytes
  have hr := B.returns
  have hts := atoms_spec (ws := wsX2_barred) B.pre
  have hown : s.vm.findClass RX2 = some m.cls := findClass_of_methodNamed B.named
  have hlocks := B.notSynchronized
  have hS : va_S (fun _ : Nat => False) s.heap s.heap [] := va_S.rf
  have hiX2 : ∀ w ∈ u_ws RX2 TX2 3, w ∈ wsX2_barred := by decide +kernel
  have hl := lv_entry ([.ref dr, .int p0, .int p1, .int p2]) (n := 12) (Nat.le_of_ble_eq_true rfl)
  rw [lg_entry_eq]
  generalize (lg_sl ([.ref dr, .int p0, .int p1, .int p2]) ++ List.replicate (12 - (lg_sl ([.ref dr, .int p0, .int p1, .int p2])).length) Slot.unset).toArray = ls at hl ⊢
  have hl : lv_has ls 12 [(0, .ref dr), (1, .int p0), (2, .int p1), (3, .int p2)] := hl
  refine lv_aload_n hx hb dX2_barred_0 rfl (lv_at hl 0 rfl) ?_
  refine lv_iload_n hx hb dX2_barred_1 rfl (lv_at hl 3 rfl) ?_
  refine lv_aload_n hx hb dX2_barred_2 rfl (lv_at hl 0 rfl) ?_
  refine va_get (D := (dC, dI)) (ci := 2) (v := .ref dp) (C := RX2) (T := TX2) (N := 3) hx hb hts hiX2 hown hK hP 0 rfl rfl 0 (by decide) (hts (.fieldLink RX2 9 "MadeItSo$Drawing" "parents" "[I") (by decide +kernel)) (fun _ h9 => h9) rfl dX2_barred_3 ?_
  have hPc := hP.sub (ws' := [(dr, .inr (2, [.ref dp, .ref dc, .int (nI n)])), (dp, .inl (cI, 8, .inl fp))]) [0, 1] rfl
  refine va_calli (va_runV (As := [.int p2, .ref dp]) (rest := []) ⟨hx, hb, hml, hown, hts⟩ (mz_s_spread_p l dC dI cI cJ cZ dr dp dc n fp p2 s.heap (by first | assumption | omega)) (cwV 2 hts gX2_barred_X2_spread rfl rfl rfl (by decide +kernel) ⟨Nat.le_of_ble_eq_true rfl, Nat.le_of_ble_eq_true rfl⟩) ⟨fun a U g mk q => mz_blP q, va_recv hK hPc (ci := 2) (q0 := 0) rfl rfl, fun U hU hW => ⟨rfl, hU, hPc, va_K.moved hW.alike hK, mz_nw hW hN⟩⟩ rfl rfl hl.1 rfl (lv_room (Nat.le_of_ble_eq_true rfl)) dX2_barred_6 ⟨Nat.le_of_ble_eq_true rfl, Nat.le_of_ble_eq_true rfl⟩) hS (fun q _ h => h.elim) (fun q h => h.elim) (fun r_6 u t H1 locs ht hvm hw_6 hB hz1 hk1 hS => ?_)
  have hE : s.heap = H1 := hB.symm.trans ht
  subst hE
  refine lv_istore (lv' := [(4, .int r_6), (0, .ref dr), (1, .int p0), (2, .int p1), (3, .int p2)]) hx hb dX2_barred_9 hl (by decide) rfl (fun ls hl => ?_)
  refine lv_iload_n hx hb dX2_barred_11 rfl (lv_at hl 2 rfl) ?_
  refine lv_istore (lv' := [(5, .int p0), (4, .int r_6), (0, .ref dr), (1, .int p0), (2, .int p1), (3, .int p2)]) hx hb dX2_barred_12 hl (by decide) rfl (fun ls hl => ?_)
  refine lv_iconst (v := 0) hx hb dX2_barred_14 (by decide +kernel) ?_
  refine lv_istore (lv' := [(6, .int 0), (5, .int p0), (4, .int r_6), (0, .ref dr), (1, .int p0), (2, .int p1), (3, .int p2)]) hx hb dX2_barred_15 hl (by decide) rfl (fun ls hl => ?_)
  refine lv_iconst (v := 0) hx hb dX2_barred_17 (by decide +kernel) ?_
  refine lv_istore (lv' := [(7, .int 0), (6, .int 0), (5, .int p0), (4, .int r_6), (0, .ref dr), (1, .int p0), (2, .int p1), (3, .int p2)]) hx hb dX2_barred_18 hl (by decide) rfl (fun ls hl => ?_)
  refine mz_loopU (fun k H locs ls => ∃ (i_20 : Nat), ∃ (x6_20 : Int32), ∃ (x5_20 : Int32), i_20 ≤ 16 ∧ (mz_ss p0 x5_20) ∧ (∀ C1 F1 : Int32, mz_br fp fc p0 p2 r_6 C1 F1 → mz_ss x5_20 C1 ∧ mz_ss x6_20 F1) ∧ (mz_un x5_20 8 + mz_un x6_20 8 + i_20 ≤ 16) ∧ H = s.heap ∧ va_S (fun _ : Nat => False) s.heap H locs ∧ lv_has ls 12 [(7, .int (nI i_20)), (6, .int x6_20), (5, .int x5_20), (4, .int r_6), (0, .ref dr), (1, .int p0), (2, .int p1), (3, .int p2)] ∧ k = 16 - i_20) ?_ _ _ _ _ ⟨0, 0, p0, by omega, (fun _ _ h => h), (fun C1 F1 hb1 => ⟨hb1.1, fun j hj h => absurd h (by rw [mz_t_0]; decide)⟩), (by have h8 := mz_un_le p0 8; have h9 := mz_un_le 0 8; omega), rfl, hS, lv_sub hl [0, 1, 2, 3, 4, 5, 6, 7] rfl, rfl⟩
  intro k_20 H locs ls hI_20 ih_20
  obtain ⟨i_20, x6_20, x5_20, hi_20, h1_20, hm_20, hu_20, hH_20, hS, hl, hk_20⟩ := hI_20
  subst hH_20
  refine lv_iload hx hb dX2_barred_20 (lv_at hl 0 rfl) ?_
  refine lv_bipush (v := 16) hx hb dX2_barred_22 (by decide +kernel) ?_
  refine lv_icmp_ge (tgt := 111) hx hb dX2_barred_24 (by decide) (fun c_24 => ?_) (fun c_24 => ?_)
  · skip
    have d_24 : 16 ≤ i_20 := (nI_leI (a := 16) (b := i_20) (by omega) (by omega)).mp c_24
    refine lv_iload hx hb dX2_barred_111 (lv_at hl 2 rfl) ?_
    refine lv_iload hx hb dX2_barred_113 (lv_at hl 1 rfl) ?_
    refine lv_ior hx hb dX2_barred_115 ?_
    refine lv_iload_n hx hb dX2_barred_116 rfl (lv_at hl 6 rfl) ?_
    refine lv_iand hx hb dX2_barred_117 ?_
    refine lv_if_ne (tgt := 125) hx hb dX2_barred_118 (by decide) (fun c_118 => ?_) (fun c_118 => ?_)
    · skip
      refine lv_iconst (v := 0) hx hb dX2_barred_125 (by decide +kernel) ?_
      refine W.widen (k := 0) (n := 0) (Nat.le_of_ble_eq_true rfl) (Nat.le_of_ble_eq_true rfl) ?_
      exact W.zret (v := 0) hx hb hr (mz_nz (by decide +kernel)) (fun t ht hW => ⟨⟨0, (), rfl, Or.inr ⟨rfl, r_6, x5_20, x6_20, hw_6, ⟨(mz_br_full hp8 hf8 h1_20 (by omega) (by omega)), hm_20⟩, c_118⟩, ht⟩, hS.F ht⟩) hS.2.2 dX2_barred_126
    · skip
      refine lv_iconst (v := 1) hx hb dX2_barred_121 (by decide +kernel) ?_
      refine lv_goto (tgt := 126) hx hb dX2_barred_122 (by decide) ?_
      refine W.widen (k := 0) (n := 0) (Nat.le_of_ble_eq_true rfl) (Nat.le_of_ble_eq_true rfl) ?_
      exact W.zret (v := 1) hx hb hr (mz_nz (by decide +kernel)) (fun t ht hW => ⟨⟨1, (), rfl, Or.inl ⟨rfl, r_6, x5_20, x6_20, hw_6, ⟨(mz_br_full hp8 hf8 h1_20 (by omega) (by omega)), hm_20⟩, c_118⟩, ht⟩, hS.F ht⟩) hS.2.2 dX2_barred_126
  · skip
    have d_24 : ¬ 16 ≤ i_20 := fun h => c_24 ((nI_leI (a := 16) (b := i_20) (by omega) (by omega)).mpr h)
    refine lv_iload hx hb dX2_barred_27 (lv_at hl 2 rfl) ?_
    refine lv_iload_n hx hb dX2_barred_29 rfl (lv_at hl 7 rfl) ?_
    refine lv_iconst (v := (-1)) hx hb dX2_barred_30 (by decide +kernel) ?_
    refine lv_ixor hx hb dX2_barred_31 ?_
    refine lv_iand hx hb dX2_barred_32 ?_
    refine lv_iload hx hb dX2_barred_33 (lv_at hl 1 rfl) ?_
    refine lv_iload hx hb dX2_barred_35 (lv_at hl 3 rfl) ?_
    refine lv_iand hx hb dX2_barred_37 ?_
    refine lv_ior hx hb dX2_barred_38 ?_
    refine lv_istore (lv' := [(8, .int ((x5_20 &&& (p2 ^^^ (-1))) ||| (x6_20 &&& r_6))), (7, .int (nI i_20)), (6, .int x6_20), (5, .int x5_20), (4, .int r_6), (0, .ref dr), (1, .int p0), (2, .int p1), (3, .int p2)]) hx hb dX2_barred_39 hl (by decide) rfl (fun ls hl => ?_)
    refine lv_iload hx hb dX2_barred_41 (lv_at hl 3 rfl) ?_
    refine lv_iload hx hb dX2_barred_43 (lv_at hl 2 rfl) ?_
    refine lv_ior hx hb dX2_barred_45 ?_
    refine lv_iload_n hx hb dX2_barred_46 rfl (lv_at hl 8 rfl) ?_
    refine lv_iconst (v := (-1)) hx hb dX2_barred_47 (by decide +kernel) ?_
    refine lv_ixor hx hb dX2_barred_48 ?_
    refine lv_iand hx hb dX2_barred_49 ?_
    refine lv_istore (lv' := [(9, .int ((x5_20 ||| x6_20) &&& (p2 ^^^ (-1)))), (8, .int ((x5_20 &&& (p2 ^^^ (-1))) ||| (x6_20 &&& r_6))), (7, .int (nI i_20)), (6, .int x6_20), (5, .int x5_20), (4, .int r_6), (0, .ref dr), (1, .int p0), (2, .int p1), (3, .int p2)]) hx hb dX2_barred_50 hl (by decide) rfl (fun ls hl => ?_)
    refine lv_iload hx hb dX2_barred_52 (lv_at hl 4 rfl) ?_
    refine lv_iload hx hb dX2_barred_54 (lv_at hl 1 rfl) ?_
    refine lv_aload_n hx hb dX2_barred_56 rfl (lv_at hl 6 rfl) ?_
    refine va_get (D := (dC, dI)) (ci := 2) (v := .ref dp) (C := RX2) (T := TX2) (N := 3) hx hb hts hiX2 hown hK hP 0 rfl rfl 0 (by decide) (hts (.fieldLink RX2 9 "MadeItSo$Drawing" "parents" "[I") (by decide +kernel)) (fun _ h9 => h9) rfl dX2_barred_57 ?_
    have hPc := hP.sub (ws' := [(dp, .inl (cI, 8, .inl fp))]) [1] rfl
    refine va_calli (va_runS (As := [.int ((x5_20 &&& (p2 ^^^ (-1))) ||| (x6_20 &&& r_6)), .ref dp]) (rest := [.int x5_20]) ⟨hx, hb, hml, hown, hts⟩ (mz_e_gather l dC dI cI cJ cZ dp fp ((x5_20 &&& (p2 ^^^ (-1))) ||| (x6_20 &&& r_6)) s.heap ) (va_cwS 2 hts gX2_barred_X2_gather rfl rfl rfl (by decide +kernel) ⟨Nat.le_of_ble_eq_true rfl, Nat.le_of_ble_eq_true rfl⟩) ⟨fun a U g mk q => mz_blP q, fun U hU hW => ⟨rfl, hU, hPc, va_K.moved hW.alike hK, mz_nw hW hN⟩⟩ rfl rfl hl.1 rfl (lv_room (Nat.le_of_ble_eq_true rfl)) dX2_barred_60 ⟨Nat.le_of_ble_eq_true rfl, Nat.le_of_ble_eq_true rfl⟩) hS (fun q _ h => h.elim) (fun q h => h.elim) (fun r_60 u t H1 locs ht hvm hw_60 hB hz1 hk1 hS => ?_)
    have hE : s.heap = H1 := hB.symm.trans ht
    subst hE
    refine lv_ior hx hb dX2_barred_63 ?_
    refine lv_istore (lv' := [(10, .int (x5_20 ||| r_60)), (9, .int ((x5_20 ||| x6_20) &&& (p2 ^^^ (-1)))), (8, .int ((x5_20 &&& (p2 ^^^ (-1))) ||| (x6_20 &&& r_6))), (7, .int (nI i_20)), (6, .int x6_20), (5, .int x5_20), (4, .int r_6), (0, .ref dr), (1, .int p0), (2, .int p1), (3, .int p2)]) hx hb dX2_barred_64 hl (by decide) rfl (fun ls hl => ?_)
    refine lv_iload hx hb dX2_barred_66 (lv_at hl 4 rfl) ?_
    refine lv_iload hx hb dX2_barred_68 (lv_at hl 1 rfl) ?_
    refine lv_aload_n hx hb dX2_barred_70 rfl (lv_at hl 7 rfl) ?_
    refine va_get (D := (dC, dI)) (ci := 2) (v := .ref dc) (C := RX2) (T := TX2) (N := 3) hx hb hts hiX2 hown hK hP 0 rfl rfl 1 (by decide) (hts (.fieldLink RX2 15 "MadeItSo$Drawing" "children" "[I") (by decide +kernel)) (fun _ h9 => h9) rfl dX2_barred_71 ?_
    have hPc := hP.sub (ws' := [(dc, .inl (cI, 8, .inl fc))]) [2] rfl
    refine va_calli (va_runS (As := [.int ((x5_20 ||| x6_20) &&& (p2 ^^^ (-1))), .ref dc]) (rest := [.int x6_20]) ⟨hx, hb, hml, hown, hts⟩ (mz_e_gather l dC dI cI cJ cZ dc fc ((x5_20 ||| x6_20) &&& (p2 ^^^ (-1))) s.heap ) (va_cwS 2 hts gX2_barred_X2_gather rfl rfl rfl (by decide +kernel) ⟨Nat.le_of_ble_eq_true rfl, Nat.le_of_ble_eq_true rfl⟩) ⟨fun a U g mk q => mz_blP q, fun U hU hW => ⟨rfl, hU, hPc, va_K.moved hW.alike hK, mz_nw hW hN⟩⟩ rfl rfl hl.1 rfl (lv_room (Nat.le_of_ble_eq_true rfl)) dX2_barred_74 ⟨Nat.le_of_ble_eq_true rfl, Nat.le_of_ble_eq_true rfl⟩) hS (fun q _ h => h.elim) (fun q h => h.elim) (fun r_74 u t H1 locs ht hvm hw_74 hB hz1 hk1 hS => ?_)
    have hE : s.heap = H1 := hB.symm.trans ht
    subst hE
    refine lv_ior hx hb dX2_barred_77 ?_
    refine lv_istore (lv' := [(11, .int (x6_20 ||| r_74)), (10, .int (x5_20 ||| r_60)), (9, .int ((x5_20 ||| x6_20) &&& (p2 ^^^ (-1)))), (8, .int ((x5_20 &&& (p2 ^^^ (-1))) ||| (x6_20 &&& r_6))), (7, .int (nI i_20)), (6, .int x6_20), (5, .int x5_20), (4, .int r_6), (0, .ref dr), (1, .int p0), (2, .int p1), (3, .int p2)]) hx hb dX2_barred_78 hl (by decide) rfl (fun ls hl => ?_)
    refine lv_iload hx hb dX2_barred_80 (lv_at hl 1 rfl) ?_
    refine lv_iload hx hb dX2_barred_82 (lv_at hl 6 rfl) ?_
    refine lv_icmp_ne (tgt := 97) hx hb dX2_barred_84 (by decide) (fun c_84 => ?_) (fun c_84 => ?_)
    · skip
      refine lv_iload hx hb dX2_barred_97 (lv_at hl 1 rfl) ?_
      refine lv_istore (lv' := [(5, .int (x5_20 ||| r_60)), (11, .int (x6_20 ||| r_74)), (10, .int (x5_20 ||| r_60)), (9, .int ((x5_20 ||| x6_20) &&& (p2 ^^^ (-1)))), (8, .int ((x5_20 &&& (p2 ^^^ (-1))) ||| (x6_20 &&& r_6))), (7, .int (nI i_20)), (6, .int x6_20), (4, .int r_6), (0, .ref dr), (1, .int p0), (2, .int p1), (3, .int p2)]) hx hb dX2_barred_99 hl (by decide) rfl (fun ls hl => ?_)
      refine lv_iload hx hb dX2_barred_101 (lv_at hl 1 rfl) ?_
      refine lv_istore (lv' := [(6, .int (x6_20 ||| r_74)), (5, .int (x5_20 ||| r_60)), (11, .int (x6_20 ||| r_74)), (10, .int (x5_20 ||| r_60)), (9, .int ((x5_20 ||| x6_20) &&& (p2 ^^^ (-1)))), (8, .int ((x5_20 &&& (p2 ^^^ (-1))) ||| (x6_20 &&& r_6))), (7, .int (nI i_20)), (4, .int r_6), (0, .ref dr), (1, .int p0), (2, .int p1), (3, .int p2)]) hx hb dX2_barred_103 hl (by decide) rfl (fun ls hl => ?_)
      refine lv_iinc (v := (nI (i_20 + 1))) (lv' := [(7, .int (nI (i_20 + 1))), (6, .int (x6_20 ||| r_74)), (5, .int (x5_20 ||| r_60)), (11, .int (x6_20 ||| r_74)), (10, .int (x5_20 ||| r_60)), (9, .int ((x5_20 ||| x6_20) &&& (p2 ^^^ (-1)))), (8, .int ((x5_20 &&& (p2 ^^^ (-1))) ||| (x6_20 &&& r_6))), (4, .int r_6), (0, .ref dr), (1, .int p0), (2, .int p1), (3, .int p2)]) hx hb dX2_barred_105 hl (k := 6) rfl (nI_1 _) (by decide) rfl (fun ls hl => ?_)
      refine lv_goto (tgt := 20) hx hb dX2_barred_108 (by decide) ?_
      exact ih_20 _ (by omega) _ _ _ ⟨(i_20 + 1), (x6_20 ||| r_74), (x5_20 ||| r_60), by omega, (mz_lst_sup h1_20), (mz_br_min hw_60 hw_74 hm_20), (by have h8 := mz_un_or_lt hw_60 hp8 c_84; have h9 := mz_un_or (r := x6_20) (q := r_74); omega), rfl, hS, lv_sub hl [0, 1, 2, 7, 8, 9, 10, 11] rfl, rfl⟩
    · skip
      refine lv_iload hx hb dX2_barred_87 (lv_at hl 0 rfl) ?_
      refine lv_iload hx hb dX2_barred_89 (lv_at hl 5 rfl) ?_
      refine lv_icmp_ne (tgt := 97) hx hb dX2_barred_91 (by decide) (fun c_91 => ?_) (fun c_91 => ?_)
      · skip
        refine lv_iload hx hb dX2_barred_97 (lv_at hl 1 rfl) ?_
        refine lv_istore (lv' := [(5, .int (x5_20 ||| r_60)), (11, .int (x6_20 ||| r_74)), (10, .int (x5_20 ||| r_60)), (9, .int ((x5_20 ||| x6_20) &&& (p2 ^^^ (-1)))), (8, .int ((x5_20 &&& (p2 ^^^ (-1))) ||| (x6_20 &&& r_6))), (7, .int (nI i_20)), (6, .int x6_20), (4, .int r_6), (0, .ref dr), (1, .int p0), (2, .int p1), (3, .int p2)]) hx hb dX2_barred_99 hl (by decide) rfl (fun ls hl => ?_)
        refine lv_iload hx hb dX2_barred_101 (lv_at hl 1 rfl) ?_
        refine lv_istore (lv' := [(6, .int (x6_20 ||| r_74)), (5, .int (x5_20 ||| r_60)), (11, .int (x6_20 ||| r_74)), (10, .int (x5_20 ||| r_60)), (9, .int ((x5_20 ||| x6_20) &&& (p2 ^^^ (-1)))), (8, .int ((x5_20 &&& (p2 ^^^ (-1))) ||| (x6_20 &&& r_6))), (7, .int (nI i_20)), (4, .int r_6), (0, .ref dr), (1, .int p0), (2, .int p1), (3, .int p2)]) hx hb dX2_barred_103 hl (by decide) rfl (fun ls hl => ?_)
        refine lv_iinc (v := (nI (i_20 + 1))) (lv' := [(7, .int (nI (i_20 + 1))), (6, .int (x6_20 ||| r_74)), (5, .int (x5_20 ||| r_60)), (11, .int (x6_20 ||| r_74)), (10, .int (x5_20 ||| r_60)), (9, .int ((x5_20 ||| x6_20) &&& (p2 ^^^ (-1)))), (8, .int ((x5_20 &&& (p2 ^^^ (-1))) ||| (x6_20 &&& r_6))), (4, .int r_6), (0, .ref dr), (1, .int p0), (2, .int p1), (3, .int p2)]) hx hb dX2_barred_105 hl (k := 6) rfl (nI_1 _) (by decide) rfl (fun ls hl => ?_)
        refine lv_goto (tgt := 20) hx hb dX2_barred_108 (by decide) ?_
        exact ih_20 _ (by omega) _ _ _ ⟨(i_20 + 1), (x6_20 ||| r_74), (x5_20 ||| r_60), by omega, (mz_lst_sup h1_20), (mz_br_min hw_60 hw_74 hm_20), (by have h8 := mz_un_or (r := x5_20) (q := r_60); have h9 := mz_un_or_lt hw_74 hf8 c_91; omega), rfl, hS, lv_sub hl [0, 1, 2, 7, 8, 9, 10, 11] rfl, rfl⟩
      · skip
        refine lv_goto (tgt := 111) hx hb dX2_barred_94 (by decide) ?_
        refine lv_iload hx hb dX2_barred_111 (lv_at hl 6 rfl) ?_
        refine lv_iload hx hb dX2_barred_113 (lv_at hl 5 rfl) ?_
        refine lv_ior hx hb dX2_barred_115 ?_
        refine lv_iload_n hx hb dX2_barred_116 rfl (lv_at hl 10 rfl) ?_
        refine lv_iand hx hb dX2_barred_117 ?_
        refine lv_if_ne (tgt := 125) hx hb dX2_barred_118 (by decide) (fun c_118 => ?_) (fun c_118 => ?_)
        · skip
          refine lv_iconst (v := 0) hx hb dX2_barred_125 (by decide +kernel) ?_
          refine W.widen (k := 0) (n := 0) (Nat.le_of_ble_eq_true rfl) (Nat.le_of_ble_eq_true rfl) ?_
          exact W.zret (v := 0) hx hb hr (mz_nz (by decide +kernel)) (fun t ht hW => ⟨⟨0, (), rfl, Or.inr ⟨rfl, r_6, x5_20, x6_20, hw_6, ⟨(mz_br_done hw_60 hw_74 c_84 c_91 h1_20), hm_20⟩, c_118⟩, ht⟩, hS.F ht⟩) hS.2.2 dX2_barred_126
        · skip
          refine lv_iconst (v := 1) hx hb dX2_barred_121 (by decide +kernel) ?_
          refine lv_goto (tgt := 126) hx hb dX2_barred_122 (by decide) ?_
          refine W.widen (k := 0) (n := 0) (Nat.le_of_ble_eq_true rfl) (Nat.le_of_ble_eq_true rfl) ?_
          exact W.zret (v := 1) hx hb hr (mz_nz (by decide +kernel)) (fun t ht hW => ⟨⟨1, (), rfl, Or.inl ⟨rfl, r_6, x5_20, x6_20, hw_6, ⟨(mz_br_done hw_60 hw_74 c_84 c_91 h1_20), hm_20⟩, c_118⟩, ht⟩, hS.F ht⟩) hS.2.2 dX2_barred_126
set_option maxHeartbeats 1000000 in
set_option maxRecDepth 100000 in
theorem mz_s_x_bars (l : Launch) (dC : Nat → ClassId) (dI : Nat → Nat → Nat) (cI cJ cZ : ClassId) (mx : Nat) (dr : Nat) (th : Nat) (bk : Nat) (wt : Nat) (tt : Nat) (lh : Nat) (la : Nat) (sh : Int32) (ab : Int64) (be : Int64) (dp : Nat) (dc : Nat) (n : Nat) (fp : Nat → Int32) (fc : Nat → Int32) (p1 : Int32) (p2 : Int32) (p3 : Int32) (Hq : Heap) (hn : n ≤ 8) (hp8 : ∀ k, k < 8 → ∀ j, j < 32 → mz_t (fp k) j = true → j < 8) (hf8 : ∀ k, k < 8 → ∀ j, j < 32 → mz_t (fc k) j = true → j < 8) (hpa : mz_hp n p1) (hpb : mz_hp n p2) (hZ : mz_hp n p3) (hd1 : p1 &&& p2 = 0) (hd2 : p1 &&& p3 = 0) (hd3 : p2 &&& p3 = 0) : Met l yX7_bars wsX7_bars ({ frames := 4, cells := 0, slots := 0, locals := 100 }) (va_Pc [.ref mx, .int p1, .int p2, .int p3] (fun U => U.heap = Hq ∧ va_P (dC, dI) vwCl [(mx, .inr (7, [.ref dr, .ref th, .ref bk, .ref wt, .ref tt, .ref lh, .ref la, .int sh, .long ab, .long be])), (dr, .inr (2, [.ref dp, .ref dc, .int (nI n)])), (dp, .inl (cI, 8, .inl fp)), (dc, .inl (cI, 8, .inl fc))] Hq ∧ va_K (dC, dI) vwCl [(cI, FieldType.int), (cJ, FieldType.long), (cZ, FieldType.boolean)] U ∧ mz_N U)) (va_Qi (fun (r : Int32) (_ : Unit) => (r = 1 ∧ ∃ M C F : Int32, mz_lst fp p3 M ∧ mz_brl fp fc p1 p3 M C F ∧  (C ||| F) &&& p2 = 0) ∨ (r = 0 ∧ ∃ M C F : Int32, mz_lst fp p3 M ∧ mz_brl fp fc p1 p3 M C F ∧ ¬ (C ||| F) &&& p2 = 0)) (fun _ t => t.heap = Hq) (fun _ : Nat => False)) 0 0 (fun _ : Nat => False) := by
  refine Met.ofW (cc := cX7_bars) (maxL := 4) (ret := (some .boolean)) (by decide) rfl ?_
  intro p e s m args below meth c s₁ B hml hv
  obtain ⟨rfl, hH, hP, hK, hN⟩ := hv
  subst hH
  have hx := B.exec
  have hb := B.bytes
  have hr := B.returns
  have hts := atoms_spec (ws := wsX7_bars) B.pre
  have hown : s.vm.findClass RX7 = some m.cls := findClass_of_methodNamed B.named
  have hlocks := B.notSynchronized
  have hS : va_S (fun _ : Nat => False) s.heap s.heap [] := va_S.rf
  have hiX7 : ∀ w ∈ u_ws RX7 TX7 10, w ∈ wsX7_bars := by decide +kernel
  have hl := lv_entry ([.ref mx, .int p1, .int p2, .int p3]) (n := 4) (Nat.le_of_ble_eq_true rfl)
  rw [lg_entry_eq]
  generalize (lg_sl ([.ref mx, .int p1, .int p2, .int p3]) ++ List.replicate (4 - (lg_sl ([.ref mx, .int p1, .int p2, .int p3])).length) Slot.unset).toArray = ls at hl ⊢
  have hl : lv_has ls 4 [(0, .ref mx), (1, .int p1), (2, .int p2), (3, .int p3)] := hl
  refine lv_aload_n hx hb dX7_bars_0 rfl (lv_at hl 0 rfl) ?_
  refine lv_iload_n hx hb dX7_bars_1 rfl (lv_at hl 1 rfl) ?_
  have hPc := hP.sub (ws' := [(mx, .inr (7, [.ref dr, .ref th, .ref bk, .ref wt, .ref tt, .ref lh, .ref la, .int sh, .long ab, .long be])), (dr, .inr (2, [.ref dp, .ref dc, .int (nI n)]))]) [0, 1] rfl
  refine va_calli (va_runV (As := [.int p1]) (rest := []) ⟨hx, hb, hml, hown, hts⟩ (mz_h_x_isHeap l dC dI cI cJ cZ mx dr th bk wt tt lh la sh ab be dp dc n p1 s.heap (by first | assumption | omega)) (cwV 1 hts gX7_bars_X7_isHeap rfl rfl rfl (by decide +kernel) ⟨Nat.le_of_ble_eq_true rfl, Nat.le_of_ble_eq_true rfl⟩) ⟨fun a U g mk q => mz_blP q, va_recv hK hPc (ci := 7) (q0 := 0) rfl rfl, fun U hU hW => ⟨rfl, hU, hPc, va_K.moved hW.alike hK, mz_nw hW hN⟩⟩ rfl rfl hl.1 rfl (lv_room (Nat.le_of_ble_eq_true rfl)) dX7_bars_2 ⟨Nat.le_of_ble_eq_true rfl, Nat.le_of_ble_eq_true rfl⟩) hS (fun q _ h => h.elim) (fun q h => h.elim) (fun r_2 u t H1 locs ht hvm hw_2 hB hz1 hk1 hS => ?_)
  have hE : s.heap = H1 := hB.symm.trans ht
  subst hE
  rcases (show (r_2 = 1 ∧ mz_hp n p1) ∨ (r_2 = 0 ∧ ¬ mz_hp n p1) from hw_2) with ⟨rfl, hc_2⟩ | ⟨rfl, hc_2⟩
  · skip
    refine lv_if_eq (tgt := 24) hx hb dX7_bars_5 (by decide) (fun c_5 => absurd c_5 (by decide +kernel)) (fun _ => ?_)
    refine lv_aload_n hx hb dX7_bars_8 rfl (lv_at hl 0 rfl) ?_
    refine lv_iload_n hx hb dX7_bars_9 rfl (lv_at hl 2 rfl) ?_
    have hPc := hP.sub (ws' := [(mx, .inr (7, [.ref dr, .ref th, .ref bk, .ref wt, .ref tt, .ref lh, .ref la, .int sh, .long ab, .long be])), (dr, .inr (2, [.ref dp, .ref dc, .int (nI n)]))]) [0, 1] rfl
    refine va_calli (va_runV (As := [.int p2]) (rest := []) ⟨hx, hb, hml, hown, hts⟩ (mz_h_x_isHeap l dC dI cI cJ cZ mx dr th bk wt tt lh la sh ab be dp dc n p2 s.heap (by first | assumption | omega)) (cwV 1 hts gX7_bars_X7_isHeap rfl rfl rfl (by decide +kernel) ⟨Nat.le_of_ble_eq_true rfl, Nat.le_of_ble_eq_true rfl⟩) ⟨fun a U g mk q => mz_blP q, va_recv hK hPc (ci := 7) (q0 := 0) rfl rfl, fun U hU hW => ⟨rfl, hU, hPc, va_K.moved hW.alike hK, mz_nw hW hN⟩⟩ rfl rfl hl.1 rfl (lv_room (Nat.le_of_ble_eq_true rfl)) dX7_bars_10 ⟨Nat.le_of_ble_eq_true rfl, Nat.le_of_ble_eq_true rfl⟩) hS (fun q _ h => h.elim) (fun q h => h.elim) (fun r_10 u t H1 locs ht hvm hw_10 hB hz1 hk1 hS => ?_)
    have hE : s.heap = H1 := hB.symm.trans ht
    subst hE
    rcases (show (r_10 = 1 ∧ mz_hp n p2) ∨ (r_10 = 0 ∧ ¬ mz_hp n p2) from hw_10) with ⟨rfl, hc_10⟩ | ⟨rfl, hc_10⟩
    · skip
      refine lv_if_eq (tgt := 24) hx hb dX7_bars_13 (by decide) (fun c_13 => absurd c_13 (by decide +kernel)) (fun _ => ?_)
      refine lv_aload_n hx hb dX7_bars_16 rfl (lv_at hl 0 rfl) ?_
      refine lv_iload_n hx hb dX7_bars_17 rfl (lv_at hl 3 rfl) ?_
      have hPc := hP.sub (ws' := [(mx, .inr (7, [.ref dr, .ref th, .ref bk, .ref wt, .ref tt, .ref lh, .ref la, .int sh, .long ab, .long be])), (dr, .inr (2, [.ref dp, .ref dc, .int (nI n)]))]) [0, 1] rfl
      refine va_calli (va_runV (As := [.int p3]) (rest := []) ⟨hx, hb, hml, hown, hts⟩ (mz_h_x_isHeap l dC dI cI cJ cZ mx dr th bk wt tt lh la sh ab be dp dc n p3 s.heap (by first | assumption | omega)) (cwV 1 hts gX7_bars_X7_isHeap rfl rfl rfl (by decide +kernel) ⟨Nat.le_of_ble_eq_true rfl, Nat.le_of_ble_eq_true rfl⟩) ⟨fun a U g mk q => mz_blP q, va_recv hK hPc (ci := 7) (q0 := 0) rfl rfl, fun U hU hW => ⟨rfl, hU, hPc, va_K.moved hW.alike hK, mz_nw hW hN⟩⟩ rfl rfl hl.1 rfl (lv_room (Nat.le_of_ble_eq_true rfl)) dX7_bars_18 ⟨Nat.le_of_ble_eq_true rfl, Nat.le_of_ble_eq_true rfl⟩) hS (fun q _ h => h.elim) (fun q h => h.elim) (fun r_18 u t H1 locs ht hvm hw_18 hB hz1 hk1 hS => ?_)
      have hE : s.heap = H1 := hB.symm.trans ht
      subst hE
      rcases (show (r_18 = 1 ∧ mz_hp n p3) ∨ (r_18 = 0 ∧ ¬ mz_hp n p3) from hw_18) with ⟨rfl, hc_18⟩ | ⟨rfl, hc_18⟩
      · skip
        refine lv_if_ne (tgt := 26) hx hb dX7_bars_21 (by decide) (fun _ => ?_) (fun c_21 => absurd c_21 (by decide +kernel))
        refine lv_iload_n hx hb dX7_bars_26 rfl (lv_at hl 1 rfl) ?_
        refine lv_iload_n hx hb dX7_bars_27 rfl (lv_at hl 2 rfl) ?_
        refine lv_iand hx hb dX7_bars_28 ?_
        refine lv_if_ne (tgt := 44) hx hb dX7_bars_29 (by decide) (fun c_29 => ?_) (fun c_29 => ?_)
        · skip
          first | exact absurd hd1 c_29 | exact absurd hd2 c_35 | exact absurd hd3 c_41
        · skip
          refine lv_iload_n hx hb dX7_bars_32 rfl (lv_at hl 1 rfl) ?_
          refine lv_iload_n hx hb dX7_bars_33 rfl (lv_at hl 3 rfl) ?_
          refine lv_iand hx hb dX7_bars_34 ?_
          refine lv_if_ne (tgt := 44) hx hb dX7_bars_35 (by decide) (fun c_35 => ?_) (fun c_35 => ?_)
          · skip
            first | exact absurd hd1 c_29 | exact absurd hd2 c_35 | exact absurd hd3 c_41
          · skip
            refine lv_iload_n hx hb dX7_bars_38 rfl (lv_at hl 2 rfl) ?_
            refine lv_iload_n hx hb dX7_bars_39 rfl (lv_at hl 3 rfl) ?_
            refine lv_iand hx hb dX7_bars_40 ?_
            refine lv_if_eq (tgt := 46) hx hb dX7_bars_41 (by decide) (fun c_41 => ?_) (fun c_41 => ?_)
            · skip
              refine lv_aload_n hx hb dX7_bars_46 rfl (lv_at hl 0 rfl) ?_
              refine va_get (D := (dC, dI)) (ci := 7) (v := .ref dr) (C := RX7) (T := TX7) (N := 10) hx hb hts hiX7 hown hK hP 0 rfl rfl 0 (by decide) (hts (.fieldLink RX7 12 "MadeItSo" "drawing" "LMadeItSo$Drawing;") (by decide +kernel)) (fun _ h9 => h9) rfl dX7_bars_47 ?_
              refine lv_iload_n hx hb dX7_bars_50 rfl (lv_at hl 1 rfl) ?_
              refine lv_iload_n hx hb dX7_bars_51 rfl (lv_at hl 2 rfl) ?_
              refine lv_iload_n hx hb dX7_bars_52 rfl (lv_at hl 3 rfl) ?_
              have hPc := hP.sub (ws' := [(dr, .inr (2, [.ref dp, .ref dc, .int (nI n)])), (dp, .inl (cI, 8, .inl fp)), (dc, .inl (cI, 8, .inl fc))]) [1, 2, 3] rfl
              refine va_calli (va_runV (As := [.int p1, .int p2, .int p3]) (rest := []) ⟨hx, hb, hml, hown, hts⟩ (mz_s_barred l dC dI cI cJ cZ dr dp dc n fp fc p1 p2 p3 s.heap (by first | assumption | omega) (by first | assumption | omega)) (cwV 3 hts gX7_bars_X2_barred rfl rfl rfl (by decide +kernel) ⟨Nat.le_of_ble_eq_true rfl, Nat.le_of_ble_eq_true rfl⟩) ⟨fun a U g mk q => mz_blP q, va_recv hK hPc (ci := 2) (q0 := 0) rfl rfl, fun U hU hW => ⟨rfl, hU, hPc, va_K.moved hW.alike hK, mz_nw hW hN⟩⟩ rfl rfl hl.1 rfl (lv_room (Nat.le_of_ble_eq_true rfl)) dX7_bars_53 ⟨Nat.le_of_ble_eq_true rfl, Nat.le_of_ble_eq_true rfl⟩) hS (fun q _ h => h.elim) (fun q h => h.elim) (fun r_53 u t H1 locs ht hvm hw_53 hB hz1 hk1 hS => ?_)
              have hE : s.heap = H1 := hB.symm.trans ht
              subst hE
              rcases (show (r_53 = 1 ∧ ∃ M C F : Int32, mz_lst fp p3 M ∧ mz_brl fp fc p1 p3 M C F ∧  (C ||| F) &&& p2 = 0) ∨ (r_53 = 0 ∧ ∃ M C F : Int32, mz_lst fp p3 M ∧ mz_brl fp fc p1 p3 M C F ∧ ¬ (C ||| F) &&& p2 = 0) from hw_53) with ⟨rfl, hc_53⟩ | ⟨rfl, hc_53⟩
              · skip
                refine W.widen (k := 0) (n := 0) (Nat.le_of_ble_eq_true rfl) (Nat.le_of_ble_eq_true rfl) ?_
                exact W.zret (v := 1) hx hb hr (mz_nz (by decide +kernel)) (fun t ht hW => ⟨⟨1, (), rfl, Or.inl ⟨rfl, hc_53⟩, ht⟩, hS.F ht⟩) hS.2.2 dX7_bars_56
              · skip
                refine W.widen (k := 0) (n := 0) (Nat.le_of_ble_eq_true rfl) (Nat.le_of_ble_eq_true rfl) ?_
                exact W.zret (v := 0) hx hb hr (mz_nz (by decide +kernel)) (fun t ht hW => ⟨⟨0, (), rfl, Or.inr ⟨rfl, hc_53⟩, ht⟩, hS.F ht⟩) hS.2.2 dX7_bars_56
            · skip
              first | exact absurd hd1 c_29 | exact absurd hd2 c_35 | exact absurd hd3 c_41
      · skip
        refine lv_if_ne (tgt := 26) hx hb dX7_bars_21 (by decide) (fun c_21 => absurd (by decide +kernel) c_21) (fun _ => ?_)
        first | exact absurd hpa hc_2 | exact absurd hpb hc_10 | exact absurd hZ hc_18
    · skip
      refine lv_if_eq (tgt := 24) hx hb dX7_bars_13 (by decide) (fun _ => ?_) (fun c_13 => absurd (by decide +kernel) c_13)
      first | exact absurd hpa hc_2 | exact absurd hpb hc_10 | exact absurd hZ hc_18
  · skip
    refine lv_if_eq (tgt := 24) hx hb dX7_bars_5 (by decide) (fun _ => ?_) (fun c_5 => absurd (by decide +kernel) c_5)
    first | exact absurd hpa hc_2 | exact absurd hpb hc_10 | exact absurd hZ hc_18
set_option maxHeartbeats 1000000 in
set_option maxRecDepth 100000 in
theorem mz_s_x_bars_out (l : Launch) (dC : Nat → ClassId) (dI : Nat → Nat → Nat) (cI cJ cZ : ClassId) (mx : Nat) (dr : Nat) (th : Nat) (bk : Nat) (wt : Nat) (tt : Nat) (lh : Nat) (la : Nat) (sh : Int32) (ab : Int64) (be : Int64) (dp : Nat) (dc : Nat) (n : Nat) (p1 : Int32) (p2 : Int32) (p3 : Int32) (Hq : Heap) (hn : n ≤ 8) (hNA : ¬ (mz_hp n p1 ∧ mz_hp n p2 ∧ mz_hp n p3 ∧ p1 &&& p2 = 0 ∧ p1 &&& p3 = 0 ∧ p2 &&& p3 = 0)) : Met l yX7_bars wsX7_bars ({ frames := 2, cells := 0, slots := 0, locals := 41 }) (va_Pc [.ref mx, .int p1, .int p2, .int p3] (fun U => U.heap = Hq ∧ va_P (dC, dI) vwCl [(mx, .inr (7, [.ref dr, .ref th, .ref bk, .ref wt, .ref tt, .ref lh, .ref la, .int sh, .long ab, .long be])), (dr, .inr (2, [.ref dp, .ref dc, .int (nI n)]))] Hq ∧ va_K (dC, dI) vwCl [(cI, FieldType.int), (cJ, FieldType.long), (cZ, FieldType.boolean)] U ∧ mz_N U)) (va_Qi (fun (r : Int32) (_ : Unit) => r = 0) (fun _ t => t.heap = Hq) (fun _ : Nat => False)) 0 0 (fun _ : Nat => False) := by
  refine Met.ofW (cc := cX7_bars) (maxL := 4) (ret := (some .boolean)) (by decide) rfl ?_
  intro p e s m args below meth c s₁ B hml hv
  obtain ⟨rfl, hH, hP, hK, hN⟩ := hv
  subst hH
  have hx := B.exec
  have hb := B.bytes
  have hr := B.returns
  have hts := atoms_spec (ws := wsX7_bars) B.pre
  have hown : s.vm.findClass RX7 = some m.cls := findClass_of_methodNamed B.named
  have hlocks := B.notSynchronized
  have hS : va_S (fun _ : Nat => False) s.heap s.heap [] := va_S.rf
  have hl := lv_entry ([.ref mx, .int p1, .int p2, .int p3]) (n := 4) (Nat.le_of_ble_eq_true rfl)
  rw [lg_entry_eq]
  generalize (lg_sl ([.ref mx, .int p1, .int p2, .int p3]) ++ List.replicate (4 - (lg_sl ([.ref mx, .int p1, .int p2, .int p3])).length) Slot.unset).toArray = ls at hl ⊢
  have hl : lv_has ls 4 [(0, .ref mx), (1, .int p1), (2, .int p2), (3, .int p3)] := hl
  refine lv_aload_n hx hb dX7_bars_0 rfl (lv_at hl 0 rfl) ?_
  refine lv_iload_n hx hb dX7_bars_1 rfl (lv_at hl 1 rfl) ?_
  have hPc := hP.sub (ws' := [(mx, .inr (7, [.ref dr, .ref th, .ref bk, .ref wt, .ref tt, .ref lh, .ref la, .int sh, .long ab, .long be])), (dr, .inr (2, [.ref dp, .ref dc, .int (nI n)]))]) [0, 1] rfl
  refine va_calli (va_runV (As := [.int p1]) (rest := []) ⟨hx, hb, hml, hown, hts⟩ (mz_h_x_isHeap l dC dI cI cJ cZ mx dr th bk wt tt lh la sh ab be dp dc n p1 s.heap (by first | assumption | omega)) (cwV 1 hts gX7_bars_X7_isHeap rfl rfl rfl (by decide +kernel) ⟨Nat.le_of_ble_eq_true rfl, Nat.le_of_ble_eq_true rfl⟩) ⟨fun a U g mk q => mz_blP q, va_recv hK hPc (ci := 7) (q0 := 0) rfl rfl, fun U hU hW => ⟨rfl, hU, hPc, va_K.moved hW.alike hK, mz_nw hW hN⟩⟩ rfl rfl hl.1 rfl (lv_room (Nat.le_of_ble_eq_true rfl)) dX7_bars_2 ⟨Nat.le_of_ble_eq_true rfl, Nat.le_of_ble_eq_true rfl⟩) hS (fun q _ h => h.elim) (fun q h => h.elim) (fun r_2 u t H1 locs ht hvm hw_2 hB hz1 hk1 hS => ?_)
  have hE : s.heap = H1 := hB.symm.trans ht
  subst hE
  rcases (show (r_2 = 1 ∧ mz_hp n p1) ∨ (r_2 = 0 ∧ ¬ mz_hp n p1) from hw_2) with ⟨rfl, hc_2⟩ | ⟨rfl, hc_2⟩
  · skip
    refine lv_if_eq (tgt := 24) hx hb dX7_bars_5 (by decide) (fun c_5 => absurd c_5 (by decide +kernel)) (fun _ => ?_)
    refine lv_aload_n hx hb dX7_bars_8 rfl (lv_at hl 0 rfl) ?_
    refine lv_iload_n hx hb dX7_bars_9 rfl (lv_at hl 2 rfl) ?_
    have hPc := hP.sub (ws' := [(mx, .inr (7, [.ref dr, .ref th, .ref bk, .ref wt, .ref tt, .ref lh, .ref la, .int sh, .long ab, .long be])), (dr, .inr (2, [.ref dp, .ref dc, .int (nI n)]))]) [0, 1] rfl
    refine va_calli (va_runV (As := [.int p2]) (rest := []) ⟨hx, hb, hml, hown, hts⟩ (mz_h_x_isHeap l dC dI cI cJ cZ mx dr th bk wt tt lh la sh ab be dp dc n p2 s.heap (by first | assumption | omega)) (cwV 1 hts gX7_bars_X7_isHeap rfl rfl rfl (by decide +kernel) ⟨Nat.le_of_ble_eq_true rfl, Nat.le_of_ble_eq_true rfl⟩) ⟨fun a U g mk q => mz_blP q, va_recv hK hPc (ci := 7) (q0 := 0) rfl rfl, fun U hU hW => ⟨rfl, hU, hPc, va_K.moved hW.alike hK, mz_nw hW hN⟩⟩ rfl rfl hl.1 rfl (lv_room (Nat.le_of_ble_eq_true rfl)) dX7_bars_10 ⟨Nat.le_of_ble_eq_true rfl, Nat.le_of_ble_eq_true rfl⟩) hS (fun q _ h => h.elim) (fun q h => h.elim) (fun r_10 u t H1 locs ht hvm hw_10 hB hz1 hk1 hS => ?_)
    have hE : s.heap = H1 := hB.symm.trans ht
    subst hE
    rcases (show (r_10 = 1 ∧ mz_hp n p2) ∨ (r_10 = 0 ∧ ¬ mz_hp n p2) from hw_10) with ⟨rfl, hc_10⟩ | ⟨rfl, hc_10⟩
    · skip
      refine lv_if_eq (tgt := 24) hx hb dX7_bars_13 (by decide) (fun c_13 => absurd c_13 (by decide +kernel)) (fun _ => ?_)
      refine lv_aload_n hx hb dX7_bars_16 rfl (lv_at hl 0 rfl) ?_
      refine lv_iload_n hx hb dX7_bars_17 rfl (lv_at hl 3 rfl) ?_
      have hPc := hP.sub (ws' := [(mx, .inr (7, [.ref dr, .ref th, .ref bk, .ref wt, .ref tt, .ref lh, .ref la, .int sh, .long ab, .long be])), (dr, .inr (2, [.ref dp, .ref dc, .int (nI n)]))]) [0, 1] rfl
      refine va_calli (va_runV (As := [.int p3]) (rest := []) ⟨hx, hb, hml, hown, hts⟩ (mz_h_x_isHeap l dC dI cI cJ cZ mx dr th bk wt tt lh la sh ab be dp dc n p3 s.heap (by first | assumption | omega)) (cwV 1 hts gX7_bars_X7_isHeap rfl rfl rfl (by decide +kernel) ⟨Nat.le_of_ble_eq_true rfl, Nat.le_of_ble_eq_true rfl⟩) ⟨fun a U g mk q => mz_blP q, va_recv hK hPc (ci := 7) (q0 := 0) rfl rfl, fun U hU hW => ⟨rfl, hU, hPc, va_K.moved hW.alike hK, mz_nw hW hN⟩⟩ rfl rfl hl.1 rfl (lv_room (Nat.le_of_ble_eq_true rfl)) dX7_bars_18 ⟨Nat.le_of_ble_eq_true rfl, Nat.le_of_ble_eq_true rfl⟩) hS (fun q _ h => h.elim) (fun q h => h.elim) (fun r_18 u t H1 locs ht hvm hw_18 hB hz1 hk1 hS => ?_)
      have hE : s.heap = H1 := hB.symm.trans ht
      subst hE
      rcases (show (r_18 = 1 ∧ mz_hp n p3) ∨ (r_18 = 0 ∧ ¬ mz_hp n p3) from hw_18) with ⟨rfl, hc_18⟩ | ⟨rfl, hc_18⟩
      · skip
        refine lv_if_ne (tgt := 26) hx hb dX7_bars_21 (by decide) (fun _ => ?_) (fun c_21 => absurd c_21 (by decide +kernel))
        refine lv_iload_n hx hb dX7_bars_26 rfl (lv_at hl 1 rfl) ?_
        refine lv_iload_n hx hb dX7_bars_27 rfl (lv_at hl 2 rfl) ?_
        refine lv_iand hx hb dX7_bars_28 ?_
        refine lv_if_ne (tgt := 44) hx hb dX7_bars_29 (by decide) (fun c_29 => ?_) (fun c_29 => ?_)
        · skip
          refine lv_iconst (v := 0) hx hb dX7_bars_44 (by decide +kernel) ?_
          refine W.widen (k := 0) (n := 0) (Nat.le_of_ble_eq_true rfl) (Nat.le_of_ble_eq_true rfl) ?_
          exact W.zret (v := 0) hx hb hr (mz_nz (by decide +kernel)) (fun t ht hW => ⟨⟨0, (), rfl, rfl, ht⟩, hS.F ht⟩) hS.2.2 dX7_bars_45
        · skip
          refine lv_iload_n hx hb dX7_bars_32 rfl (lv_at hl 1 rfl) ?_
          refine lv_iload_n hx hb dX7_bars_33 rfl (lv_at hl 3 rfl) ?_
          refine lv_iand hx hb dX7_bars_34 ?_
          refine lv_if_ne (tgt := 44) hx hb dX7_bars_35 (by decide) (fun c_35 => ?_) (fun c_35 => ?_)
          · skip
            refine lv_iconst (v := 0) hx hb dX7_bars_44 (by decide +kernel) ?_
            refine W.widen (k := 0) (n := 0) (Nat.le_of_ble_eq_true rfl) (Nat.le_of_ble_eq_true rfl) ?_
            exact W.zret (v := 0) hx hb hr (mz_nz (by decide +kernel)) (fun t ht hW => ⟨⟨0, (), rfl, rfl, ht⟩, hS.F ht⟩) hS.2.2 dX7_bars_45
          · skip
            refine lv_iload_n hx hb dX7_bars_38 rfl (lv_at hl 2 rfl) ?_
            refine lv_iload_n hx hb dX7_bars_39 rfl (lv_at hl 3 rfl) ?_
            refine lv_iand hx hb dX7_bars_40 ?_
            refine lv_if_eq (tgt := 46) hx hb dX7_bars_41 (by decide) (fun c_41 => ?_) (fun c_41 => ?_)
            · skip
              exact absurd ⟨hc_2, hc_10, hc_18, c_29, c_35, c_41⟩ hNA
            · skip
              refine lv_iconst (v := 0) hx hb dX7_bars_44 (by decide +kernel) ?_
              refine W.widen (k := 0) (n := 0) (Nat.le_of_ble_eq_true rfl) (Nat.le_of_ble_eq_true rfl) ?_
              exact W.zret (v := 0) hx hb hr (mz_nz (by decide +kernel)) (fun t ht hW => ⟨⟨0, (), rfl, rfl, ht⟩, hS.F ht⟩) hS.2.2 dX7_bars_45
      · skip
        refine lv_if_ne (tgt := 26) hx hb dX7_bars_21 (by decide) (fun c_21 => absurd (by decide +kernel) c_21) (fun _ => ?_)
        refine lv_iconst (v := 0) hx hb dX7_bars_24 (by decide +kernel) ?_
        refine W.widen (k := 0) (n := 0) (Nat.le_of_ble_eq_true rfl) (Nat.le_of_ble_eq_true rfl) ?_
        exact W.zret (v := 0) hx hb hr (mz_nz (by decide +kernel)) (fun t ht hW => ⟨⟨0, (), rfl, rfl, ht⟩, hS.F ht⟩) hS.2.2 dX7_bars_25
    · skip
      refine lv_if_eq (tgt := 24) hx hb dX7_bars_13 (by decide) (fun _ => ?_) (fun c_13 => absurd (by decide +kernel) c_13)
      refine lv_iconst (v := 0) hx hb dX7_bars_24 (by decide +kernel) ?_
      refine W.widen (k := 0) (n := 0) (Nat.le_of_ble_eq_true rfl) (Nat.le_of_ble_eq_true rfl) ?_
      exact W.zret (v := 0) hx hb hr (mz_nz (by decide +kernel)) (fun t ht hW => ⟨⟨0, (), rfl, rfl, ht⟩, hS.F ht⟩) hS.2.2 dX7_bars_25
  · skip
    refine lv_if_eq (tgt := 24) hx hb dX7_bars_5 (by decide) (fun _ => ?_) (fun c_5 => absurd (by decide +kernel) c_5)
    refine lv_iconst (v := 0) hx hb dX7_bars_24 (by decide +kernel) ?_
    refine W.widen (k := 0) (n := 0) (Nat.le_of_ble_eq_true rfl) (Nat.le_of_ble_eq_true rfl) ?_
    exact W.zret (v := 0) hx hb hr (mz_nz (by decide +kernel)) (fun t ht hW => ⟨⟨0, (), rfl, rfl, ht⟩, hS.F ht⟩) hS.2.2 dX7_bars_25
set_option maxHeartbeats 1000000 in
set_option maxRecDepth 100000 in
theorem mz_s_m_pw (l : Launch) (dC : Nat → ClassId) (dI : Nat → Nat → Nat) (cI cJ cZ : ClassId) (mo : Nat) (m1 : Nat) (m2 : Nat) (m3 : Nat) (m6 : Nat) (m7 : Nat) (m8 : Nat) (m9 : Nat) (m10 : Nat) (m11 : Nat) (m12 : Nat) (m13 : Nat) (m14 : Nat) (m15 : Nat) (m16 : Nat) (n : Nat) (ka : Int64) (kb : Int64) (fp : Nat → Int32) (j : Nat) (p1 : Int32) (p2 : Int32) (Hq : Heap) (hj : j < 8) : Met l yX8_parentsWithout wsX8_parentsWithout ({ frames := 0, cells := 0, slots := 0, locals := 0 }) (va_Pc [.ref mo, .int (nI j), .int p1, .int p2] (fun U => U.heap = Hq ∧ va_P (dC, dI) vwCl [(mo, .inr (8, [.int (nI n), .ref m1, .ref m2, .ref m3, .long ka, .long kb, .ref m6, .ref m7, .ref m8, .ref m9, .ref m10, .ref m11, .ref m12, .ref m13, .ref m14, .ref m15, .ref m16])), (m2, .inl (cI, 8, .inl fp))] Hq ∧ va_K (dC, dI) vwCl [(cI, FieldType.int), (cJ, FieldType.long), (cZ, FieldType.boolean)] U ∧ mz_N U)) (va_Qi (fun (r : Int32) (_ : Unit) => r = (mz_pwo fp p1 p2 j)) (fun _ t => t.heap = Hq) (fun _ : Nat => False)) 0 0 (fun _ : Nat => False) := by
  refine Met.ofW (cc := cX8_parentsWithout) (maxL := 4) (ret := (some .int)) (by decide) rfl ?_
  intro p e s m args below meth c s₁ B hml hv
  obtain ⟨rfl, hH, hP, hK, hN⟩ := hv
  subst hH
  have hx := B.exec
  have hb := B.bytes
  have hr := B.returns
  have hts := atoms_spec (ws := wsX8_parentsWithout) B.pre
  have hown : s.vm.findClass RX8 = some m.cls := findClass_of_methodNamed B.named
  have hlocks := B.notSynchronized
  have hS : va_S (fun _ : Nat => False) s.heap s.heap [] := va_S.rf
  have hiX8 : ∀ w ∈ u_ws RX8 TX8 17, w ∈ wsX8_parentsWithout := by decide +kernel
  have hl := lv_entry ([.ref mo, .int (nI j), .int p1, .int p2]) (n := 4) (Nat.le_of_ble_eq_true rfl)
  rw [lg_entry_eq]
  generalize (lg_sl ([.ref mo, .int (nI j), .int p1, .int p2]) ++ List.replicate (4 - (lg_sl ([.ref mo, .int (nI j), .int p1, .int p2])).length) Slot.unset).toArray = ls at hl ⊢
  have hl : lv_has ls 4 [(0, .ref mo), (1, .int (nI j)), (2, .int p1), (3, .int p2)] := hl
  refine lv_iload_n hx hb dX8_parentsWithout_0 rfl (lv_at hl 3 rfl) ?_
  refine lv_iload_n hx hb dX8_parentsWithout_1 rfl (lv_at hl 1 rfl) ?_
  refine lv_ishr hx hb dX8_parentsWithout_2 ?_
  refine lv_iconst (v := 1) hx hb dX8_parentsWithout_3 (by decide +kernel) ?_
  refine lv_iand hx hb dX8_parentsWithout_4 ?_
  refine lv_iconst (v := 1) hx hb dX8_parentsWithout_5 (by decide +kernel) ?_
  refine lv_icmp_ne (tgt := 24) hx hb dX8_parentsWithout_6 (by decide) (fun c_6 => ?_) (fun c_6 => ?_)
  · skip
    refine lv_aload_n hx hb dX8_parentsWithout_24 rfl (lv_at hl 0 rfl) ?_
    refine va_get (D := (dC, dI)) (ci := 8) (v := .ref m2) (C := RX8) (T := TX8) (N := 17) hx hb hts hiX8 hown hK hP 0 rfl rfl 2 (by decide) (hts (.fieldLink RX8 13 "MadeItSoModel" "parents" "[I") (by decide +kernel)) (fun _ h9 => h9) rfl dX8_parentsWithout_25 ?_
    refine lv_iload_n hx hb dX8_parentsWithout_28 rfl (lv_at hl 1 rfl) ?_
    refine va_iald hx hb hK hP 1 0 rfl rfl (vp_in_nI (by omega) (by omega)) dX8_parentsWithout_29 ?_
    refine mz_ti (y := (fp j)) (by rw [mz_cl (by omega)]) ?_
    refine W.widen (k := 0) (n := 0) (Nat.le_of_ble_eq_true rfl) (Nat.le_of_ble_eq_true rfl) ?_
    exact W.iret (v := (fp j)) hx hb hr (fun t ht hW => ⟨⟨(fp j), (), rfl, (mz_pwo_n (mz_t_n (by omega) c_6)), ht⟩, hS.F ht⟩) hS.2.2 dX8_parentsWithout_30
  · skip
    refine lv_aload_n hx hb dX8_parentsWithout_9 rfl (lv_at hl 0 rfl) ?_
    refine va_get (D := (dC, dI)) (ci := 8) (v := .ref m2) (C := RX8) (T := TX8) (N := 17) hx hb hts hiX8 hown hK hP 0 rfl rfl 2 (by decide) (hts (.fieldLink RX8 13 "MadeItSoModel" "parents" "[I") (by decide +kernel)) (fun _ h9 => h9) rfl dX8_parentsWithout_10 ?_
    refine lv_iload_n hx hb dX8_parentsWithout_13 rfl (lv_at hl 1 rfl) ?_
    refine va_iald hx hb hK hP 1 0 rfl rfl (vp_in_nI (by omega) (by omega)) dX8_parentsWithout_14 ?_
    refine mz_ti (y := (fp j)) (by rw [mz_cl (by omega)]) ?_
    refine lv_iconst (v := 1) hx hb dX8_parentsWithout_15 (by decide +kernel) ?_
    refine lv_iload_n hx hb dX8_parentsWithout_16 rfl (lv_at hl 2 rfl) ?_
    refine lv_ishl hx hb dX8_parentsWithout_17 ?_
    refine lv_iconst (v := (-1)) hx hb dX8_parentsWithout_18 (by decide +kernel) ?_
    refine lv_ixor hx hb dX8_parentsWithout_19 ?_
    refine lv_iand hx hb dX8_parentsWithout_20 ?_
    refine lv_goto (tgt := 30) hx hb dX8_parentsWithout_21 (by decide) ?_
    refine W.widen (k := 0) (n := 0) (Nat.le_of_ble_eq_true rfl) (Nat.le_of_ble_eq_true rfl) ?_
    exact W.iret (v := ((fp j) &&& ((1 <<< (p1 &&& 31)) ^^^ (-1)))) hx hb hr (fun t ht hW => ⟨⟨((fp j) &&& ((1 <<< (p1 &&& 31)) ^^^ (-1))), (), rfl, (mz_pwo_y (mz_t_y (by omega) c_6)), ht⟩, hS.F ht⟩) hS.2.2 dX8_parentsWithout_30
set_option maxHeartbeats 1000000 in
set_option maxRecDepth 100000 in
theorem mz_s_m_isArrow (l : Launch) (dC : Nat → ClassId) (dI : Nat → Nat → Nat) (cI cJ cZ : ClassId) (mo : Nat) (m1 : Nat) (m2 : Nat) (m3 : Nat) (m6 : Nat) (m7 : Nat) (m8 : Nat) (m9 : Nat) (m10 : Nat) (m11 : Nat) (m12 : Nat) (m13 : Nat) (m14 : Nat) (m15 : Nat) (m16 : Nat) (n : Nat) (ka : Int64) (kb : Int64) (fp : Nat → Int32) (i : Nat) (j : Nat) (p2 : Int32) (p3 : Int32) (Hq : Heap) (hi : i < 8) (hj : j < 8) : Met l yX8_isArrow wsX8_isArrow ({ frames := 1, cells := 0, slots := 0, locals := 23 }) (va_Pc [.ref mo, .int (nI i), .int (nI j), .int p2, .int p3] (fun U => U.heap = Hq ∧ va_P (dC, dI) vwCl [(mo, .inr (8, [.int (nI n), .ref m1, .ref m2, .ref m3, .long ka, .long kb, .ref m6, .ref m7, .ref m8, .ref m9, .ref m10, .ref m11, .ref m12, .ref m13, .ref m14, .ref m15, .ref m16])), (m2, .inl (cI, 8, .inl fp))] Hq ∧ va_K (dC, dI) vwCl [(cI, FieldType.int), (cJ, FieldType.long), (cZ, FieldType.boolean)] U ∧ mz_N U)) (va_Qi (fun (r : Int32) (_ : Unit) => (r = 1 ∧ mz_ar (mz_pwo fp p2 p3) i j = true) ∨ (r = 0 ∧ mz_ar (mz_pwo fp p2 p3) i j = false)) (fun _ t => t.heap = Hq) (fun _ : Nat => False)) 0 0 (fun _ : Nat => False) := by
  refine Met.ofW (cc := cX8_isArrow) (maxL := 5) (ret := (some .boolean)) (by decide) rfl ?_
  intro p e s m args below meth c s₁ B hml hv
  obtain ⟨rfl, hH, hP, hK, hN⟩ := hv
  subst hH
  have hx := B.exec
  have hb := B.bytes
  have hr := B.returns
  have hts := atoms_spec (ws := wsX8_isArrow) B.pre
  have hown : s.vm.findClass RX8 = some m.cls := findClass_of_methodNamed B.named
  have hlocks := B.notSynchronized
  have hS : va_S (fun _ : Nat => False) s.heap s.heap [] := va_S.rf
  have hl := lv_entry ([.ref mo, .int (nI i), .int (nI j), .int p2, .int p3]) (n := 5) (Nat.le_of_ble_eq_true rfl)
  rw [lg_entry_eq]
  generalize (lg_sl ([.ref mo, .int (nI i), .int (nI j), .int p2, .int p3]) ++ List.replicate (5 - (lg_sl ([.ref mo, .int (nI i), .int (nI j), .int p2, .int p3])).length) Slot.unset).toArray = ls at hl ⊢
  have hl : lv_has ls 5 [(0, .ref mo), (1, .int (nI i)), (2, .int (nI j)), (3, .int p2), (4, .int p3)] := hl
  refine lv_aload_n hx hb dX8_isArrow_0 rfl (lv_at hl 0 rfl) ?_
  refine lv_iload_n hx hb dX8_isArrow_1 rfl (lv_at hl 2 rfl) ?_
  refine lv_iload_n hx hb dX8_isArrow_2 rfl (lv_at hl 3 rfl) ?_
  refine lv_iload hx hb dX8_isArrow_3 (lv_at hl 4 rfl) ?_
  have hPc := hP.sub (ws' := [(mo, .inr (8, [.int (nI n), .ref m1, .ref m2, .ref m3, .long ka, .long kb, .ref m6, .ref m7, .ref m8, .ref m9, .ref m10, .ref m11, .ref m12, .ref m13, .ref m14, .ref m15, .ref m16])), (m2, .inl (cI, 8, .inl fp))]) [0, 1] rfl
  refine va_calli (va_runV (As := [.int (nI j), .int p2, .int p3]) (rest := []) ⟨hx, hb, hml, hown, hts⟩ (mz_s_m_pw l dC dI cI cJ cZ mo m1 m2 m3 m6 m7 m8 m9 m10 m11 m12 m13 m14 m15 m16 n ka kb fp j p2 p3 s.heap (by first | assumption | omega)) (cwV 3 hts gX8_isArrow_X8_parentsWithout rfl rfl rfl (by decide +kernel) ⟨Nat.le_of_ble_eq_true rfl, Nat.le_of_ble_eq_true rfl⟩) ⟨fun a U g mk q => mz_blP q, va_recv hK hPc (ci := 8) (q0 := 0) rfl rfl, fun U hU hW => ⟨rfl, hU, hPc, va_K.moved hW.alike hK, mz_nw hW hN⟩⟩ rfl rfl hl.1 rfl (lv_room (Nat.le_of_ble_eq_true rfl)) dX8_isArrow_5 ⟨Nat.le_of_ble_eq_true rfl, Nat.le_of_ble_eq_true rfl⟩) hS (fun q _ h => h.elim) (fun q h => h.elim) (fun r_5 u t H1 locs ht hvm hw_5 hB hz1 hk1 hS => ?_)
  have hE : s.heap = H1 := hB.symm.trans ht
  subst hE
  obtain rfl : r_5 = (mz_pwo fp p2 p3 j) := hw_5
  refine lv_iload_n hx hb dX8_isArrow_8 rfl (lv_at hl 1 rfl) ?_
  refine lv_ishr hx hb dX8_isArrow_9 ?_
  refine lv_iconst (v := 1) hx hb dX8_isArrow_10 (by decide +kernel) ?_
  refine lv_iand hx hb dX8_isArrow_11 ?_
  refine lv_iconst (v := 1) hx hb dX8_isArrow_12 (by decide +kernel) ?_
  refine lv_icmp_ne (tgt := 20) hx hb dX8_isArrow_13 (by decide) (fun c_13 => ?_) (fun c_13 => ?_)
  · skip
    refine lv_iconst (v := 0) hx hb dX8_isArrow_20 (by decide +kernel) ?_
    refine W.widen (k := 0) (n := 0) (Nat.le_of_ble_eq_true rfl) (Nat.le_of_ble_eq_true rfl) ?_
    exact W.zret (v := 0) hx hb hr (mz_nz (by decide +kernel)) (fun t ht hW => ⟨⟨0, (), rfl, Or.inr ⟨rfl, mz_t_n (by omega) c_13⟩, ht⟩, hS.F ht⟩) hS.2.2 dX8_isArrow_21
  · skip
    refine lv_iconst (v := 1) hx hb dX8_isArrow_16 (by decide +kernel) ?_
    refine lv_goto (tgt := 21) hx hb dX8_isArrow_17 (by decide) ?_
    refine W.widen (k := 0) (n := 0) (Nat.le_of_ble_eq_true rfl) (Nat.le_of_ble_eq_true rfl) ?_
    exact W.zret (v := 1) hx hb hr (mz_nz (by decide +kernel)) (fun t ht hW => ⟨⟨1, (), rfl, Or.inl ⟨rfl, mz_t_y (by omega) c_13⟩, ht⟩, hS.F ht⟩) hS.2.2 dX8_isArrow_21
set_option maxHeartbeats 1000000 in
set_option maxRecDepth 100000 in
theorem mz_s_m_belowWithout (l : Launch) (dC : Nat → ClassId) (dI : Nat → Nat → Nat) (cI cJ cZ : ClassId) (mo : Nat) (m1 : Nat) (m2 : Nat) (m3 : Nat) (m6 : Nat) (m7 : Nat) (m8 : Nat) (m9 : Nat) (m10 : Nat) (m11 : Nat) (m12 : Nat) (m13 : Nat) (m14 : Nat) (m15 : Nat) (m16 : Nat) (n : Nat) (ka : Int64) (kb : Int64) (fp : Nat → Int32) (tq : Nat) (p2 : Int32) (p3 : Int32) (Hq : Heap) (hn : n ≤ 8) (htq : tq < 8) (hgw : ∀ k, k < n → ∀ j, j < 32 → mz_t (mz_pwo fp p2 p3 k) j = true → j < n) : Met l yX8_belowWithout wsX8_belowWithout ({ frames := 1, cells := 0, slots := 0, locals := 23 }) (va_Pc [.ref mo, .int (nI tq), .int p2, .int p3] (fun U => U.heap = Hq ∧ va_P (dC, dI) vwCl [(mo, .inr (8, [.int (nI n), .ref m1, .ref m2, .ref m3, .long ka, .long kb, .ref m6, .ref m7, .ref m8, .ref m9, .ref m10, .ref m11, .ref m12, .ref m13, .ref m14, .ref m15, .ref m16])), (m2, .inl (cI, 8, .inl fp))] Hq ∧ va_K (dC, dI) vwCl [(cI, FieldType.int), (cJ, FieldType.long), (cZ, FieldType.boolean)] U ∧ mz_N U)) (va_Qi (fun (r : Int32) (_ : Unit) => mz_bs n (mz_pwo fp p2 p3) tq r ∧ ∀ j, j < 32 → mz_t r j = true → j < n) (fun _ t => t.heap = Hq) (fun _ : Nat => False)) 0 0 (fun _ : Nat => False) := by
  refine Met.ofW (cc := cX8_belowWithout) (maxL := 8) (ret := (some .int)) (by decide) rfl ?_
  intro p e s m args below meth c s₁ B hml hv
  obtain ⟨rfl, hH, hP, hK, hN⟩ := hv
  subst hH
  have hx := B.exec
  have hb := B.bytes
  have hr := B.returns
  have hts := atoms_spec (ws := wsX8_belowWithout) B.pre
  have hown : s.vm.findClass RX8 = some m.cls := findClass_of_methodNamed B.named
  have hlocks := B.notSynchronized
  have hS : va_S (fun _ : Nat => False) s.heap s.heap [] := va_S.rf
  have hiX8 : ∀ w ∈ u_ws RX8 TX8 17, w ∈ wsX8_belowWithout := by decide +kernel
  have hl := lv_entry ([.ref mo, .int (nI tq), .int p2, .int p3]) (n := 8) (Nat.le_of_ble_eq_true rfl)
  rw [lg_entry_eq]
  generalize (lg_sl ([.ref mo, .int (nI tq), .int p2, .int p3]) ++ List.replicate (8 - (lg_sl ([.ref mo, .int (nI tq), .int p2, .int p3])).length) Slot.unset).toArray = ls at hl ⊢
  have hl : lv_has ls 8 [(0, .ref mo), (1, .int (nI tq)), (2, .int p2), (3, .int p3)] := hl
  refine lv_iconst (v := 0) hx hb dX8_belowWithout_0 (by decide +kernel) ?_
  refine lv_istore (lv' := [(4, .int 0), (0, .ref mo), (1, .int (nI tq)), (2, .int p2), (3, .int p3)]) hx hb dX8_belowWithout_1 hl (by decide) rfl (fun ls hl => ?_)
  refine lv_iconst (v := 1) hx hb dX8_belowWithout_3 (by decide +kernel) ?_
  refine lv_istore (lv' := [(5, .int 1), (4, .int 0), (0, .ref mo), (1, .int (nI tq)), (2, .int p2), (3, .int p3)]) hx hb dX8_belowWithout_4 hl (by decide) rfl (fun ls hl => ?_)
  refine mz_loopU (fun k H locs ls => ∃ (x5_6 : Int32), ∃ (x4_6 : Int32), (x5_6 = 0 → ∀ k, k < n → mz_clo (mz_pwo fp p2 p3) (nI tq) x4_6 k) ∧ (∀ F : Int32, (∀ k, k < n → mz_clo (mz_pwo fp p2 p3) (nI tq) F k) → ∀ k, k < n → mz_t x4_6 k = true → mz_t F k = true) ∧ (∀ j, j < 32 → mz_t x4_6 j = true → j < n) ∧ H = s.heap ∧ va_S (fun _ : Nat => False) s.heap H locs ∧ lv_has ls 8 [(5, .int x5_6), (4, .int x4_6), (0, .ref mo), (1, .int (nI tq)), (2, .int p2), (3, .int p3)] ∧ k = 2 * mz_un x4_6 n + (if x5_6 = 0 then 0 else 1)) ?_ _ _ _ _ ⟨1, 0, (fun h => absurd h (by decide)), (fun _ _ k _ h => absurd h (by rw [mz_t_0]; decide)), (fun j _ h => absurd h (by rw [mz_t_0]; decide)), rfl, hS, lv_sub hl [0, 1, 2, 3, 4, 5] rfl, rfl⟩
  intro k_6 H locs ls hI_6 ih_6
  obtain ⟨x5_6, x4_6, hc_6, hm_6, hz_6, hH_6, hS, hl, hk_6⟩ := hI_6
  subst hH_6
  refine lv_iload hx hb dX8_belowWithout_6 (lv_at hl 0 rfl) ?_
  refine lv_if_eq (tgt := 88) hx hb dX8_belowWithout_8 (by decide) (fun c_8 => ?_) (fun c_8 => ?_)
  · skip
    refine lv_iload hx hb dX8_belowWithout_88 (lv_at hl 1 rfl) ?_
    refine W.widen (k := 0) (n := 0) (Nat.le_of_ble_eq_true rfl) (Nat.le_of_ble_eq_true rfl) ?_
    exact W.iret (v := x4_6) hx hb hr (fun t ht hW => ⟨⟨x4_6, (), rfl, ⟨⟨hc_6 c_8, hm_6⟩, hz_6⟩, ht⟩, hS.F ht⟩) hS.2.2 dX8_belowWithout_90
  · skip
    refine lv_iconst (v := 0) hx hb dX8_belowWithout_11 (by decide +kernel) ?_
    refine lv_istore (lv' := [(5, .int 0), (4, .int x4_6), (0, .ref mo), (1, .int (nI tq)), (2, .int p2), (3, .int p3)]) hx hb dX8_belowWithout_12 hl (by decide) rfl (fun ls hl => ?_)
    refine lv_iconst (v := 0) hx hb dX8_belowWithout_14 (by decide +kernel) ?_
    refine lv_istore (lv' := [(6, .int 0), (5, .int 0), (4, .int x4_6), (0, .ref mo), (1, .int (nI tq)), (2, .int p2), (3, .int p3)]) hx hb dX8_belowWithout_15 hl (by decide) rfl (fun ls hl => ?_)
    refine mz_loopU (fun k H locs ls => ∃ (i_17 : Nat), ∃ (x5_17 : Int32), ∃ (x4_17 : Int32), i_17 ≤ n ∧ (x5_17 = 0 → ((∀ k, k < i_17 → mz_clo (mz_pwo fp p2 p3) (nI tq) x4_17 k) ∧ x4_17 = x4_6)) ∧ (mz_un x4_17 n ≤ mz_un x4_6 n) ∧ (¬ x5_17 = 0 → mz_un x4_17 n < mz_un x4_6 n) ∧ (∀ F : Int32, (∀ k, k < n → mz_clo (mz_pwo fp p2 p3) (nI tq) F k) → ∀ k, k < n → mz_t x4_17 k = true → mz_t F k = true) ∧ (∀ j, j < 32 → mz_t x4_17 j = true → j < n) ∧ H = s.heap ∧ va_S (fun _ : Nat => False) s.heap H locs ∧ lv_has ls 8 [(6, .int (nI i_17)), (5, .int x5_17), (4, .int x4_17), (0, .ref mo), (1, .int (nI tq)), (2, .int p2), (3, .int p3)] ∧ k = n - i_17) ?_ _ _ _ _ ⟨0, 0, x4_6, by omega, (fun _ => ⟨fun k hk => absurd hk (Nat.not_lt_zero k), rfl⟩), Nat.le_refl _, (fun h => absurd rfl h), hm_6, hz_6, rfl, hS, lv_sub hl [0, 1, 2, 3, 4, 5, 6] rfl, rfl⟩
    intro k_17 H locs ls hI_17 ih_17
    obtain ⟨i_17, x5_17, x4_17, hi_17, hq_17, hu_17, hv_17, hm_17, hz_17, hH_17, hS, hl, hk_17⟩ := hI_17
    subst hH_17
    refine lv_iload hx hb dX8_belowWithout_17 (lv_at hl 0 rfl) ?_
    refine lv_aload_n hx hb dX8_belowWithout_19 rfl (lv_at hl 3 rfl) ?_
    refine va_get (D := (dC, dI)) (ci := 8) (v := .int (nI n)) (C := RX8) (T := TX8) (N := 17) hx hb hts hiX8 hown hK hP 0 rfl rfl 0 (by decide) (hts (.fieldLink RX8 58 "MadeItSoModel" "many" "I") (by decide +kernel)) (fun _ h9 => h9) rfl dX8_belowWithout_20 ?_
    refine lv_icmp_ge (tgt := 85) hx hb dX8_belowWithout_23 (by decide) (fun c_23 => ?_) (fun c_23 => ?_)
    · skip
      have d_23 : n ≤ i_17 := (nI_leI (a := n) (b := i_17) (by omega) (by omega)).mp c_23
      refine lv_goto (tgt := 6) hx hb dX8_belowWithout_85 (by decide) ?_
      exact ih_6 _ (mz_two hk_6 c_8 hu_17 hv_17) _ _ _ ⟨x5_17, x4_17, (fun h k hk => (hq_17 h).1 k (by omega)), hm_17, hz_17, rfl, hS, lv_sub hl [1, 2, 3, 4, 5, 6] rfl, rfl⟩
    · skip
      have d_23 : ¬ n ≤ i_17 := fun h => c_23 ((nI_leI (a := n) (b := i_17) (by omega) (by omega)).mpr h)
      refine lv_aload_n hx hb dX8_belowWithout_26 rfl (lv_at hl 3 rfl) ?_
      refine lv_iload hx hb dX8_belowWithout_27 (lv_at hl 0 rfl) ?_
      refine lv_iload_n hx hb dX8_belowWithout_29 rfl (lv_at hl 5 rfl) ?_
      refine lv_iload_n hx hb dX8_belowWithout_30 rfl (lv_at hl 6 rfl) ?_
      have hPc := hP.sub (ws' := [(mo, .inr (8, [.int (nI n), .ref m1, .ref m2, .ref m3, .long ka, .long kb, .ref m6, .ref m7, .ref m8, .ref m9, .ref m10, .ref m11, .ref m12, .ref m13, .ref m14, .ref m15, .ref m16])), (m2, .inl (cI, 8, .inl fp))]) [0, 1] rfl
      refine va_calli (va_runV (As := [.int (nI i_17), .int p2, .int p3]) (rest := []) ⟨hx, hb, hml, hown, hts⟩ (mz_s_m_pw l dC dI cI cJ cZ mo m1 m2 m3 m6 m7 m8 m9 m10 m11 m12 m13 m14 m15 m16 n ka kb fp i_17 p2 p3 s.heap (by first | assumption | omega)) (cwV 3 hts gX8_belowWithout_X8_parentsWithout rfl rfl rfl (by decide +kernel) ⟨Nat.le_of_ble_eq_true rfl, Nat.le_of_ble_eq_true rfl⟩) ⟨fun a U g mk q => mz_blP q, va_recv hK hPc (ci := 8) (q0 := 0) rfl rfl, fun U hU hW => ⟨rfl, hU, hPc, va_K.moved hW.alike hK, mz_nw hW hN⟩⟩ rfl rfl hl.1 rfl (lv_room (Nat.le_of_ble_eq_true rfl)) dX8_belowWithout_31 ⟨Nat.le_of_ble_eq_true rfl, Nat.le_of_ble_eq_true rfl⟩) hS (fun q _ h => h.elim) (fun q h => h.elim) (fun r_31 u t H1 locs ht hvm hw_31 hB hz1 hk1 hS => ?_)
      have hE : s.heap = H1 := hB.symm.trans ht
      subst hE
      obtain rfl : r_31 = (mz_pwo fp p2 p3 i_17) := hw_31
      refine lv_istore (lv' := [(7, .int (mz_pwo fp p2 p3 i_17)), (6, .int (nI i_17)), (5, .int x5_17), (4, .int x4_17), (0, .ref mo), (1, .int (nI tq)), (2, .int p2), (3, .int p3)]) hx hb dX8_belowWithout_34 hl (by decide) rfl (fun ls hl => ?_)
      refine lv_iload hx hb dX8_belowWithout_36 (lv_at hl 3 rfl) ?_
      refine lv_iload hx hb dX8_belowWithout_38 (lv_at hl 1 rfl) ?_
      refine lv_ishr hx hb dX8_belowWithout_40 ?_
      refine lv_iconst (v := 1) hx hb dX8_belowWithout_41 (by decide +kernel) ?_
      refine lv_iand hx hb dX8_belowWithout_42 ?_
      refine lv_iconst (v := 1) hx hb dX8_belowWithout_43 (by decide +kernel) ?_
      refine lv_icmp_eq (tgt := 79) hx hb dX8_belowWithout_44 (by decide) (fun c_44 => ?_) (fun c_44 => ?_)
      · skip
        refine lv_iinc (v := (nI (i_17 + 1))) (lv' := [(6, .int (nI (i_17 + 1))), (7, .int (mz_pwo fp p2 p3 i_17)), (5, .int x5_17), (4, .int x4_17), (0, .ref mo), (1, .int (nI tq)), (2, .int p2), (3, .int p3)]) hx hb dX8_belowWithout_79 hl (k := 1) rfl (nI_1 _) (by decide) rfl (fun ls hl => ?_)
        refine lv_goto (tgt := 17) hx hb dX8_belowWithout_82 (by decide) ?_
        exact ih_17 _ (by omega) _ _ _ ⟨(i_17 + 1), x5_17, x4_17, by omega, (fun h => ⟨lt_s (hq_17 h).1 (Or.inl (by rw [c_44]; decide)), (hq_17 h).2⟩), hu_17, hv_17, hm_17, hz_17, rfl, hS, lv_sub hl [0, 2, 3, 4, 5, 6, 7] rfl, rfl⟩
      · skip
        refine lv_iload hx hb dX8_belowWithout_47 (lv_at hl 0 rfl) ?_
        refine lv_iload_n hx hb dX8_belowWithout_49 rfl (lv_at hl 5 rfl) ?_
        refine lv_ishr hx hb dX8_belowWithout_50 ?_
        refine lv_iconst (v := 1) hx hb dX8_belowWithout_51 (by decide +kernel) ?_
        refine lv_iand hx hb dX8_belowWithout_52 ?_
        refine lv_if_ne (tgt := 67) hx hb dX8_belowWithout_53 (by decide) (fun c_53 => ?_) (fun c_53 => ?_)
        · skip
          refine lv_iload hx hb dX8_belowWithout_67 (lv_at hl 3 rfl) ?_
          refine lv_iconst (v := 1) hx hb dX8_belowWithout_69 (by decide +kernel) ?_
          refine lv_iload hx hb dX8_belowWithout_70 (lv_at hl 1 rfl) ?_
          refine lv_ishl hx hb dX8_belowWithout_72 ?_
          refine lv_ior hx hb dX8_belowWithout_73 ?_
          refine lv_istore (lv' := [(4, .int (x4_17 ||| (1 <<< ((nI i_17) &&& 31)))), (7, .int (mz_pwo fp p2 p3 i_17)), (6, .int (nI i_17)), (5, .int x5_17), (0, .ref mo), (1, .int (nI tq)), (2, .int p2), (3, .int p3)]) hx hb dX8_belowWithout_74 hl (by decide) rfl (fun ls hl => ?_)
          refine lv_iconst (v := 1) hx hb dX8_belowWithout_76 (by decide +kernel) ?_
          refine lv_istore (lv' := [(5, .int 1), (4, .int (x4_17 ||| (1 <<< ((nI i_17) &&& 31)))), (7, .int (mz_pwo fp p2 p3 i_17)), (6, .int (nI i_17)), (0, .ref mo), (1, .int (nI tq)), (2, .int p2), (3, .int p3)]) hx hb dX8_belowWithout_77 hl (by decide) rfl (fun ls hl => ?_)
          refine lv_iinc (v := (nI (i_17 + 1))) (lv' := [(6, .int (nI (i_17 + 1))), (5, .int 1), (4, .int (x4_17 ||| (1 <<< ((nI i_17) &&& 31)))), (7, .int (mz_pwo fp p2 p3 i_17)), (0, .ref mo), (1, .int (nI tq)), (2, .int p2), (3, .int p3)]) hx hb dX8_belowWithout_79 hl (k := 3) rfl (nI_1 _) (by decide) rfl (fun ls hl => ?_)
          refine lv_goto (tgt := 17) hx hb dX8_belowWithout_82 (by decide) ?_
          exact ih_17 _ (by omega) _ _ _ ⟨(i_17 + 1), 1, (x4_17 ||| (1 <<< ((nI i_17) &&& 31))), by omega, (fun h => absurd h (by decide)), (Nat.le_of_lt (Nat.lt_of_lt_of_le (mz_un_set (mz_n1 (by omega) c_44) (by omega) (by omega)) hu_17)), (fun _ => Nat.lt_of_lt_of_le (mz_un_set (mz_n1 (by omega) c_44) (by omega) (by omega)) hu_17), (mz_bs_add hn (by omega) hgw hm_17 (Or.inl (mz_b01 (by omega) c_53))), (mz_bs_up (by omega) hn hz_17), rfl, hS, lv_sub hl [0, 1, 2, 4, 5, 6, 7] rfl, rfl⟩
        · skip
          refine lv_iload hx hb dX8_belowWithout_56 (lv_at hl 0 rfl) ?_
          refine lv_iload hx hb dX8_belowWithout_58 (lv_at hl 3 rfl) ?_
          refine lv_iand hx hb dX8_belowWithout_60 ?_
          refine lv_if_ne (tgt := 67) hx hb dX8_belowWithout_61 (by decide) (fun c_61 => ?_) (fun c_61 => ?_)
          · skip
            refine lv_iload hx hb dX8_belowWithout_67 (lv_at hl 3 rfl) ?_
            refine lv_iconst (v := 1) hx hb dX8_belowWithout_69 (by decide +kernel) ?_
            refine lv_iload hx hb dX8_belowWithout_70 (lv_at hl 1 rfl) ?_
            refine lv_ishl hx hb dX8_belowWithout_72 ?_
            refine lv_ior hx hb dX8_belowWithout_73 ?_
            refine lv_istore (lv' := [(4, .int (x4_17 ||| (1 <<< ((nI i_17) &&& 31)))), (7, .int (mz_pwo fp p2 p3 i_17)), (6, .int (nI i_17)), (5, .int x5_17), (0, .ref mo), (1, .int (nI tq)), (2, .int p2), (3, .int p3)]) hx hb dX8_belowWithout_74 hl (by decide) rfl (fun ls hl => ?_)
            refine lv_iconst (v := 1) hx hb dX8_belowWithout_76 (by decide +kernel) ?_
            refine lv_istore (lv' := [(5, .int 1), (4, .int (x4_17 ||| (1 <<< ((nI i_17) &&& 31)))), (7, .int (mz_pwo fp p2 p3 i_17)), (6, .int (nI i_17)), (0, .ref mo), (1, .int (nI tq)), (2, .int p2), (3, .int p3)]) hx hb dX8_belowWithout_77 hl (by decide) rfl (fun ls hl => ?_)
            refine lv_iinc (v := (nI (i_17 + 1))) (lv' := [(6, .int (nI (i_17 + 1))), (5, .int 1), (4, .int (x4_17 ||| (1 <<< ((nI i_17) &&& 31)))), (7, .int (mz_pwo fp p2 p3 i_17)), (0, .ref mo), (1, .int (nI tq)), (2, .int p2), (3, .int p3)]) hx hb dX8_belowWithout_79 hl (k := 3) rfl (nI_1 _) (by decide) rfl (fun ls hl => ?_)
            refine lv_goto (tgt := 17) hx hb dX8_belowWithout_82 (by decide) ?_
            exact ih_17 _ (by omega) _ _ _ ⟨(i_17 + 1), 1, (x4_17 ||| (1 <<< ((nI i_17) &&& 31))), by omega, (fun h => absurd h (by decide)), (Nat.le_of_lt (Nat.lt_of_lt_of_le (mz_un_set (mz_n1 (by omega) c_44) (by omega) (by omega)) hu_17)), (fun _ => Nat.lt_of_lt_of_le (mz_un_set (mz_n1 (by omega) c_44) (by omega) (by omega)) hu_17), (mz_bs_add hn (by omega) hgw hm_17 (Or.inr c_61)), (mz_bs_up (by omega) hn hz_17), rfl, hS, lv_sub hl [0, 1, 2, 4, 5, 6, 7] rfl, rfl⟩
          · skip
            refine lv_goto (tgt := 79) hx hb dX8_belowWithout_64 (by decide) ?_
            refine lv_iinc (v := (nI (i_17 + 1))) (lv' := [(6, .int (nI (i_17 + 1))), (7, .int (mz_pwo fp p2 p3 i_17)), (5, .int x5_17), (4, .int x4_17), (0, .ref mo), (1, .int (nI tq)), (2, .int p2), (3, .int p3)]) hx hb dX8_belowWithout_79 hl (k := 1) rfl (nI_1 _) (by decide) rfl (fun ls hl => ?_)
            refine lv_goto (tgt := 17) hx hb dX8_belowWithout_82 (by decide) ?_
            exact ih_17 _ (by omega) _ _ _ ⟨(i_17 + 1), x5_17, x4_17, by omega, (fun h => ⟨lt_s (hq_17 h).1 (Or.inr ⟨by rw [c_53]; decide, c_61⟩), (hq_17 h).2⟩), hu_17, hv_17, hm_17, hz_17, rfl, hS, lv_sub hl [0, 2, 3, 4, 5, 6, 7] rfl, rfl⟩
set_option maxHeartbeats 1000000 in
set_option maxRecDepth 100000 in
theorem mz_s_m_isOpen (l : Launch) (dC : Nat → ClassId) (dI : Nat → Nat → Nat) (cI cJ cZ : ClassId) (mo : Nat) (m1 : Nat) (m2 : Nat) (m3 : Nat) (m6 : Nat) (m7 : Nat) (m8 : Nat) (m9 : Nat) (m10 : Nat) (m11 : Nat) (m12 : Nat) (m13 : Nat) (m14 : Nat) (m15 : Nat) (m16 : Nat) (n : Nat) (ka : Int64) (kb : Int64) (fp : Nat → Int32) (fw : Nat → Int32) (q : Nat) (V : Nat → Nat) (p2 : Int32) (p3 : Int32) (p4 : Int32) (Hq : Heap) (hn : n ≤ 8) (hq : q ≤ 8) (hgw : ∀ k, k < n → ∀ j, j < 32 → mz_t (mz_pwo fp p3 p4 k) j = true → j < n) (hV : ∀ i, i < q → fw i = nI (V i) ∧ V i < n) : Met l yX8_isOpen wsX8_isOpen ({ frames := 2, cells := 0, slots := 0, locals := 50 }) (va_Pc [.ref mo, .int (nI q), .int p2, .int p3, .int p4] (fun U => U.heap = Hq ∧ va_P (dC, dI) vwCl [(mo, .inr (8, [.int (nI n), .ref m1, .ref m2, .ref m3, .long ka, .long kb, .ref m6, .ref m7, .ref m8, .ref m9, .ref m10, .ref m11, .ref m12, .ref m13, .ref m14, .ref m15, .ref m16])), (m2, .inl (cI, 8, .inl fp)), (m6, .inl (cI, 8, .inl fw))] Hq ∧ va_K (dC, dI) vwCl [(cI, FieldType.int), (cJ, FieldType.long), (cZ, FieldType.boolean)] U ∧ mz_N U)) (va_Qi (fun (r : Int32) (_ : Unit) => (r = 1 ∧ ∀ k, 0 < k → k + 1 < q → mz_opn (mz_pwo fp p3 p4) p2 (mz_Mm n (mz_pwo fp p3 p4) p2) V k) ∨ (r = 0 ∧ ¬ ∀ k, 0 < k → k + 1 < q → mz_opn (mz_pwo fp p3 p4) p2 (mz_Mm n (mz_pwo fp p3 p4) p2) V k)) (fun _ t => t.heap = Hq) (fun _ : Nat => False)) 0 0 (fun _ : Nat => False) := by
  refine Met.ofW (cc := cX8_isOpen) (maxL := 10) (ret := (some .boolean)) (by decide) rfl ?_
  intro p e s m args below meth c s₁ B hml hv
  obtain ⟨rfl, hH, hP, hK, hN⟩ := hv
  subst hH
  have hx := B.exec
  have hb := B.bytes
  have hr := B.returns
  have hts := atoms_spec (ws := wsX8_isOpen) B.pre
  have hown : s.vm.findClass RX8 = some m.cls := findClass_of_methodNamed B.named
  have hlocks := B.notSynchronized
  have hS : va_S (fun _ : Nat => False) s.heap s.heap [] := va_S.rf
  have hiX8 : ∀ w ∈ u_ws RX8 TX8 17, w ∈ wsX8_isOpen := by decide +kernel
  have hl := lv_entry ([.ref mo, .int (nI q), .int p2, .int p3, .int p4]) (n := 10) (Nat.le_of_ble_eq_true rfl)
  rw [lg_entry_eq]
  generalize (lg_sl ([.ref mo, .int (nI q), .int p2, .int p3, .int p4]) ++ List.replicate (10 - (lg_sl ([.ref mo, .int (nI q), .int p2, .int p3, .int p4])).length) Slot.unset).toArray = ls at hl ⊢
  have hl : lv_has ls 10 [(0, .ref mo), (1, .int (nI q)), (2, .int p2), (3, .int p3), (4, .int p4)] := hl
  refine lv_iconst (v := 1) hx hb dX8_isOpen_0 (by decide +kernel) ?_
  refine lv_istore (lv' := [(5, .int 1), (0, .ref mo), (1, .int (nI q)), (2, .int p2), (3, .int p3), (4, .int p4)]) hx hb dX8_isOpen_1 hl (by decide) rfl (fun ls hl => ?_)
  refine mz_loopU (fun k H locs ls => ∃ (i_3 : Nat), i_3 ≤ 9 ∧ (1 ≤ i_3) ∧ (∀ k, 0 < k → k < i_3 → mz_opn (mz_pwo fp p3 p4) p2 (mz_Mm n (mz_pwo fp p3 p4) p2) V k) ∧ H = s.heap ∧ va_S (fun _ : Nat => False) s.heap H locs ∧ lv_has ls 10 [(5, .int (nI i_3)), (0, .ref mo), (1, .int (nI q)), (2, .int p2), (3, .int p3), (4, .int p4)] ∧ k = 9 - i_3) ?_ _ _ _ _ ⟨1, by omega, (by first | assumption | omega), (fun k k0 k1 => absurd k0 (by omega)), rfl, hS, lv_sub hl [0, 1, 2, 3, 4, 5] rfl, rfl⟩
  intro k_3 H locs ls hI_3 ih_3
  obtain ⟨i_3, hi_3, h1_3, ho_3, hH_3, hS, hl, hk_3⟩ := hI_3
  subst hH_3
  refine lv_iload hx hb dX8_isOpen_3 (lv_at hl 0 rfl) ?_
  refine lv_iconst (v := 1) hx hb dX8_isOpen_5 (by decide +kernel) ?_
  refine lv_iadd hx hb dX8_isOpen_6 ?_
  refine mz_ti (y := (nI (i_3 + 1))) (nI_add _ _) ?_
  refine lv_iload_n hx hb dX8_isOpen_7 rfl (lv_at hl 2 rfl) ?_
  refine lv_icmp_ge (tgt := 143) hx hb dX8_isOpen_8 (by decide) (fun c_8 => ?_) (fun c_8 => ?_)
  · skip
    have d_8 : q ≤ i_3 + 1 := (nI_leI (a := q) (b := i_3 + 1) (by omega) (by omega)).mp c_8
    refine lv_iconst (v := 1) hx hb dX8_isOpen_143 (by decide +kernel) ?_
    refine W.widen (k := 0) (n := 0) (Nat.le_of_ble_eq_true rfl) (Nat.le_of_ble_eq_true rfl) ?_
    exact W.zret (v := 1) hx hb hr (mz_nz (by decide +kernel)) (fun t ht hW => ⟨⟨1, (), rfl, Or.inl ⟨rfl, fun k k0 k1 => ho_3 k k0 (by omega)⟩, ht⟩, hS.F ht⟩) hS.2.2 dX8_isOpen_144
  · skip
    have d_8 : ¬ q ≤ i_3 + 1 := fun h => c_8 ((nI_leI (a := q) (b := i_3 + 1) (by omega) (by omega)).mpr h)
    refine lv_aload_n hx hb dX8_isOpen_11 rfl (lv_at hl 1 rfl) ?_
    refine va_get (D := (dC, dI)) (ci := 8) (v := .ref m6) (C := RX8) (T := TX8) (N := 17) hx hb hts hiX8 hown hK hP 0 rfl rfl 6 (by decide) (hts (.fieldLink RX8 24 "MadeItSoModel" "way" "[I") (by decide +kernel)) (fun _ h9 => h9) rfl dX8_isOpen_12 ?_
    refine lv_iload hx hb dX8_isOpen_15 (lv_at hl 0 rfl) ?_
    refine va_iald hx hb hK hP 2 0 rfl rfl (vp_in_nI (by omega) (by omega)) dX8_isOpen_17 ?_
    refine mz_ti (y := (fw i_3)) (by rw [mz_cl (by omega)]) ?_
    have hV_a := hV (i_3) (by omega)
    have hVn_a := hV_a.2
    refine mz_ti (y := (nI (V (i_3)))) hV_a.1 ?_
    refine lv_istore (lv' := [(6, .int (nI (V (i_3)))), (5, .int (nI i_3)), (0, .ref mo), (1, .int (nI q)), (2, .int p2), (3, .int p3), (4, .int p4)]) hx hb dX8_isOpen_18 hl (by decide) rfl (fun ls hl => ?_)
    refine lv_aload_n hx hb dX8_isOpen_20 rfl (lv_at hl 2 rfl) ?_
    refine lv_aload_n hx hb dX8_isOpen_21 rfl (lv_at hl 2 rfl) ?_
    refine va_get (D := (dC, dI)) (ci := 8) (v := .ref m6) (C := RX8) (T := TX8) (N := 17) hx hb hts hiX8 hown hK hP 0 rfl rfl 6 (by decide) (hts (.fieldLink RX8 24 "MadeItSoModel" "way" "[I") (by decide +kernel)) (fun _ h9 => h9) rfl dX8_isOpen_22 ?_
    refine lv_iload hx hb dX8_isOpen_25 (lv_at hl 1 rfl) ?_
    refine lv_iconst (v := 1) hx hb dX8_isOpen_27 (by decide +kernel) ?_
    refine lv_isub hx hb dX8_isOpen_28 ?_
    refine mz_ti (y := (nI (i_3 - 1))) (pk_sub (by omega)) ?_
    refine va_iald hx hb hK hP 2 0 rfl rfl (vp_in_nI (by omega) (by omega)) dX8_isOpen_29 ?_
    refine mz_ti (y := (fw (i_3 - 1))) (by rw [mz_cl (by omega)]) ?_
    have hV_b := hV (i_3 - 1) (by omega)
    have hVn_b := hV_b.2
    refine mz_ti (y := (nI (V (i_3 - 1)))) hV_b.1 ?_
    refine lv_iload hx hb dX8_isOpen_30 (lv_at hl 0 rfl) ?_
    refine lv_iload_n hx hb dX8_isOpen_32 rfl (lv_at hl 5 rfl) ?_
    refine lv_iload hx hb dX8_isOpen_33 (lv_at hl 6 rfl) ?_
    have hPc := hP.sub (ws' := [(mo, .inr (8, [.int (nI n), .ref m1, .ref m2, .ref m3, .long ka, .long kb, .ref m6, .ref m7, .ref m8, .ref m9, .ref m10, .ref m11, .ref m12, .ref m13, .ref m14, .ref m15, .ref m16])), (m2, .inl (cI, 8, .inl fp))]) [0, 1] rfl
    refine va_calli (va_runV (As := [.int (nI (V (i_3 - 1))), .int (nI (V (i_3))), .int p3, .int p4]) (rest := []) ⟨hx, hb, hml, hown, hts⟩ (mz_s_m_isArrow l dC dI cI cJ cZ mo m1 m2 m3 m6 m7 m8 m9 m10 m11 m12 m13 m14 m15 m16 n ka kb fp (V (i_3 - 1)) (V (i_3)) p3 p4 s.heap (by first | assumption | omega) (by first | assumption | omega)) (cwV 4 hts gX8_isOpen_X8_isArrow rfl rfl rfl (by decide +kernel) ⟨Nat.le_of_ble_eq_true rfl, Nat.le_of_ble_eq_true rfl⟩) ⟨fun a U g mk q => mz_blP q, va_recv hK hPc (ci := 8) (q0 := 0) rfl rfl, fun U hU hW => ⟨rfl, hU, hPc, va_K.moved hW.alike hK, mz_nw hW hN⟩⟩ rfl rfl hl.1 rfl (lv_room (Nat.le_of_ble_eq_true rfl)) dX8_isOpen_35 ⟨Nat.le_of_ble_eq_true rfl, Nat.le_of_ble_eq_true rfl⟩) hS (fun q _ h => h.elim) (fun q h => h.elim) (fun r_35 u t H1 locs ht hvm hw_35 hB hz1 hk1 hS => ?_)
    have hE : s.heap = H1 := hB.symm.trans ht
    subst hE
    rcases (show (r_35 = 1 ∧ mz_ar (mz_pwo fp p3 p4) (V (i_3 - 1)) (V (i_3)) = true) ∨ (r_35 = 0 ∧ mz_ar (mz_pwo fp p3 p4) (V (i_3 - 1)) (V (i_3)) = false) from hw_35) with ⟨rfl, ht_35⟩ | ⟨rfl, ht_35⟩
    · skip
      refine lv_if_eq (tgt := 66) hx hb dX8_isOpen_38 (by decide) (fun c_38 => absurd c_38 (by decide +kernel)) (fun _ => ?_)
      refine lv_aload_n hx hb dX8_isOpen_41 rfl (lv_at hl 2 rfl) ?_
      refine lv_aload_n hx hb dX8_isOpen_42 rfl (lv_at hl 2 rfl) ?_
      refine va_get (D := (dC, dI)) (ci := 8) (v := .ref m6) (C := RX8) (T := TX8) (N := 17) hx hb hts hiX8 hown hK hP 0 rfl rfl 6 (by decide) (hts (.fieldLink RX8 24 "MadeItSoModel" "way" "[I") (by decide +kernel)) (fun _ h9 => h9) rfl dX8_isOpen_43 ?_
      refine lv_iload hx hb dX8_isOpen_46 (lv_at hl 1 rfl) ?_
      refine lv_iconst (v := 1) hx hb dX8_isOpen_48 (by decide +kernel) ?_
      refine lv_iadd hx hb dX8_isOpen_49 ?_
      refine mz_ti (y := (nI (i_3 + 1))) (nI_add _ _) ?_
      refine va_iald hx hb hK hP 2 0 rfl rfl (vp_in_nI (by omega) (by omega)) dX8_isOpen_50 ?_
      refine mz_ti (y := (fw (i_3 + 1))) (by rw [mz_cl (by omega)]) ?_
      have hV_c := hV (i_3 + 1) (by omega)
      have hVn_c := hV_c.2
      refine mz_ti (y := (nI (V (i_3 + 1)))) hV_c.1 ?_
      refine lv_iload hx hb dX8_isOpen_51 (lv_at hl 0 rfl) ?_
      refine lv_iload_n hx hb dX8_isOpen_53 rfl (lv_at hl 5 rfl) ?_
      refine lv_iload hx hb dX8_isOpen_54 (lv_at hl 6 rfl) ?_
      have hPc := hP.sub (ws' := [(mo, .inr (8, [.int (nI n), .ref m1, .ref m2, .ref m3, .long ka, .long kb, .ref m6, .ref m7, .ref m8, .ref m9, .ref m10, .ref m11, .ref m12, .ref m13, .ref m14, .ref m15, .ref m16])), (m2, .inl (cI, 8, .inl fp))]) [0, 1] rfl
      refine va_calli (va_runV (As := [.int (nI (V (i_3 + 1))), .int (nI (V (i_3))), .int p3, .int p4]) (rest := []) ⟨hx, hb, hml, hown, hts⟩ (mz_s_m_isArrow l dC dI cI cJ cZ mo m1 m2 m3 m6 m7 m8 m9 m10 m11 m12 m13 m14 m15 m16 n ka kb fp (V (i_3 + 1)) (V (i_3)) p3 p4 s.heap (by first | assumption | omega) (by first | assumption | omega)) (cwV 4 hts gX8_isOpen_X8_isArrow rfl rfl rfl (by decide +kernel) ⟨Nat.le_of_ble_eq_true rfl, Nat.le_of_ble_eq_true rfl⟩) ⟨fun a U g mk q => mz_blP q, va_recv hK hPc (ci := 8) (q0 := 0) rfl rfl, fun U hU hW => ⟨rfl, hU, hPc, va_K.moved hW.alike hK, mz_nw hW hN⟩⟩ rfl rfl hl.1 rfl (lv_room (Nat.le_of_ble_eq_true rfl)) dX8_isOpen_56 ⟨Nat.le_of_ble_eq_true rfl, Nat.le_of_ble_eq_true rfl⟩) hS (fun q _ h => h.elim) (fun q h => h.elim) (fun r_56 u t H1 locs ht hvm hw_56 hB hz1 hk1 hS => ?_)
      have hE : s.heap = H1 := hB.symm.trans ht
      subst hE
      rcases (show (r_56 = 1 ∧ mz_ar (mz_pwo fp p3 p4) (V (i_3 + 1)) (V (i_3)) = true) ∨ (r_56 = 0 ∧ mz_ar (mz_pwo fp p3 p4) (V (i_3 + 1)) (V (i_3)) = false) from hw_56) with ⟨rfl, ht_56⟩ | ⟨rfl, ht_56⟩
      · skip
        refine lv_if_eq (tgt := 66) hx hb dX8_isOpen_59 (by decide) (fun c_59 => absurd c_59 (by decide +kernel)) (fun _ => ?_)
        refine lv_iconst (v := 1) hx hb dX8_isOpen_62 (by decide +kernel) ?_
        refine lv_goto (tgt := 67) hx hb dX8_isOpen_63 (by decide) ?_
        refine lv_istore (lv' := [(7, .int 1), (6, .int (nI (V (i_3)))), (5, .int (nI i_3)), (0, .ref mo), (1, .int (nI q)), (2, .int p2), (3, .int p3), (4, .int p4)]) hx hb dX8_isOpen_67 hl (by decide) rfl (fun ls hl => ?_)
        refine lv_iload_n hx hb dX8_isOpen_69 rfl (lv_at hl 5 rfl) ?_
        refine lv_iload hx hb dX8_isOpen_70 (lv_at hl 1 rfl) ?_
        refine lv_ishr hx hb dX8_isOpen_72 ?_
        refine lv_iconst (v := 1) hx hb dX8_isOpen_73 (by decide +kernel) ?_
        refine lv_iand hx hb dX8_isOpen_74 ?_
        refine lv_iconst (v := 1) hx hb dX8_isOpen_75 (by decide +kernel) ?_
        refine lv_icmp_ne (tgt := 83) hx hb dX8_isOpen_76 (by decide) (fun c_76 => ?_) (fun c_76 => ?_)
        · skip
          refine lv_iconst (v := 0) hx hb dX8_isOpen_83 (by decide +kernel) ?_
          refine lv_istore (lv' := [(8, .int 0), (7, .int 1), (6, .int (nI (V (i_3)))), (5, .int (nI i_3)), (0, .ref mo), (1, .int (nI q)), (2, .int p2), (3, .int p3), (4, .int p4)]) hx hb dX8_isOpen_84 hl (by decide) rfl (fun ls hl => ?_)
          refine lv_iload hx hb dX8_isOpen_86 (lv_at hl 1 rfl) ?_
          refine lv_if_eq (tgt := 118) hx hb dX8_isOpen_88 (by decide) (fun c_88 => absurd c_88 (by decide +kernel)) (fun _ => ?_)
          refine lv_iload hx hb dX8_isOpen_91 (lv_at hl 0 rfl) ?_
          refine lv_if_ne (tgt := 110) hx hb dX8_isOpen_93 (by decide) (fun c_93 => absurd (by decide +kernel) c_93) (fun _ => ?_)
          refine lv_aload_n hx hb dX8_isOpen_96 rfl (lv_at hl 4 rfl) ?_
          refine lv_iload hx hb dX8_isOpen_97 (lv_at hl 2 rfl) ?_
          refine lv_iload_n hx hb dX8_isOpen_99 rfl (lv_at hl 7 rfl) ?_
          refine lv_iload hx hb dX8_isOpen_100 (lv_at hl 8 rfl) ?_
          have hPc := hP.sub (ws' := [(mo, .inr (8, [.int (nI n), .ref m1, .ref m2, .ref m3, .long ka, .long kb, .ref m6, .ref m7, .ref m8, .ref m9, .ref m10, .ref m11, .ref m12, .ref m13, .ref m14, .ref m15, .ref m16])), (m2, .inl (cI, 8, .inl fp))]) [0, 1] rfl
          refine va_calli (va_runV (As := [.int (nI (V (i_3))), .int p3, .int p4]) (rest := []) ⟨hx, hb, hml, hown, hts⟩ (mz_s_m_belowWithout l dC dI cI cJ cZ mo m1 m2 m3 m6 m7 m8 m9 m10 m11 m12 m13 m14 m15 m16 n ka kb fp (V (i_3)) p3 p4 s.heap (by first | assumption | omega) (by first | assumption | omega) (by first | assumption | omega)) (cwV 3 hts gX8_isOpen_X8_belowWithout rfl rfl rfl (by decide +kernel) ⟨Nat.le_of_ble_eq_true rfl, Nat.le_of_ble_eq_true rfl⟩) ⟨fun a U g mk q => mz_blP q, va_recv hK hPc (ci := 8) (q0 := 0) rfl rfl, fun U hU hW => ⟨rfl, hU, hPc, va_K.moved hW.alike hK, mz_nw hW hN⟩⟩ rfl rfl hl.1 rfl (lv_room (Nat.le_of_ble_eq_true rfl)) dX8_isOpen_102 ⟨Nat.le_of_ble_eq_true rfl, Nat.le_of_ble_eq_true rfl⟩) hS (fun q _ h => h.elim) (fun q h => h.elim) (fun r_102 u t H1 locs ht hvm hw_102 hB hz1 hk1 hS => ?_)
          have hE : s.heap = H1 := hB.symm.trans ht
          subst hE
          refine lv_iload_n hx hb dX8_isOpen_105 rfl (lv_at hl 6 rfl) ?_
          refine lv_iand hx hb dX8_isOpen_106 ?_
          refine lv_if_eq (tgt := 114) hx hb dX8_isOpen_107 (by decide) (fun c_107 => ?_) (fun c_107 => ?_)
          · skip
            refine lv_iconst (v := 0) hx hb dX8_isOpen_114 (by decide +kernel) ?_
            refine lv_goto (tgt := 128) hx hb dX8_isOpen_115 (by decide) ?_
            refine lv_istore (lv' := [(9, .int 0), (8, .int 0), (7, .int 1), (6, .int (nI (V (i_3)))), (5, .int (nI i_3)), (0, .ref mo), (1, .int (nI q)), (2, .int p2), (3, .int p3), (4, .int p4)]) hx hb dX8_isOpen_128 hl (by decide) rfl (fun ls hl => ?_)
            refine lv_iload hx hb dX8_isOpen_130 (lv_at hl 0 rfl) ?_
            refine lv_if_ne (tgt := 137) hx hb dX8_isOpen_132 (by decide) (fun c_132 => absurd (by decide +kernel) c_132) (fun _ => ?_)
            refine lv_iconst (v := 0) hx hb dX8_isOpen_135 (by decide +kernel) ?_
            refine W.widen (k := 0) (n := 0) (Nat.le_of_ble_eq_true rfl) (Nat.le_of_ble_eq_true rfl) ?_
            exact W.zret (v := 0) hx hb hr (mz_nz (by decide +kernel)) (fun t ht hW => ⟨⟨0, (), rfl, Or.inr ⟨rfl, fun h => (mz_opn_mn ht_35 ht_56 (mz_Mm_n hn hw_102 (mz_t_n (by omega) c_76) c_107)) (h i_3 (by omega) (by omega))⟩, ht⟩, hS.F ht⟩) hS.2.2 dX8_isOpen_136
          · skip
            refine lv_iconst (v := 1) hx hb dX8_isOpen_110 (by decide +kernel) ?_
            refine lv_goto (tgt := 128) hx hb dX8_isOpen_111 (by decide) ?_
            refine lv_istore (lv' := [(9, .int 1), (8, .int 0), (7, .int 1), (6, .int (nI (V (i_3)))), (5, .int (nI i_3)), (0, .ref mo), (1, .int (nI q)), (2, .int p2), (3, .int p3), (4, .int p4)]) hx hb dX8_isOpen_128 hl (by decide) rfl (fun ls hl => ?_)
            refine lv_iload hx hb dX8_isOpen_130 (lv_at hl 0 rfl) ?_
            refine lv_if_ne (tgt := 137) hx hb dX8_isOpen_132 (by decide) (fun _ => ?_) (fun c_132 => absurd c_132 (by decide +kernel))
            refine lv_iinc (v := (nI (i_3 + 1))) (lv' := [(5, .int (nI (i_3 + 1))), (9, .int 1), (8, .int 0), (7, .int 1), (6, .int (nI (V (i_3)))), (0, .ref mo), (1, .int (nI q)), (2, .int p2), (3, .int p3), (4, .int p4)]) hx hb dX8_isOpen_137 hl (k := 4) rfl (nI_1 _) (by decide) rfl (fun ls hl => ?_)
            refine lv_goto (tgt := 3) hx hb dX8_isOpen_140 (by decide) ?_
            exact ih_3 _ (by omega) _ _ _ ⟨(i_3 + 1), by omega, (by first | assumption | omega), (mz_opn_s ho_3 (mz_opn_my ht_35 ht_56 (mz_Mm_y hw_102 c_107))), rfl, hS, lv_sub hl [0, 5, 6, 7, 8, 9] rfl, rfl⟩
        · skip
          refine lv_iconst (v := 1) hx hb dX8_isOpen_79 (by decide +kernel) ?_
          refine lv_goto (tgt := 84) hx hb dX8_isOpen_80 (by decide) ?_
          refine lv_istore (lv' := [(8, .int 1), (7, .int 1), (6, .int (nI (V (i_3)))), (5, .int (nI i_3)), (0, .ref mo), (1, .int (nI q)), (2, .int p2), (3, .int p3), (4, .int p4)]) hx hb dX8_isOpen_84 hl (by decide) rfl (fun ls hl => ?_)
          refine lv_iload hx hb dX8_isOpen_86 (lv_at hl 1 rfl) ?_
          refine lv_if_eq (tgt := 118) hx hb dX8_isOpen_88 (by decide) (fun c_88 => absurd c_88 (by decide +kernel)) (fun _ => ?_)
          refine lv_iload hx hb dX8_isOpen_91 (lv_at hl 0 rfl) ?_
          refine lv_if_ne (tgt := 110) hx hb dX8_isOpen_93 (by decide) (fun _ => ?_) (fun c_93 => absurd c_93 (by decide +kernel))
          refine lv_iconst (v := 1) hx hb dX8_isOpen_110 (by decide +kernel) ?_
          refine lv_goto (tgt := 128) hx hb dX8_isOpen_111 (by decide) ?_
          refine lv_istore (lv' := [(9, .int 1), (8, .int 1), (7, .int 1), (6, .int (nI (V (i_3)))), (5, .int (nI i_3)), (0, .ref mo), (1, .int (nI q)), (2, .int p2), (3, .int p3), (4, .int p4)]) hx hb dX8_isOpen_128 hl (by decide) rfl (fun ls hl => ?_)
          refine lv_iload hx hb dX8_isOpen_130 (lv_at hl 0 rfl) ?_
          refine lv_if_ne (tgt := 137) hx hb dX8_isOpen_132 (by decide) (fun _ => ?_) (fun c_132 => absurd c_132 (by decide +kernel))
          refine lv_iinc (v := (nI (i_3 + 1))) (lv' := [(5, .int (nI (i_3 + 1))), (9, .int 1), (8, .int 1), (7, .int 1), (6, .int (nI (V (i_3)))), (0, .ref mo), (1, .int (nI q)), (2, .int p2), (3, .int p3), (4, .int p4)]) hx hb dX8_isOpen_137 hl (k := 4) rfl (nI_1 _) (by decide) rfl (fun ls hl => ?_)
          refine lv_goto (tgt := 3) hx hb dX8_isOpen_140 (by decide) ?_
          exact ih_3 _ (by omega) _ _ _ ⟨(i_3 + 1), by omega, (by first | assumption | omega), (mz_opn_s ho_3 (mz_opn_my ht_35 ht_56 (Or.inl (mz_t_y (by omega) c_76)))), rfl, hS, lv_sub hl [0, 5, 6, 7, 8, 9] rfl, rfl⟩
      · skip
        refine lv_if_eq (tgt := 66) hx hb dX8_isOpen_59 (by decide) (fun _ => ?_) (fun c_59 => absurd (by decide +kernel) c_59)
        refine lv_iconst (v := 0) hx hb dX8_isOpen_66 (by decide +kernel) ?_
        refine lv_istore (lv' := [(7, .int 0), (6, .int (nI (V (i_3)))), (5, .int (nI i_3)), (0, .ref mo), (1, .int (nI q)), (2, .int p2), (3, .int p3), (4, .int p4)]) hx hb dX8_isOpen_67 hl (by decide) rfl (fun ls hl => ?_)
        refine lv_iload_n hx hb dX8_isOpen_69 rfl (lv_at hl 5 rfl) ?_
        refine lv_iload hx hb dX8_isOpen_70 (lv_at hl 1 rfl) ?_
        refine lv_ishr hx hb dX8_isOpen_72 ?_
        refine lv_iconst (v := 1) hx hb dX8_isOpen_73 (by decide +kernel) ?_
        refine lv_iand hx hb dX8_isOpen_74 ?_
        refine lv_iconst (v := 1) hx hb dX8_isOpen_75 (by decide +kernel) ?_
        refine lv_icmp_ne (tgt := 83) hx hb dX8_isOpen_76 (by decide) (fun c_76 => ?_) (fun c_76 => ?_)
        · skip
          refine lv_iconst (v := 0) hx hb dX8_isOpen_83 (by decide +kernel) ?_
          refine lv_istore (lv' := [(8, .int 0), (7, .int 0), (6, .int (nI (V (i_3)))), (5, .int (nI i_3)), (0, .ref mo), (1, .int (nI q)), (2, .int p2), (3, .int p3), (4, .int p4)]) hx hb dX8_isOpen_84 hl (by decide) rfl (fun ls hl => ?_)
          refine lv_iload hx hb dX8_isOpen_86 (lv_at hl 1 rfl) ?_
          refine lv_if_eq (tgt := 118) hx hb dX8_isOpen_88 (by decide) (fun _ => ?_) (fun c_88 => absurd (by decide +kernel) c_88)
          refine lv_iload hx hb dX8_isOpen_118 (lv_at hl 0 rfl) ?_
          refine lv_if_ne (tgt := 127) hx hb dX8_isOpen_120 (by decide) (fun c_120 => absurd (by decide +kernel) c_120) (fun _ => ?_)
          refine lv_iconst (v := 1) hx hb dX8_isOpen_123 (by decide +kernel) ?_
          refine lv_goto (tgt := 128) hx hb dX8_isOpen_124 (by decide) ?_
          refine lv_istore (lv' := [(9, .int 1), (8, .int 0), (7, .int 0), (6, .int (nI (V (i_3)))), (5, .int (nI i_3)), (0, .ref mo), (1, .int (nI q)), (2, .int p2), (3, .int p3), (4, .int p4)]) hx hb dX8_isOpen_128 hl (by decide) rfl (fun ls hl => ?_)
          refine lv_iload hx hb dX8_isOpen_130 (lv_at hl 0 rfl) ?_
          refine lv_if_ne (tgt := 137) hx hb dX8_isOpen_132 (by decide) (fun _ => ?_) (fun c_132 => absurd c_132 (by decide +kernel))
          refine lv_iinc (v := (nI (i_3 + 1))) (lv' := [(5, .int (nI (i_3 + 1))), (9, .int 1), (8, .int 0), (7, .int 0), (6, .int (nI (V (i_3)))), (0, .ref mo), (1, .int (nI q)), (2, .int p2), (3, .int p3), (4, .int p4)]) hx hb dX8_isOpen_137 hl (k := 4) rfl (nI_1 _) (by decide) rfl (fun ls hl => ?_)
          refine lv_goto (tgt := 3) hx hb dX8_isOpen_140 (by decide) ?_
          exact ih_3 _ (by omega) _ _ _ ⟨(i_3 + 1), by omega, (by first | assumption | omega), (mz_opn_s ho_3 (mz_opn_ny (Or.inr ht_56) (mz_t_n (by omega) c_76))), rfl, hS, lv_sub hl [0, 5, 6, 7, 8, 9] rfl, rfl⟩
        · skip
          refine lv_iconst (v := 1) hx hb dX8_isOpen_79 (by decide +kernel) ?_
          refine lv_goto (tgt := 84) hx hb dX8_isOpen_80 (by decide) ?_
          refine lv_istore (lv' := [(8, .int 1), (7, .int 0), (6, .int (nI (V (i_3)))), (5, .int (nI i_3)), (0, .ref mo), (1, .int (nI q)), (2, .int p2), (3, .int p3), (4, .int p4)]) hx hb dX8_isOpen_84 hl (by decide) rfl (fun ls hl => ?_)
          refine lv_iload hx hb dX8_isOpen_86 (lv_at hl 1 rfl) ?_
          refine lv_if_eq (tgt := 118) hx hb dX8_isOpen_88 (by decide) (fun _ => ?_) (fun c_88 => absurd (by decide +kernel) c_88)
          refine lv_iload hx hb dX8_isOpen_118 (lv_at hl 0 rfl) ?_
          refine lv_if_ne (tgt := 127) hx hb dX8_isOpen_120 (by decide) (fun _ => ?_) (fun c_120 => absurd c_120 (by decide +kernel))
          refine lv_iconst (v := 0) hx hb dX8_isOpen_127 (by decide +kernel) ?_
          refine lv_istore (lv' := [(9, .int 0), (8, .int 1), (7, .int 0), (6, .int (nI (V (i_3)))), (5, .int (nI i_3)), (0, .ref mo), (1, .int (nI q)), (2, .int p2), (3, .int p3), (4, .int p4)]) hx hb dX8_isOpen_128 hl (by decide) rfl (fun ls hl => ?_)
          refine lv_iload hx hb dX8_isOpen_130 (lv_at hl 0 rfl) ?_
          refine lv_if_ne (tgt := 137) hx hb dX8_isOpen_132 (by decide) (fun c_132 => absurd (by decide +kernel) c_132) (fun _ => ?_)
          refine lv_iconst (v := 0) hx hb dX8_isOpen_135 (by decide +kernel) ?_
          refine W.widen (k := 0) (n := 0) (Nat.le_of_ble_eq_true rfl) (Nat.le_of_ble_eq_true rfl) ?_
          exact W.zret (v := 0) hx hb hr (mz_nz (by decide +kernel)) (fun t ht hW => ⟨⟨0, (), rfl, Or.inr ⟨rfl, fun h => (mz_opn_nn (Or.inr ht_56) (mz_t_y (by omega) c_76)) (h i_3 (by omega) (by omega))⟩, ht⟩, hS.F ht⟩) hS.2.2 dX8_isOpen_136
    · skip
      refine lv_if_eq (tgt := 66) hx hb dX8_isOpen_38 (by decide) (fun _ => ?_) (fun c_38 => absurd (by decide +kernel) c_38)
      refine lv_iconst (v := 0) hx hb dX8_isOpen_66 (by decide +kernel) ?_
      refine lv_istore (lv' := [(7, .int 0), (6, .int (nI (V (i_3)))), (5, .int (nI i_3)), (0, .ref mo), (1, .int (nI q)), (2, .int p2), (3, .int p3), (4, .int p4)]) hx hb dX8_isOpen_67 hl (by decide) rfl (fun ls hl => ?_)
      refine lv_iload_n hx hb dX8_isOpen_69 rfl (lv_at hl 5 rfl) ?_
      refine lv_iload hx hb dX8_isOpen_70 (lv_at hl 1 rfl) ?_
      refine lv_ishr hx hb dX8_isOpen_72 ?_
      refine lv_iconst (v := 1) hx hb dX8_isOpen_73 (by decide +kernel) ?_
      refine lv_iand hx hb dX8_isOpen_74 ?_
      refine lv_iconst (v := 1) hx hb dX8_isOpen_75 (by decide +kernel) ?_
      refine lv_icmp_ne (tgt := 83) hx hb dX8_isOpen_76 (by decide) (fun c_76 => ?_) (fun c_76 => ?_)
      · skip
        refine lv_iconst (v := 0) hx hb dX8_isOpen_83 (by decide +kernel) ?_
        refine lv_istore (lv' := [(8, .int 0), (7, .int 0), (6, .int (nI (V (i_3)))), (5, .int (nI i_3)), (0, .ref mo), (1, .int (nI q)), (2, .int p2), (3, .int p3), (4, .int p4)]) hx hb dX8_isOpen_84 hl (by decide) rfl (fun ls hl => ?_)
        refine lv_iload hx hb dX8_isOpen_86 (lv_at hl 1 rfl) ?_
        refine lv_if_eq (tgt := 118) hx hb dX8_isOpen_88 (by decide) (fun _ => ?_) (fun c_88 => absurd (by decide +kernel) c_88)
        refine lv_iload hx hb dX8_isOpen_118 (lv_at hl 0 rfl) ?_
        refine lv_if_ne (tgt := 127) hx hb dX8_isOpen_120 (by decide) (fun c_120 => absurd (by decide +kernel) c_120) (fun _ => ?_)
        refine lv_iconst (v := 1) hx hb dX8_isOpen_123 (by decide +kernel) ?_
        refine lv_goto (tgt := 128) hx hb dX8_isOpen_124 (by decide) ?_
        refine lv_istore (lv' := [(9, .int 1), (8, .int 0), (7, .int 0), (6, .int (nI (V (i_3)))), (5, .int (nI i_3)), (0, .ref mo), (1, .int (nI q)), (2, .int p2), (3, .int p3), (4, .int p4)]) hx hb dX8_isOpen_128 hl (by decide) rfl (fun ls hl => ?_)
        refine lv_iload hx hb dX8_isOpen_130 (lv_at hl 0 rfl) ?_
        refine lv_if_ne (tgt := 137) hx hb dX8_isOpen_132 (by decide) (fun _ => ?_) (fun c_132 => absurd c_132 (by decide +kernel))
        refine lv_iinc (v := (nI (i_3 + 1))) (lv' := [(5, .int (nI (i_3 + 1))), (9, .int 1), (8, .int 0), (7, .int 0), (6, .int (nI (V (i_3)))), (0, .ref mo), (1, .int (nI q)), (2, .int p2), (3, .int p3), (4, .int p4)]) hx hb dX8_isOpen_137 hl (k := 4) rfl (nI_1 _) (by decide) rfl (fun ls hl => ?_)
        refine lv_goto (tgt := 3) hx hb dX8_isOpen_140 (by decide) ?_
        exact ih_3 _ (by omega) _ _ _ ⟨(i_3 + 1), by omega, (by first | assumption | omega), (mz_opn_s ho_3 (mz_opn_ny (Or.inl ht_35) (mz_t_n (by omega) c_76))), rfl, hS, lv_sub hl [0, 5, 6, 7, 8, 9] rfl, rfl⟩
      · skip
        refine lv_iconst (v := 1) hx hb dX8_isOpen_79 (by decide +kernel) ?_
        refine lv_goto (tgt := 84) hx hb dX8_isOpen_80 (by decide) ?_
        refine lv_istore (lv' := [(8, .int 1), (7, .int 0), (6, .int (nI (V (i_3)))), (5, .int (nI i_3)), (0, .ref mo), (1, .int (nI q)), (2, .int p2), (3, .int p3), (4, .int p4)]) hx hb dX8_isOpen_84 hl (by decide) rfl (fun ls hl => ?_)
        refine lv_iload hx hb dX8_isOpen_86 (lv_at hl 1 rfl) ?_
        refine lv_if_eq (tgt := 118) hx hb dX8_isOpen_88 (by decide) (fun _ => ?_) (fun c_88 => absurd (by decide +kernel) c_88)
        refine lv_iload hx hb dX8_isOpen_118 (lv_at hl 0 rfl) ?_
        refine lv_if_ne (tgt := 127) hx hb dX8_isOpen_120 (by decide) (fun _ => ?_) (fun c_120 => absurd c_120 (by decide +kernel))
        refine lv_iconst (v := 0) hx hb dX8_isOpen_127 (by decide +kernel) ?_
        refine lv_istore (lv' := [(9, .int 0), (8, .int 1), (7, .int 0), (6, .int (nI (V (i_3)))), (5, .int (nI i_3)), (0, .ref mo), (1, .int (nI q)), (2, .int p2), (3, .int p3), (4, .int p4)]) hx hb dX8_isOpen_128 hl (by decide) rfl (fun ls hl => ?_)
        refine lv_iload hx hb dX8_isOpen_130 (lv_at hl 0 rfl) ?_
        refine lv_if_ne (tgt := 137) hx hb dX8_isOpen_132 (by decide) (fun c_132 => absurd (by decide +kernel) c_132) (fun _ => ?_)
        refine lv_iconst (v := 0) hx hb dX8_isOpen_135 (by decide +kernel) ?_
        refine W.widen (k := 0) (n := 0) (Nat.le_of_ble_eq_true rfl) (Nat.le_of_ble_eq_true rfl) ?_
        exact W.zret (v := 0) hx hb hr (mz_nz (by decide +kernel)) (fun t ht hW => ⟨⟨0, (), rfl, Or.inr ⟨rfl, fun h => (mz_opn_nn (Or.inl ht_35) (mz_t_y (by omega) c_76)) (h i_3 (by omega) (by omega))⟩, ht⟩, hS.F ht⟩) hS.2.2 dX8_isOpen_136
set_option maxHeartbeats 1000000 in
set_option maxRecDepth 100000 in
theorem mz_s_m_joins (l : Launch) (dC : Nat → ClassId) (dI : Nat → Nat → Nat) (cI cJ cZ : ClassId) (mo : Nat) (m1 : Nat) (m2 : Nat) (m3 : Nat) (m6 : Nat) (m7 : Nat) (m8 : Nat) (m9 : Nat) (m10 : Nat) (m11 : Nat) (m12 : Nat) (m13 : Nat) (m14 : Nat) (m15 : Nat) (m16 : Nat) (n : Nat) (ka : Int64) (kb : Int64) (fp : Nat → Int32) (fw : Nat → Int32) (ft : Nat → Int32) (i0 : Nat) (jy : Nat) (p3 : Int32) (p4 : Int32) (p5 : Int32) (sz : Nat) (hn : n ≤ 8) (hi0 : i0 < n) (hjy : jy < n) (hij : ¬ i0 = jy) (hgw : ∀ k, k < n → ∀ j, j < 32 → mz_t (mz_pwo fp p4 p5 k) j = true → j < n) : Met l yX8_joins wsX8_joins ({ frames := 3, cells := 0, slots := 0, locals := 79 }) (va_Pc [.ref mo, .int (nI i0), .int (nI jy), .int p3, .int p4, .int p5] (fun U => U.heap.size = sz ∧ va_P (dC, dI) vwCl [(mo, .inr (8, [.int (nI n), .ref m1, .ref m2, .ref m3, .long ka, .long kb, .ref m6, .ref m7, .ref m8, .ref m9, .ref m10, .ref m11, .ref m12, .ref m13, .ref m14, .ref m15, .ref m16])), (m2, .inl (cI, 8, .inl fp)), (m6, .inl (cI, 8, .inl fw)), (m7, .inl (cI, 9, .inl ft))] U.heap ∧ va_K (dC, dI) vwCl [(cI, FieldType.int), (cJ, FieldType.long), (cZ, FieldType.boolean)] U ∧ va_D (fun _ => True) [(mo, .inr (8, [.int (nI n), .ref m1, .ref m2, .ref m3, .long ka, .long kb, .ref m6, .ref m7, .ref m8, .ref m9, .ref m10, .ref m11, .ref m12, .ref m13, .ref m14, .ref m15, .ref m16])), (m2, .inl (cI, 8, .inl fp)), (m6, .inl (cI, 8, .inl fw)), (m7, .inl (cI, 9, .inl ft))] ∧ mz_N U)) (va_Qi (fun (r : Int32) (_ : Unit) => (r = 1 ∧ mz_pth n (mz_pwo fp p4 p5) p3 (mz_Mm n (mz_pwo fp p4 p5) p3) i0 jy) ∨ (r = 0 ∧ ¬ mz_pth n (mz_pwo fp p4 p5) p3 (mz_Mm n (mz_pwo fp p4 p5) p3) i0 jy)) (fun _ t => ∃ (gw : Nat → Int32), ∃ (gt : Nat → Int32), va_P (dC, dI) vwCl [(mo, .inr (8, [.int (nI n), .ref m1, .ref m2, .ref m3, .long ka, .long kb, .ref m6, .ref m7, .ref m8, .ref m9, .ref m10, .ref m11, .ref m12, .ref m13, .ref m14, .ref m15, .ref m16])), (m2, .inl (cI, 8, .inl fp)), (m6, .inl (cI, 8, .inl gw)), (m7, .inl (cI, 9, .inl gt))] t.heap ∧ va_D (va_A [(mo, .inr (8, [.int (nI n), .ref m1, .ref m2, .ref m3, .long ka, .long kb, .ref m6, .ref m7, .ref m8, .ref m9, .ref m10, .ref m11, .ref m12, .ref m13, .ref m14, .ref m15, .ref m16])), (m2, .inl (cI, 8, .inl fp)), (m6, .inl (cI, 8, .inl fw)), (m7, .inl (cI, 9, .inl ft))] sz) [(mo, .inr (8, [.int (nI n), .ref m1, .ref m2, .ref m3, .long ka, .long kb, .ref m6, .ref m7, .ref m8, .ref m9, .ref m10, .ref m11, .ref m12, .ref m13, .ref m14, .ref m15, .ref m16])), (m2, .inl (cI, 8, .inl fp)), (m6, .inl (cI, 8, .inl gw)), (m7, .inl (cI, 9, .inl gt))]) (va_A [(mo, .inr (8, [.int (nI n), .ref m1, .ref m2, .ref m3, .long ka, .long kb, .ref m6, .ref m7, .ref m8, .ref m9, .ref m10, .ref m11, .ref m12, .ref m13, .ref m14, .ref m15, .ref m16])), (m2, .inl (cI, 8, .inl fp)), (m6, .inl (cI, 8, .inl fw)), (m7, .inl (cI, 9, .inl ft))] sz)) 0 0 (va_A [(mo, .inr (8, [.int (nI n), .ref m1, .ref m2, .ref m3, .long ka, .long kb, .ref m6, .ref m7, .ref m8, .ref m9, .ref m10, .ref m11, .ref m12, .ref m13, .ref m14, .ref m15, .ref m16])), (m2, .inl (cI, 8, .inl fp)), (m6, .inl (cI, 8, .inl fw)), (m7, .inl (cI, 9, .inl ft))] sz) := by
  refine Met.ofW (cc := cX8_joins) (maxL := 11) (ret := (some .boolean)) (by decide) rfl ?_
  intro p e s m args below meth c s₁ B hml hv
  obtain ⟨rfl, hsz, hP, hK, hD0, hN⟩ := hv
  subst hsz
  have hx := B.exec
  have hb := B.bytes
  have hr := B.returns
  have hts := atoms_spec (ws := wsX8_joins) B.pre
  have hown : s.vm.findClass RX8 = some m.cls := findClass_of_methodNamed B.named
  have hlocks := B.notSynchronized
  have hD := hD0.self (sz := s.heap.size)
  generalize hAe : va_A [(mo, .inr (8, [.int (nI n), .ref m1, .ref m2, .ref m3, .long ka, .long kb, .ref m6, .ref m7, .ref m8, .ref m9, .ref m10, .ref m11, .ref m12, .ref m13, .ref m14, .ref m15, .ref m16])), (m2, .inl (cI, 8, .inl fp)), (m6, .inl (cI, 8, .inl fw)), (m7, .inl (cI, 9, .inl ft))] s.heap.size = A at hD ⊢
  have hA : ∀ q : Nat, s.heap.size ≤ q → A q := fun q h => by rw [← hAe]; exact Or.inr h
  have hS : va_S A s.heap s.heap [] := va_S.rf
  have hiX8 : ∀ w ∈ u_ws RX8 TX8 17, w ∈ wsX8_joins := by decide +kernel
  have hl := lv_entry ([.ref mo, .int (nI i0), .int (nI jy), .int p3, .int p4, .int p5]) (n := 11) (Nat.le_of_ble_eq_true rfl)
  rw [lg_entry_eq]
  generalize (lg_sl ([.ref mo, .int (nI i0), .int (nI jy), .int p3, .int p4, .int p5]) ++ List.replicate (11 - (lg_sl ([.ref mo, .int (nI i0), .int (nI jy), .int p3, .int p4, .int p5])).length) Slot.unset).toArray = ls at hl ⊢
  have hl : lv_has ls 11 [(0, .ref mo), (1, .int (nI i0)), (2, .int (nI jy)), (3, .int p3), (4, .int p4), (5, .int p5)] := hl
  refine lv_iconst (v := 1) hx hb dX8_joins_0 (by decide +kernel) ?_
  refine lv_istore (lv' := [(6, .int 1), (0, .ref mo), (1, .int (nI i0)), (2, .int (nI jy)), (3, .int p3), (4, .int p4), (5, .int p5)]) hx hb dX8_joins_1 hl (by decide) rfl (fun ls hl => ?_)
  refine lv_aload_n hx hb dX8_joins_3 rfl (lv_at hl 1 rfl) ?_
  refine va_get (D := (dC, dI)) (ci := 8) (v := .ref m6) (C := RX8) (T := TX8) (N := 17) hx hb hts hiX8 hown hK hP 0 rfl rfl 6 (by decide) (hts (.fieldLink RX8 24 "MadeItSoModel" "way" "[I") (by decide +kernel)) (fun _ h9 => h9) rfl dX8_joins_4 ?_
  refine lv_iconst (v := 0) hx hb dX8_joins_7 (by decide +kernel) ?_
  refine lv_iload_n hx hb dX8_joins_8 rfl (lv_at hl 2 rfl) ?_
  refine va_iast hx hb hK hP hD hS 2 0 rfl rfl (mz_in (by decide +kernel)) dX8_joins_9 (fun H locs hP hD hS => ?_)
  rw [show (0 : Int32).toNatClampNeg = 0 by decide] at hP hD
  have hP : va_P (dC, dI) vwCl [(mo, .inr (8, [.int (nI n), .ref m1, .ref m2, .ref m3, .long ka, .long kb, .ref m6, .ref m7, .ref m8, .ref m9, .ref m10, .ref m11, .ref m12, .ref m13, .ref m14, .ref m15, .ref m16])), (m2, .inl (cI, 8, .inl fp)), (m6, .inl (cI, 8, .inl (upd fw 0 (nI i0)))), (m7, .inl (cI, 9, .inl ft))] H := hP
  have hD : va_D A [(mo, .inr (8, [.int (nI n), .ref m1, .ref m2, .ref m3, .long ka, .long kb, .ref m6, .ref m7, .ref m8, .ref m9, .ref m10, .ref m11, .ref m12, .ref m13, .ref m14, .ref m15, .ref m16])), (m2, .inl (cI, 8, .inl fp)), (m6, .inl (cI, 8, .inl (upd fw 0 (nI i0)))), (m7, .inl (cI, 9, .inl ft))] := hD
  refine lv_aload_n hx hb dX8_joins_10 rfl (lv_at hl 1 rfl) ?_
  refine va_get (D := (dC, dI)) (ci := 8) (v := .ref m7) (C := RX8) (T := TX8) (N := 17) hx hb hts hiX8 hown hK hP 0 rfl rfl 7 (by decide) (hts (.fieldLink RX8 27 "MadeItSoModel" "tried" "[I") (by decide +kernel)) (fun _ h9 => h9) rfl dX8_joins_11 ?_
  refine lv_iconst (v := 0) hx hb dX8_joins_14 (by decide +kernel) ?_
  refine lv_iconst (v := 0) hx hb dX8_joins_15 (by decide +kernel) ?_
  refine va_iast hx hb hK hP hD hS 3 0 rfl rfl (mz_in (by decide +kernel)) dX8_joins_16 (fun H locs hP hD hS => ?_)
  rw [show (0 : Int32).toNatClampNeg = 0 by decide] at hP hD
  have hP : va_P (dC, dI) vwCl [(mo, .inr (8, [.int (nI n), .ref m1, .ref m2, .ref m3, .long ka, .long kb, .ref m6, .ref m7, .ref m8, .ref m9, .ref m10, .ref m11, .ref m12, .ref m13, .ref m14, .ref m15, .ref m16])), (m2, .inl (cI, 8, .inl fp)), (m6, .inl (cI, 8, .inl (upd fw 0 (nI i0)))), (m7, .inl (cI, 9, .inl (upd ft 0 0)))] H := hP
  have hD : va_D A [(mo, .inr (8, [.int (nI n), .ref m1, .ref m2, .ref m3, .long ka, .long kb, .ref m6, .ref m7, .ref m8, .ref m9, .ref m10, .ref m11, .ref m12, .ref m13, .ref m14, .ref m15, .ref m16])), (m2, .inl (cI, 8, .inl fp)), (m6, .inl (cI, 8, .inl (upd fw 0 (nI i0)))), (m7, .inl (cI, 9, .inl (upd ft 0 0)))] := hD
  refine lv_iconst (v := 1) hx hb dX8_joins_17 (by decide +kernel) ?_
  refine lv_iload_n hx hb dX8_joins_18 rfl (lv_at hl 2 rfl) ?_
  refine lv_ishl hx hb dX8_joins_19 ?_
  refine lv_istore (lv' := [(7, .int (1 <<< ((nI i0) &&& 31))), (6, .int 1), (0, .ref mo), (1, .int (nI i0)), (2, .int (nI jy)), (3, .int p3), (4, .int p4), (5, .int p5)]) hx hb dX8_joins_20 hl (by decide) rfl (fun ls hl => ?_)
  refine mz_loopU (fun k H locs ls => ∃ (x7_22 : Int32), ∃ (x6_22 : Int32), ∃ (fm6_22 : Nat → Int32), ∃ (fm7_22 : Nat → Int32), va_P (dC, dI) vwCl [(mo, .inr (8, [.int (nI n), .ref m1, .ref m2, .ref m3, .long ka, .long kb, .ref m6, .ref m7, .ref m8, .ref m9, .ref m10, .ref m11, .ref m12, .ref m13, .ref m14, .ref m15, .ref m16])), (m2, .inl (cI, 8, .inl fp)), (m6, .inl (cI, 8, .inl fm6_22)), (m7, .inl (cI, 9, .inl fm7_22))] H ∧ va_D A [(mo, .inr (8, [.int (nI n), .ref m1, .ref m2, .ref m3, .long ka, .long kb, .ref m6, .ref m7, .ref m8, .ref m9, .ref m10, .ref m11, .ref m12, .ref m13, .ref m14, .ref m15, .ref m16])), (m2, .inl (cI, 8, .inl fp)), (m6, .inl (cI, 8, .inl fm6_22)), (m7, .inl (cI, 9, .inl fm7_22))] ∧ va_S A s.heap H locs ∧ lv_has ls 11 [(7, .int x7_22), (6, .int x6_22), (0, .ref mo), (1, .int (nI i0)), (2, .int (nI jy)), (3, .int p3), (4, .int p4), (5, .int p5)] ∧ (∃ (D : Nat) (V T : Nat → Nat), x6_22 = nI D ∧ D ≤ n ∧ mz_dfs n D V T fm6_22 fm7_22 x7_22 ∧ mz_dfx n (mz_pwo fp p4 p5) p3 (mz_Mm n (mz_pwo fp p4 p5) p3) i0 jy D V T x7_22 ∧ k = mz_ms T n D)) ?_ (mz_ms (fun _ => 0) n 1) _ _ _ ⟨(1 <<< ((nI i0) &&& 31)), 1, (upd fw 0 (nI i0)), (upd ft 0 0), hP, hD, hS, lv_sub hl [0, 1, 2, 3, 4, 5, 6, 7] rfl, ⟨1, fun _ => i0, fun _ => 0, rfl, by omega, mz_dfs_0 hn hi0, mz_dfx_0 hn hi0 hij, rfl⟩⟩
  intro k_22 H locs ls hI_22 ih_22
  obtain ⟨x7_22, x6_22, fm6_22, fm7_22, hP, hD, hS, hl, hk_22⟩ := hI_22
  obtain ⟨D_, V_, T_, eD_, hD_, hF_, hX_, hk_⟩ := hk_22
  subst eD_
  refine lv_iload hx hb dX8_joins_22 (lv_at hl 1 rfl) ?_
  refine lv_if_le (tgt := 205) hx hb dX8_joins_24 (by decide) (fun c_24 => ?_) (fun c_24 => ?_)
  · skip
    have d_24 : D_ ≤ 0 := (nI_leI (a := D_) (b := 0) (by omega) (by omega)).mp c_24
    refine lv_iconst (v := 0) hx hb dX8_joins_205 (by decide +kernel) ?_
    have hP9 := hP.sub (ws' := [(mo, .inr (8, [.int (nI n), .ref m1, .ref m2, .ref m3, .long ka, .long kb, .ref m6, .ref m7, .ref m8, .ref m9, .ref m10, .ref m11, .ref m12, .ref m13, .ref m14, .ref m15, .ref m16])), (m2, .inl (cI, 8, .inl fp)), (m6, .inl (cI, 8, .inl fm6_22)), (m7, .inl (cI, 9, .inl fm7_22))]) [0, 1, 2, 3] rfl
    have hD9 := hD.sub (ws' := [(mo, .inr (8, [.int (nI n), .ref m1, .ref m2, .ref m3, .long ka, .long kb, .ref m6, .ref m7, .ref m8, .ref m9, .ref m10, .ref m11, .ref m12, .ref m13, .ref m14, .ref m15, .ref m16])), (m2, .inl (cI, 8, .inl fp)), (m6, .inl (cI, 8, .inl fm6_22)), (m7, .inl (cI, 9, .inl fm7_22))]) [0, 1, 2, 3] (by decide) rfl
    refine W.widen (k := 0) (n := 0) (Nat.le_of_ble_eq_true rfl) (Nat.le_of_ble_eq_true rfl) ?_
    exact W.zret (v := 0) hx hb hr (mz_nz (by decide +kernel)) (fun t ht hW => ⟨⟨0, (), rfl, Or.inr ⟨rfl, mz_dfx_end (by have h9 := hX_; rw [show D_ = 0 by omega] at h9; exact h9)⟩, fm6_22, fm7_22, by rw [ht]; exact hP9, hD9⟩, hS.F ht⟩) hS.2.2 dX8_joins_206
  · skip
    have d_24 : ¬ D_ ≤ 0 := fun h => c_24 ((nI_leI (a := D_) (b := 0) (by omega) (by omega)).mpr h)
    obtain ⟨E_, rfl⟩ : ∃ E : Nat, D_ = E + 1 := ⟨D_ - 1, by omega⟩
    have hT_ := hF_.2.1 E_ (by omega)
    have hT2_ := hT_.2
    have hV_ := hF_.1 E_ (by omega)
    have hV2_ := hV_.2
    refine lv_aload_n hx hb dX8_joins_27 rfl (lv_at hl 2 rfl) ?_
    refine va_get (D := (dC, dI)) (ci := 8) (v := .ref m7) (C := RX8) (T := TX8) (N := 17) hx hb hts hiX8 hown hK hP 0 rfl rfl 7 (by decide) (hts (.fieldLink RX8 27 "MadeItSoModel" "tried" "[I") (by decide +kernel)) (fun _ h9 => h9) rfl dX8_joins_28 ?_
    refine lv_iload hx hb dX8_joins_31 (lv_at hl 1 rfl) ?_
    refine lv_iconst (v := 1) hx hb dX8_joins_33 (by decide +kernel) ?_
    refine lv_isub hx hb dX8_joins_34 ?_
    refine mz_ti (y := (nI E_)) (nI_pred _) ?_
    refine va_iald hx hb hK hP 3 0 rfl rfl (vp_in_nI (by omega) (by omega)) dX8_joins_35 ?_
    refine mz_ti (y := (fm7_22 E_)) (by rw [mz_cl (by omega)]) ?_
    refine mz_ti (y := (nI (T_ E_))) hT_.1 ?_
    refine lv_istore (lv' := [(8, .int (nI (T_ E_))), (7, .int x7_22), (6, .int (nI (E_ + 1))), (0, .ref mo), (1, .int (nI i0)), (2, .int (nI jy)), (3, .int p3), (4, .int p4), (5, .int p5)]) hx hb dX8_joins_36 hl (by decide) rfl (fun ls hl => ?_)
    refine lv_aload_n hx hb dX8_joins_38 rfl (lv_at hl 3 rfl) ?_
    refine va_get (D := (dC, dI)) (ci := 8) (v := .ref m7) (C := RX8) (T := TX8) (N := 17) hx hb hts hiX8 hown hK hP 0 rfl rfl 7 (by decide) (hts (.fieldLink RX8 27 "MadeItSoModel" "tried" "[I") (by decide +kernel)) (fun _ h9 => h9) rfl dX8_joins_39 ?_
    refine lv_iload hx hb dX8_joins_42 (lv_at hl 2 rfl) ?_
    refine lv_iconst (v := 1) hx hb dX8_joins_44 (by decide +kernel) ?_
    refine lv_isub hx hb dX8_joins_45 ?_
    refine mz_ti (y := (nI E_)) (nI_pred _) ?_
    refine lv_dup2_11 hx hb dX8_joins_46 rfl rfl ?_
    refine va_iald hx hb hK hP 3 0 rfl rfl (vp_in_nI (by omega) (by omega)) dX8_joins_47 ?_
    refine mz_ti (y := (fm7_22 E_)) (by rw [mz_cl (by omega)]) ?_
    refine lv_iconst (v := 1) hx hb dX8_joins_48 (by decide +kernel) ?_
    refine lv_iadd hx hb dX8_joins_49 ?_
    refine va_iast hx hb hK hP hD hS 3 0 rfl rfl (vp_in_nI (by omega) (by omega)) dX8_joins_50 (fun H locs hP hD hS => ?_)
    rw [mz_cl (n := E_) (by omega)] at hP hD
    have hP : va_P (dC, dI) vwCl [(mo, .inr (8, [.int (nI n), .ref m1, .ref m2, .ref m3, .long ka, .long kb, .ref m6, .ref m7, .ref m8, .ref m9, .ref m10, .ref m11, .ref m12, .ref m13, .ref m14, .ref m15, .ref m16])), (m2, .inl (cI, 8, .inl fp)), (m6, .inl (cI, 8, .inl fm6_22)), (m7, .inl (cI, 9, .inl (upd fm7_22 E_ ((fm7_22 E_) + 1))))] H := hP
    have hD : va_D A [(mo, .inr (8, [.int (nI n), .ref m1, .ref m2, .ref m3, .long ka, .long kb, .ref m6, .ref m7, .ref m8, .ref m9, .ref m10, .ref m11, .ref m12, .ref m13, .ref m14, .ref m15, .ref m16])), (m2, .inl (cI, 8, .inl fp)), (m6, .inl (cI, 8, .inl fm6_22)), (m7, .inl (cI, 9, .inl (upd fm7_22 E_ ((fm7_22 E_) + 1))))] := hD
    refine lv_iload hx hb dX8_joins_51 (lv_at hl 0 rfl) ?_
    refine lv_aload_n hx hb dX8_joins_53 rfl (lv_at hl 3 rfl) ?_
    refine va_get (D := (dC, dI)) (ci := 8) (v := .int (nI n)) (C := RX8) (T := TX8) (N := 17) hx hb hts hiX8 hown hK hP 0 rfl rfl 0 (by decide) (hts (.fieldLink RX8 58 "MadeItSoModel" "many" "I") (by decide +kernel)) (fun _ h9 => h9) rfl dX8_joins_54 ?_
    refine lv_icmp_ne (tgt := 82) hx hb dX8_joins_57 (by decide) (fun c_57 => ?_) (fun c_57 => ?_)
    · skip
      have d_57 : ¬ T_ E_ = n := fun h => c_57 ((nI_eq (a := T_ E_) (b := n) (by omega) (by omega)).mpr h)
      refine lv_aload_n hx hb dX8_joins_82 rfl (lv_at hl 3 rfl) ?_
      refine va_get (D := (dC, dI)) (ci := 8) (v := .ref m6) (C := RX8) (T := TX8) (N := 17) hx hb hts hiX8 hown hK hP 0 rfl rfl 6 (by decide) (hts (.fieldLink RX8 24 "MadeItSoModel" "way" "[I") (by decide +kernel)) (fun _ h9 => h9) rfl dX8_joins_83 ?_
      refine lv_iload hx hb dX8_joins_86 (lv_at hl 2 rfl) ?_
      refine lv_iconst (v := 1) hx hb dX8_joins_88 (by decide +kernel) ?_
      refine lv_isub hx hb dX8_joins_89 ?_
      refine mz_ti (y := (nI E_)) (nI_pred _) ?_
      refine va_iald hx hb hK hP 2 0 rfl rfl (vp_in_nI (by omega) (by omega)) dX8_joins_90 ?_
      refine mz_ti (y := (fm6_22 E_)) (by rw [mz_cl (by omega)]) ?_
      refine mz_ti (y := (nI (V_ E_))) hV_.1 ?_
      refine lv_istore (lv' := [(9, .int (nI (V_ E_))), (8, .int (nI (T_ E_))), (7, .int x7_22), (6, .int (nI (E_ + 1))), (0, .ref mo), (1, .int (nI i0)), (2, .int (nI jy)), (3, .int p3), (4, .int p4), (5, .int p5)]) hx hb dX8_joins_91 hl (by decide) rfl (fun ls hl => ?_)
      refine lv_aload_n hx hb dX8_joins_93 rfl (lv_at hl 4 rfl) ?_
      refine lv_iload hx hb dX8_joins_94 (lv_at hl 0 rfl) ?_
      refine lv_iload hx hb dX8_joins_96 (lv_at hl 1 rfl) ?_
      refine lv_iload hx hb dX8_joins_98 (lv_at hl 8 rfl) ?_
      refine lv_iload hx hb dX8_joins_100 (lv_at hl 9 rfl) ?_
      have hPc := hP.sub (ws' := [(mo, .inr (8, [.int (nI n), .ref m1, .ref m2, .ref m3, .long ka, .long kb, .ref m6, .ref m7, .ref m8, .ref m9, .ref m10, .ref m11, .ref m12, .ref m13, .ref m14, .ref m15, .ref m16])), (m2, .inl (cI, 8, .inl fp))]) [0, 1] rfl
      refine va_calli (va_runV (As := [.int (nI (V_ E_)), .int (nI (T_ E_)), .int p4, .int p5]) (rest := []) ⟨hx, hb, hml, hown, hts⟩ (mz_s_m_isArrow l dC dI cI cJ cZ mo m1 m2 m3 m6 m7 m8 m9 m10 m11 m12 m13 m14 m15 m16 n ka kb fp (V_ E_) (T_ E_) p4 p5 H (by first | assumption | omega) (by first | assumption | omega)) (cwV 4 hts gX8_joins_X8_isArrow rfl rfl rfl (by decide +kernel) ⟨Nat.le_of_ble_eq_true rfl, Nat.le_of_ble_eq_true rfl⟩) ⟨fun a U g mk q => mz_blP q, va_recv hK hPc (ci := 8) (q0 := 0) rfl rfl, fun U hU hW => ⟨rfl, hU, hPc, va_K.moved hW.alike hK, mz_nw hW hN⟩⟩ rfl rfl hl.1 rfl (lv_room (Nat.le_of_ble_eq_true rfl)) dX8_joins_102 ⟨Nat.le_of_ble_eq_true rfl, Nat.le_of_ble_eq_true rfl⟩) hS (fun q _ h => h.elim) (fun q h => h.elim) (fun r_102 u t H1 locs ht hvm hw_102 hB hz1 hk1 hS => ?_)
      have hE : H = H1 := hB.symm.trans ht
      subst hE
      rcases (show (r_102 = 1 ∧ mz_ar (mz_pwo fp p4 p5) (V_ E_) (T_ E_) = true) ∨ (r_102 = 0 ∧ mz_ar (mz_pwo fp p4 p5) (V_ E_) (T_ E_) = false) from hw_102) with ⟨rfl, ht_102⟩ | ⟨rfl, ht_102⟩
      · skip
        refine lv_if_ne (tgt := 123) hx hb dX8_joins_105 (by decide) (fun _ => ?_) (fun c_105 => absurd c_105 (by decide +kernel))
        refine lv_iconst (v := 1) hx hb dX8_joins_123 (by decide +kernel) ?_
        refine lv_goto (tgt := 128) hx hb dX8_joins_124 (by decide) ?_
        refine lv_istore (lv' := [(10, .int 1), (9, .int (nI (V_ E_))), (8, .int (nI (T_ E_))), (7, .int x7_22), (6, .int (nI (E_ + 1))), (0, .ref mo), (1, .int (nI i0)), (2, .int (nI jy)), (3, .int p3), (4, .int p4), (5, .int p5)]) hx hb dX8_joins_128 hl (by decide) rfl (fun ls hl => ?_)
        refine lv_iload hx hb dX8_joins_130 (lv_at hl 0 rfl) ?_
        refine lv_if_eq (tgt := 22) hx hb dX8_joins_132 (by decide) (fun c_132 => absurd c_132 (by decide +kernel)) (fun _ => ?_)
        refine lv_iload hx hb dX8_joins_135 (lv_at hl 3 rfl) ?_
        refine lv_iload hx hb dX8_joins_137 (lv_at hl 2 rfl) ?_
        refine lv_ishr hx hb dX8_joins_139 ?_
        refine lv_iconst (v := 1) hx hb dX8_joins_140 (by decide +kernel) ?_
        refine lv_iand hx hb dX8_joins_141 ?_
        refine lv_iconst (v := 1) hx hb dX8_joins_142 (by decide +kernel) ?_
        refine lv_icmp_ne (tgt := 149) hx hb dX8_joins_143 (by decide) (fun c_143 => ?_) (fun c_143 => ?_)
        · skip
          have hb_ := mz_nb (by omega) c_143
          have hr_ := mz_dfs_room hF_ (by omega) hb_
          have hj_ : mz_jn (mz_pwo fp p4 p5) (V_ E_) (T_ E_) := Or.inl ht_102
          refine lv_aload_n hx hb dX8_joins_149 rfl (lv_at hl 5 rfl) ?_
          refine va_get (D := (dC, dI)) (ci := 8) (v := .ref m6) (C := RX8) (T := TX8) (N := 17) hx hb hts hiX8 hown hK hP 0 rfl rfl 6 (by decide) (hts (.fieldLink RX8 24 "MadeItSoModel" "way" "[I") (by decide +kernel)) (fun _ h9 => h9) rfl dX8_joins_150 ?_
          refine lv_iload hx hb dX8_joins_153 (lv_at hl 4 rfl) ?_
          refine lv_iload hx hb dX8_joins_155 (lv_at hl 2 rfl) ?_
          refine va_iast hx hb hK hP hD hS 2 0 rfl rfl (vp_in_nI (by omega) (by omega)) dX8_joins_157 (fun H locs hP hD hS => ?_)
          rw [mz_cl (n := E_ + 1) (by omega)] at hP hD
          have hP : va_P (dC, dI) vwCl [(mo, .inr (8, [.int (nI n), .ref m1, .ref m2, .ref m3, .long ka, .long kb, .ref m6, .ref m7, .ref m8, .ref m9, .ref m10, .ref m11, .ref m12, .ref m13, .ref m14, .ref m15, .ref m16])), (m2, .inl (cI, 8, .inl fp)), (m6, .inl (cI, 8, .inl (upd fm6_22 (E_ + 1) (nI (T_ E_))))), (m7, .inl (cI, 9, .inl (upd fm7_22 E_ ((fm7_22 E_) + 1))))] H := hP
          have hD : va_D A [(mo, .inr (8, [.int (nI n), .ref m1, .ref m2, .ref m3, .long ka, .long kb, .ref m6, .ref m7, .ref m8, .ref m9, .ref m10, .ref m11, .ref m12, .ref m13, .ref m14, .ref m15, .ref m16])), (m2, .inl (cI, 8, .inl fp)), (m6, .inl (cI, 8, .inl (upd fm6_22 (E_ + 1) (nI (T_ E_))))), (m7, .inl (cI, 9, .inl (upd fm7_22 E_ ((fm7_22 E_) + 1))))] := hD
          refine lv_iload hx hb dX8_joins_158 (lv_at hl 2 rfl) ?_
          refine lv_iload_n hx hb dX8_joins_160 rfl (lv_at hl 7 rfl) ?_
          refine lv_icmp_ne (tgt := 182) hx hb dX8_joins_161 (by decide) (fun c_161 => ?_) (fun c_161 => ?_)
          · skip
            have d_161 : ¬ T_ E_ = jy := fun h => c_161 ((nI_eq (a := T_ E_) (b := jy) (by omega) (by omega)).mpr h)
            refine lv_aload_n hx hb dX8_joins_182 rfl (lv_at hl 5 rfl) ?_
            refine va_get (D := (dC, dI)) (ci := 8) (v := .ref m7) (C := RX8) (T := TX8) (N := 17) hx hb hts hiX8 hown hK hP 0 rfl rfl 7 (by decide) (hts (.fieldLink RX8 27 "MadeItSoModel" "tried" "[I") (by decide +kernel)) (fun _ h9 => h9) rfl dX8_joins_183 ?_
            refine lv_iload hx hb dX8_joins_186 (lv_at hl 4 rfl) ?_
            refine lv_iconst (v := 0) hx hb dX8_joins_188 (by decide +kernel) ?_
            refine va_iast hx hb hK hP hD hS 3 0 rfl rfl (vp_in_nI (by omega) (by omega)) dX8_joins_189 (fun H locs hP hD hS => ?_)
            rw [mz_cl (n := E_ + 1) (by omega)] at hP hD
            have hP : va_P (dC, dI) vwCl [(mo, .inr (8, [.int (nI n), .ref m1, .ref m2, .ref m3, .long ka, .long kb, .ref m6, .ref m7, .ref m8, .ref m9, .ref m10, .ref m11, .ref m12, .ref m13, .ref m14, .ref m15, .ref m16])), (m2, .inl (cI, 8, .inl fp)), (m6, .inl (cI, 8, .inl (upd fm6_22 (E_ + 1) (nI (T_ E_))))), (m7, .inl (cI, 9, .inl (upd (upd fm7_22 E_ ((fm7_22 E_) + 1)) (E_ + 1) 0)))] H := hP
            have hD : va_D A [(mo, .inr (8, [.int (nI n), .ref m1, .ref m2, .ref m3, .long ka, .long kb, .ref m6, .ref m7, .ref m8, .ref m9, .ref m10, .ref m11, .ref m12, .ref m13, .ref m14, .ref m15, .ref m16])), (m2, .inl (cI, 8, .inl fp)), (m6, .inl (cI, 8, .inl (upd fm6_22 (E_ + 1) (nI (T_ E_))))), (m7, .inl (cI, 9, .inl (upd (upd fm7_22 E_ ((fm7_22 E_) + 1)) (E_ + 1) 0)))] := hD
            refine lv_iload hx hb dX8_joins_190 (lv_at hl 3 rfl) ?_
            refine lv_iconst (v := 1) hx hb dX8_joins_192 (by decide +kernel) ?_
            refine lv_iload hx hb dX8_joins_193 (lv_at hl 2 rfl) ?_
            refine lv_ishl hx hb dX8_joins_195 ?_
            refine lv_ior hx hb dX8_joins_196 ?_
            refine lv_istore (lv' := [(7, .int (x7_22 ||| (1 <<< ((nI (T_ E_)) &&& 31)))), (10, .int 1), (9, .int (nI (V_ E_))), (8, .int (nI (T_ E_))), (6, .int (nI (E_ + 1))), (0, .ref mo), (1, .int (nI i0)), (2, .int (nI jy)), (3, .int p3), (4, .int p4), (5, .int p5)]) hx hb dX8_joins_197 hl (by decide) rfl (fun ls hl => ?_)
            refine lv_iinc (v := (nI (E_ + 1 + 1))) (lv' := [(6, .int (nI (E_ + 1 + 1))), (7, .int (x7_22 ||| (1 <<< ((nI (T_ E_)) &&& 31)))), (10, .int 1), (9, .int (nI (V_ E_))), (8, .int (nI (T_ E_))), (0, .ref mo), (1, .int (nI i0)), (2, .int (nI jy)), (3, .int p3), (4, .int p4), (5, .int p5)]) hx hb dX8_joins_199 hl (k := 4) rfl (nI_1 _) (by decide) rfl (fun ls hl => ?_)
            refine lv_goto (tgt := 22) hx hb dX8_joins_202 (by decide) ?_
            exact ih_22 (mz_ms (mz_up (mz_up T_ E_ (T_ E_ + 1)) (E_ + 1) 0) n (E_ + 2)) (by rw [hk_]; exact mz_ms_push hT_.2 hn (by omega)) _ _ _ ⟨(x7_22 ||| (1 <<< ((nI (T_ E_)) &&& 31))), (nI (E_ + 1 + 1)), (upd fm6_22 (E_ + 1) (nI (T_ E_))), (upd (upd fm7_22 E_ ((fm7_22 E_) + 1)) (E_ + 1) 0), hP, hD, hS, lv_sub hl [1, 0, 5, 6, 7, 8, 9, 10] rfl, ⟨E_ + 2, mz_up V_ (E_ + 1) (T_ E_), mz_up (mz_up T_ E_ (T_ E_ + 1)) (E_ + 1) 0, rfl, by omega, mz_dfs_push hn (mz_dfs_stay hF_ (by rw [hT_.1]; exact nI_1 _) (by omega)) (by omega) hb_, mz_dfx_push hn hX_ (by omega) (by omega) hj_, rfl⟩⟩
          · skip
            have d_161 : T_ E_ = jy := (nI_eq (a := T_ E_) (b := jy) (by omega) (by omega)).mp c_161
            refine lv_aload_n hx hb dX8_joins_164 rfl (lv_at hl 5 rfl) ?_
            refine lv_iload hx hb dX8_joins_165 (lv_at hl 4 rfl) ?_
            refine lv_iconst (v := 1) hx hb dX8_joins_167 (by decide +kernel) ?_
            refine lv_iadd hx hb dX8_joins_168 ?_
            refine mz_ti (y := (nI (E_ + 1 + 1))) (nI_add _ _) ?_
            refine lv_iload_n hx hb dX8_joins_169 rfl (lv_at hl 8 rfl) ?_
            refine lv_iload hx hb dX8_joins_170 (lv_at hl 9 rfl) ?_
            refine lv_iload hx hb dX8_joins_172 (lv_at hl 10 rfl) ?_
            have hPc := hP.sub (ws' := [(mo, .inr (8, [.int (nI n), .ref m1, .ref m2, .ref m3, .long ka, .long kb, .ref m6, .ref m7, .ref m8, .ref m9, .ref m10, .ref m11, .ref m12, .ref m13, .ref m14, .ref m15, .ref m16])), (m2, .inl (cI, 8, .inl fp)), (m6, .inl (cI, 8, .inl (upd fm6_22 (E_ + 1) (nI (T_ E_)))))]) [0, 1, 2] rfl
            refine va_calli (va_runV (As := [.int (nI (E_ + 1 + 1)), .int p3, .int p4, .int p5]) (rest := []) ⟨hx, hb, hml, hown, hts⟩ (mz_s_m_isOpen l dC dI cI cJ cZ mo m1 m2 m3 m6 m7 m8 m9 m10 m11 m12 m13 m14 m15 m16 n ka kb fp (upd fm6_22 (E_ + 1) (nI (T_ E_))) (E_ + 1 + 1) (mz_up V_ (E_ + 1) (T_ E_)) p3 p4 p5 H (by first | assumption | omega) (by first | assumption | omega) (by first | assumption | omega) (mz_upf (fun i hi => hF_.1 i hi) (by omega))) (cwV 4 hts gX8_joins_X8_isOpen rfl rfl rfl (by decide +kernel) ⟨Nat.le_of_ble_eq_true rfl, Nat.le_of_ble_eq_true rfl⟩) ⟨fun a U g mk q => mz_blP q, va_recv hK hPc (ci := 8) (q0 := 0) rfl rfl, fun U hU hW => ⟨rfl, hU, hPc, va_K.moved hW.alike hK, mz_nw hW hN⟩⟩ rfl rfl hl.1 rfl (lv_room (Nat.le_of_ble_eq_true rfl)) dX8_joins_174 ⟨Nat.le_of_ble_eq_true rfl, Nat.le_of_ble_eq_true rfl⟩) hS (fun q _ h => h.elim) (fun q h => h.elim) (fun r_174 u t H1 locs ht hvm hw_174 hB hz1 hk1 hS => ?_)
            have hE : H = H1 := hB.symm.trans ht
            subst hE
            rcases (show (r_174 = 1 ∧ ∀ k, 0 < k → k + 1 < (E_ + 1 + 1) → mz_opn (mz_pwo fp p4 p5) p3 (mz_Mm n (mz_pwo fp p4 p5) p3) (mz_up V_ (E_ + 1) (T_ E_)) k) ∨ (r_174 = 0 ∧ ¬ ∀ k, 0 < k → k + 1 < (E_ + 1 + 1) → mz_opn (mz_pwo fp p4 p5) p3 (mz_Mm n (mz_pwo fp p4 p5) p3) (mz_up V_ (E_ + 1) (T_ E_)) k) from hw_174) with ⟨rfl, ho_174⟩ | ⟨rfl, ho_174⟩
            · skip
              refine lv_if_eq (tgt := 22) hx hb dX8_joins_177 (by decide) (fun c_177 => absurd c_177 (by decide +kernel)) (fun _ => ?_)
              refine lv_iconst (v := 1) hx hb dX8_joins_180 (by decide +kernel) ?_
              have hP9 := hP.sub (ws' := [(mo, .inr (8, [.int (nI n), .ref m1, .ref m2, .ref m3, .long ka, .long kb, .ref m6, .ref m7, .ref m8, .ref m9, .ref m10, .ref m11, .ref m12, .ref m13, .ref m14, .ref m15, .ref m16])), (m2, .inl (cI, 8, .inl fp)), (m6, .inl (cI, 8, .inl (upd fm6_22 (E_ + 1) (nI (T_ E_))))), (m7, .inl (cI, 9, .inl (upd fm7_22 E_ ((fm7_22 E_) + 1))))]) [0, 1, 2, 3] rfl
              have hD9 := hD.sub (ws' := [(mo, .inr (8, [.int (nI n), .ref m1, .ref m2, .ref m3, .long ka, .long kb, .ref m6, .ref m7, .ref m8, .ref m9, .ref m10, .ref m11, .ref m12, .ref m13, .ref m14, .ref m15, .ref m16])), (m2, .inl (cI, 8, .inl fp)), (m6, .inl (cI, 8, .inl (upd fm6_22 (E_ + 1) (nI (T_ E_))))), (m7, .inl (cI, 9, .inl (upd fm7_22 E_ ((fm7_22 E_) + 1))))]) [0, 1, 2, 3] (by decide) rfl
              refine W.widen (k := 0) (n := 0) (Nat.le_of_ble_eq_true rfl) (Nat.le_of_ble_eq_true rfl) ?_
              exact W.zret (v := 1) hx hb hr (mz_nz (by decide +kernel)) (fun t ht hW => ⟨⟨1, (), rfl, Or.inl ⟨rfl, mz_dfx_yes hX_ (fun i hi => (hF_.1 i hi).2) hF_.2.2.1 (by omega) hjy hj_ ho_174⟩, (upd fm6_22 (E_ + 1) (nI (T_ E_))), (upd fm7_22 E_ ((fm7_22 E_) + 1)), by rw [ht]; exact hP9, hD9⟩, hS.F ht⟩) hS.2.2 dX8_joins_181
            · skip
              refine lv_if_eq (tgt := 22) hx hb dX8_joins_177 (by decide) (fun _ => ?_) (fun c_177 => absurd (by decide +kernel) c_177)
              exact ih_22 (mz_ms (mz_up T_ E_ (T_ E_ + 1)) n (E_ + 1)) (by rw [hk_]; exact mz_ms_stay hT_.2) _ _ _ ⟨x7_22, (nI (E_ + 1)), (upd fm6_22 (E_ + 1) (nI (T_ E_))), (upd fm7_22 E_ ((fm7_22 E_) + 1)), hP, hD, hS, lv_sub hl [3, 4, 5, 6, 7, 8, 9, 10] rfl, ⟨E_ + 1, V_, mz_up T_ E_ (T_ E_ + 1), rfl, hD_, (mz_dfs_way (mz_dfs_stay hF_ (by rw [hT_.1]; exact nI_1 _) (by omega))), (mz_dfx_cl hX_ (by omega) ho_174), rfl⟩⟩
        · skip
          refine lv_goto (tgt := 22) hx hb dX8_joins_146 (by decide) ?_
          exact ih_22 (mz_ms (mz_up T_ E_ (T_ E_ + 1)) n (E_ + 1)) (by rw [hk_]; exact mz_ms_stay hT_.2) _ _ _ ⟨x7_22, (nI (E_ + 1)), fm6_22, (upd fm7_22 E_ ((fm7_22 E_) + 1)), hP, hD, hS, lv_sub hl [3, 4, 5, 6, 7, 8, 9, 10] rfl, ⟨E_ + 1, V_, mz_up T_ E_ (T_ E_ + 1), rfl, hD_, (mz_dfs_stay hF_ (by rw [hT_.1]; exact nI_1 _) (by omega)), (mz_dfx_us hX_ (by omega) (mz_t_y (by omega) c_143)), rfl⟩⟩
      · skip
        refine lv_if_ne (tgt := 123) hx hb dX8_joins_105 (by decide) (fun c_105 => absurd (by decide +kernel) c_105) (fun _ => ?_)
        refine lv_aload_n hx hb dX8_joins_108 rfl (lv_at hl 4 rfl) ?_
        refine lv_iload hx hb dX8_joins_109 (lv_at hl 1 rfl) ?_
        refine lv_iload hx hb dX8_joins_111 (lv_at hl 0 rfl) ?_
        refine lv_iload hx hb dX8_joins_113 (lv_at hl 8 rfl) ?_
        refine lv_iload hx hb dX8_joins_115 (lv_at hl 9 rfl) ?_
        have hPc := hP.sub (ws' := [(mo, .inr (8, [.int (nI n), .ref m1, .ref m2, .ref m3, .long ka, .long kb, .ref m6, .ref m7, .ref m8, .ref m9, .ref m10, .ref m11, .ref m12, .ref m13, .ref m14, .ref m15, .ref m16])), (m2, .inl (cI, 8, .inl fp))]) [0, 1] rfl
        refine va_calli (va_runV (As := [.int (nI (T_ E_)), .int (nI (V_ E_)), .int p4, .int p5]) (rest := []) ⟨hx, hb, hml, hown, hts⟩ (mz_s_m_isArrow l dC dI cI cJ cZ mo m1 m2 m3 m6 m7 m8 m9 m10 m11 m12 m13 m14 m15 m16 n ka kb fp (T_ E_) (V_ E_) p4 p5 H (by first | assumption | omega) (by first | assumption | omega)) (cwV 4 hts gX8_joins_X8_isArrow rfl rfl rfl (by decide +kernel) ⟨Nat.le_of_ble_eq_true rfl, Nat.le_of_ble_eq_true rfl⟩) ⟨fun a U g mk q => mz_blP q, va_recv hK hPc (ci := 8) (q0 := 0) rfl rfl, fun U hU hW => ⟨rfl, hU, hPc, va_K.moved hW.alike hK, mz_nw hW hN⟩⟩ rfl rfl hl.1 rfl (lv_room (Nat.le_of_ble_eq_true rfl)) dX8_joins_117 ⟨Nat.le_of_ble_eq_true rfl, Nat.le_of_ble_eq_true rfl⟩) hS (fun q _ h => h.elim) (fun q h => h.elim) (fun r_117 u t H1 locs ht hvm hw_117 hB hz1 hk1 hS => ?_)
        have hE : H = H1 := hB.symm.trans ht
        subst hE
        rcases (show (r_117 = 1 ∧ mz_ar (mz_pwo fp p4 p5) (T_ E_) (V_ E_) = true) ∨ (r_117 = 0 ∧ mz_ar (mz_pwo fp p4 p5) (T_ E_) (V_ E_) = false) from hw_117) with ⟨rfl, ht_117⟩ | ⟨rfl, ht_117⟩
        · skip
          refine lv_if_eq (tgt := 127) hx hb dX8_joins_120 (by decide) (fun c_120 => absurd c_120 (by decide +kernel)) (fun _ => ?_)
          refine lv_iconst (v := 1) hx hb dX8_joins_123 (by decide +kernel) ?_
          refine lv_goto (tgt := 128) hx hb dX8_joins_124 (by decide) ?_
          refine lv_istore (lv' := [(10, .int 1), (9, .int (nI (V_ E_))), (8, .int (nI (T_ E_))), (7, .int x7_22), (6, .int (nI (E_ + 1))), (0, .ref mo), (1, .int (nI i0)), (2, .int (nI jy)), (3, .int p3), (4, .int p4), (5, .int p5)]) hx hb dX8_joins_128 hl (by decide) rfl (fun ls hl => ?_)
          refine lv_iload hx hb dX8_joins_130 (lv_at hl 0 rfl) ?_
          refine lv_if_eq (tgt := 22) hx hb dX8_joins_132 (by decide) (fun c_132 => absurd c_132 (by decide +kernel)) (fun _ => ?_)
          refine lv_iload hx hb dX8_joins_135 (lv_at hl 3 rfl) ?_
          refine lv_iload hx hb dX8_joins_137 (lv_at hl 2 rfl) ?_
          refine lv_ishr hx hb dX8_joins_139 ?_
          refine lv_iconst (v := 1) hx hb dX8_joins_140 (by decide +kernel) ?_
          refine lv_iand hx hb dX8_joins_141 ?_
          refine lv_iconst (v := 1) hx hb dX8_joins_142 (by decide +kernel) ?_
          refine lv_icmp_ne (tgt := 149) hx hb dX8_joins_143 (by decide) (fun c_143 => ?_) (fun c_143 => ?_)
          · skip
            have hb_ := mz_nb (by omega) c_143
            have hr_ := mz_dfs_room hF_ (by omega) hb_
            have hj_ : mz_jn (mz_pwo fp p4 p5) (V_ E_) (T_ E_) := Or.inr ht_117
            refine lv_aload_n hx hb dX8_joins_149 rfl (lv_at hl 5 rfl) ?_
            refine va_get (D := (dC, dI)) (ci := 8) (v := .ref m6) (C := RX8) (T := TX8) (N := 17) hx hb hts hiX8 hown hK hP 0 rfl rfl 6 (by decide) (hts (.fieldLink RX8 24 "MadeItSoModel" "way" "[I") (by decide +kernel)) (fun _ h9 => h9) rfl dX8_joins_150 ?_
            refine lv_iload hx hb dX8_joins_153 (lv_at hl 4 rfl) ?_
            refine lv_iload hx hb dX8_joins_155 (lv_at hl 2 rfl) ?_
            refine va_iast hx hb hK hP hD hS 2 0 rfl rfl (vp_in_nI (by omega) (by omega)) dX8_joins_157 (fun H locs hP hD hS => ?_)
            rw [mz_cl (n := E_ + 1) (by omega)] at hP hD
            have hP : va_P (dC, dI) vwCl [(mo, .inr (8, [.int (nI n), .ref m1, .ref m2, .ref m3, .long ka, .long kb, .ref m6, .ref m7, .ref m8, .ref m9, .ref m10, .ref m11, .ref m12, .ref m13, .ref m14, .ref m15, .ref m16])), (m2, .inl (cI, 8, .inl fp)), (m6, .inl (cI, 8, .inl (upd fm6_22 (E_ + 1) (nI (T_ E_))))), (m7, .inl (cI, 9, .inl (upd fm7_22 E_ ((fm7_22 E_) + 1))))] H := hP
            have hD : va_D A [(mo, .inr (8, [.int (nI n), .ref m1, .ref m2, .ref m3, .long ka, .long kb, .ref m6, .ref m7, .ref m8, .ref m9, .ref m10, .ref m11, .ref m12, .ref m13, .ref m14, .ref m15, .ref m16])), (m2, .inl (cI, 8, .inl fp)), (m6, .inl (cI, 8, .inl (upd fm6_22 (E_ + 1) (nI (T_ E_))))), (m7, .inl (cI, 9, .inl (upd fm7_22 E_ ((fm7_22 E_) + 1))))] := hD
            refine lv_iload hx hb dX8_joins_158 (lv_at hl 2 rfl) ?_
            refine lv_iload_n hx hb dX8_joins_160 rfl (lv_at hl 7 rfl) ?_
            refine lv_icmp_ne (tgt := 182) hx hb dX8_joins_161 (by decide) (fun c_161 => ?_) (fun c_161 => ?_)
            · skip
              have d_161 : ¬ T_ E_ = jy := fun h => c_161 ((nI_eq (a := T_ E_) (b := jy) (by omega) (by omega)).mpr h)
              refine lv_aload_n hx hb dX8_joins_182 rfl (lv_at hl 5 rfl) ?_
              refine va_get (D := (dC, dI)) (ci := 8) (v := .ref m7) (C := RX8) (T := TX8) (N := 17) hx hb hts hiX8 hown hK hP 0 rfl rfl 7 (by decide) (hts (.fieldLink RX8 27 "MadeItSoModel" "tried" "[I") (by decide +kernel)) (fun _ h9 => h9) rfl dX8_joins_183 ?_
              refine lv_iload hx hb dX8_joins_186 (lv_at hl 4 rfl) ?_
              refine lv_iconst (v := 0) hx hb dX8_joins_188 (by decide +kernel) ?_
              refine va_iast hx hb hK hP hD hS 3 0 rfl rfl (vp_in_nI (by omega) (by omega)) dX8_joins_189 (fun H locs hP hD hS => ?_)
              rw [mz_cl (n := E_ + 1) (by omega)] at hP hD
              have hP : va_P (dC, dI) vwCl [(mo, .inr (8, [.int (nI n), .ref m1, .ref m2, .ref m3, .long ka, .long kb, .ref m6, .ref m7, .ref m8, .ref m9, .ref m10, .ref m11, .ref m12, .ref m13, .ref m14, .ref m15, .ref m16])), (m2, .inl (cI, 8, .inl fp)), (m6, .inl (cI, 8, .inl (upd fm6_22 (E_ + 1) (nI (T_ E_))))), (m7, .inl (cI, 9, .inl (upd (upd fm7_22 E_ ((fm7_22 E_) + 1)) (E_ + 1) 0)))] H := hP
              have hD : va_D A [(mo, .inr (8, [.int (nI n), .ref m1, .ref m2, .ref m3, .long ka, .long kb, .ref m6, .ref m7, .ref m8, .ref m9, .ref m10, .ref m11, .ref m12, .ref m13, .ref m14, .ref m15, .ref m16])), (m2, .inl (cI, 8, .inl fp)), (m6, .inl (cI, 8, .inl (upd fm6_22 (E_ + 1) (nI (T_ E_))))), (m7, .inl (cI, 9, .inl (upd (upd fm7_22 E_ ((fm7_22 E_) + 1)) (E_ + 1) 0)))] := hD
              refine lv_iload hx hb dX8_joins_190 (lv_at hl 3 rfl) ?_
              refine lv_iconst (v := 1) hx hb dX8_joins_192 (by decide +kernel) ?_
              refine lv_iload hx hb dX8_joins_193 (lv_at hl 2 rfl) ?_
              refine lv_ishl hx hb dX8_joins_195 ?_
              refine lv_ior hx hb dX8_joins_196 ?_
              refine lv_istore (lv' := [(7, .int (x7_22 ||| (1 <<< ((nI (T_ E_)) &&& 31)))), (10, .int 1), (9, .int (nI (V_ E_))), (8, .int (nI (T_ E_))), (6, .int (nI (E_ + 1))), (0, .ref mo), (1, .int (nI i0)), (2, .int (nI jy)), (3, .int p3), (4, .int p4), (5, .int p5)]) hx hb dX8_joins_197 hl (by decide) rfl (fun ls hl => ?_)
              refine lv_iinc (v := (nI (E_ + 1 + 1))) (lv' := [(6, .int (nI (E_ + 1 + 1))), (7, .int (x7_22 ||| (1 <<< ((nI (T_ E_)) &&& 31)))), (10, .int 1), (9, .int (nI (V_ E_))), (8, .int (nI (T_ E_))), (0, .ref mo), (1, .int (nI i0)), (2, .int (nI jy)), (3, .int p3), (4, .int p4), (5, .int p5)]) hx hb dX8_joins_199 hl (k := 4) rfl (nI_1 _) (by decide) rfl (fun ls hl => ?_)
              refine lv_goto (tgt := 22) hx hb dX8_joins_202 (by decide) ?_
              exact ih_22 (mz_ms (mz_up (mz_up T_ E_ (T_ E_ + 1)) (E_ + 1) 0) n (E_ + 2)) (by rw [hk_]; exact mz_ms_push hT_.2 hn (by omega)) _ _ _ ⟨(x7_22 ||| (1 <<< ((nI (T_ E_)) &&& 31))), (nI (E_ + 1 + 1)), (upd fm6_22 (E_ + 1) (nI (T_ E_))), (upd (upd fm7_22 E_ ((fm7_22 E_) + 1)) (E_ + 1) 0), hP, hD, hS, lv_sub hl [1, 0, 5, 6, 7, 8, 9, 10] rfl, ⟨E_ + 2, mz_up V_ (E_ + 1) (T_ E_), mz_up (mz_up T_ E_ (T_ E_ + 1)) (E_ + 1) 0, rfl, by omega, mz_dfs_push hn (mz_dfs_stay hF_ (by rw [hT_.1]; exact nI_1 _) (by omega)) (by omega) hb_, mz_dfx_push hn hX_ (by omega) (by omega) hj_, rfl⟩⟩
            · skip
              have d_161 : T_ E_ = jy := (nI_eq (a := T_ E_) (b := jy) (by omega) (by omega)).mp c_161
              refine lv_aload_n hx hb dX8_joins_164 rfl (lv_at hl 5 rfl) ?_
              refine lv_iload hx hb dX8_joins_165 (lv_at hl 4 rfl) ?_
              refine lv_iconst (v := 1) hx hb dX8_joins_167 (by decide +kernel) ?_
              refine lv_iadd hx hb dX8_joins_168 ?_
              refine mz_ti (y := (nI (E_ + 1 + 1))) (nI_add _ _) ?_
              refine lv_iload_n hx hb dX8_joins_169 rfl (lv_at hl 8 rfl) ?_
              refine lv_iload hx hb dX8_joins_170 (lv_at hl 9 rfl) ?_
              refine lv_iload hx hb dX8_joins_172 (lv_at hl 10 rfl) ?_
              have hPc := hP.sub (ws' := [(mo, .inr (8, [.int (nI n), .ref m1, .ref m2, .ref m3, .long ka, .long kb, .ref m6, .ref m7, .ref m8, .ref m9, .ref m10, .ref m11, .ref m12, .ref m13, .ref m14, .ref m15, .ref m16])), (m2, .inl (cI, 8, .inl fp)), (m6, .inl (cI, 8, .inl (upd fm6_22 (E_ + 1) (nI (T_ E_)))))]) [0, 1, 2] rfl
              refine va_calli (va_runV (As := [.int (nI (E_ + 1 + 1)), .int p3, .int p4, .int p5]) (rest := []) ⟨hx, hb, hml, hown, hts⟩ (mz_s_m_isOpen l dC dI cI cJ cZ mo m1 m2 m3 m6 m7 m8 m9 m10 m11 m12 m13 m14 m15 m16 n ka kb fp (upd fm6_22 (E_ + 1) (nI (T_ E_))) (E_ + 1 + 1) (mz_up V_ (E_ + 1) (T_ E_)) p3 p4 p5 H (by first | assumption | omega) (by first | assumption | omega) (by first | assumption | omega) (mz_upf (fun i hi => hF_.1 i hi) (by omega))) (cwV 4 hts gX8_joins_X8_isOpen rfl rfl rfl (by decide +kernel) ⟨Nat.le_of_ble_eq_true rfl, Nat.le_of_ble_eq_true rfl⟩) ⟨fun a U g mk q => mz_blP q, va_recv hK hPc (ci := 8) (q0 := 0) rfl rfl, fun U hU hW => ⟨rfl, hU, hPc, va_K.moved hW.alike hK, mz_nw hW hN⟩⟩ rfl rfl hl.1 rfl (lv_room (Nat.le_of_ble_eq_true rfl)) dX8_joins_174 ⟨Nat.le_of_ble_eq_true rfl, Nat.le_of_ble_eq_true rfl⟩) hS (fun q _ h => h.elim) (fun q h => h.elim) (fun r_174 u t H1 locs ht hvm hw_174 hB hz1 hk1 hS => ?_)
              have hE : H = H1 := hB.symm.trans ht
              subst hE
              rcases (show (r_174 = 1 ∧ ∀ k, 0 < k → k + 1 < (E_ + 1 + 1) → mz_opn (mz_pwo fp p4 p5) p3 (mz_Mm n (mz_pwo fp p4 p5) p3) (mz_up V_ (E_ + 1) (T_ E_)) k) ∨ (r_174 = 0 ∧ ¬ ∀ k, 0 < k → k + 1 < (E_ + 1 + 1) → mz_opn (mz_pwo fp p4 p5) p3 (mz_Mm n (mz_pwo fp p4 p5) p3) (mz_up V_ (E_ + 1) (T_ E_)) k) from hw_174) with ⟨rfl, ho_174⟩ | ⟨rfl, ho_174⟩
              · skip
                refine lv_if_eq (tgt := 22) hx hb dX8_joins_177 (by decide) (fun c_177 => absurd c_177 (by decide +kernel)) (fun _ => ?_)
                refine lv_iconst (v := 1) hx hb dX8_joins_180 (by decide +kernel) ?_
                have hP9 := hP.sub (ws' := [(mo, .inr (8, [.int (nI n), .ref m1, .ref m2, .ref m3, .long ka, .long kb, .ref m6, .ref m7, .ref m8, .ref m9, .ref m10, .ref m11, .ref m12, .ref m13, .ref m14, .ref m15, .ref m16])), (m2, .inl (cI, 8, .inl fp)), (m6, .inl (cI, 8, .inl (upd fm6_22 (E_ + 1) (nI (T_ E_))))), (m7, .inl (cI, 9, .inl (upd fm7_22 E_ ((fm7_22 E_) + 1))))]) [0, 1, 2, 3] rfl
                have hD9 := hD.sub (ws' := [(mo, .inr (8, [.int (nI n), .ref m1, .ref m2, .ref m3, .long ka, .long kb, .ref m6, .ref m7, .ref m8, .ref m9, .ref m10, .ref m11, .ref m12, .ref m13, .ref m14, .ref m15, .ref m16])), (m2, .inl (cI, 8, .inl fp)), (m6, .inl (cI, 8, .inl (upd fm6_22 (E_ + 1) (nI (T_ E_))))), (m7, .inl (cI, 9, .inl (upd fm7_22 E_ ((fm7_22 E_) + 1))))]) [0, 1, 2, 3] (by decide) rfl
                refine W.widen (k := 0) (n := 0) (Nat.le_of_ble_eq_true rfl) (Nat.le_of_ble_eq_true rfl) ?_
                exact W.zret (v := 1) hx hb hr (mz_nz (by decide +kernel)) (fun t ht hW => ⟨⟨1, (), rfl, Or.inl ⟨rfl, mz_dfx_yes hX_ (fun i hi => (hF_.1 i hi).2) hF_.2.2.1 (by omega) hjy hj_ ho_174⟩, (upd fm6_22 (E_ + 1) (nI (T_ E_))), (upd fm7_22 E_ ((fm7_22 E_) + 1)), by rw [ht]; exact hP9, hD9⟩, hS.F ht⟩) hS.2.2 dX8_joins_181
              · skip
                refine lv_if_eq (tgt := 22) hx hb dX8_joins_177 (by decide) (fun _ => ?_) (fun c_177 => absurd (by decide +kernel) c_177)
                exact ih_22 (mz_ms (mz_up T_ E_ (T_ E_ + 1)) n (E_ + 1)) (by rw [hk_]; exact mz_ms_stay hT_.2) _ _ _ ⟨x7_22, (nI (E_ + 1)), (upd fm6_22 (E_ + 1) (nI (T_ E_))), (upd fm7_22 E_ ((fm7_22 E_) + 1)), hP, hD, hS, lv_sub hl [3, 4, 5, 6, 7, 8, 9, 10] rfl, ⟨E_ + 1, V_, mz_up T_ E_ (T_ E_ + 1), rfl, hD_, (mz_dfs_way (mz_dfs_stay hF_ (by rw [hT_.1]; exact nI_1 _) (by omega))), (mz_dfx_cl hX_ (by omega) ho_174), rfl⟩⟩
          · skip
            refine lv_goto (tgt := 22) hx hb dX8_joins_146 (by decide) ?_
            exact ih_22 (mz_ms (mz_up T_ E_ (T_ E_ + 1)) n (E_ + 1)) (by rw [hk_]; exact mz_ms_stay hT_.2) _ _ _ ⟨x7_22, (nI (E_ + 1)), fm6_22, (upd fm7_22 E_ ((fm7_22 E_) + 1)), hP, hD, hS, lv_sub hl [3, 4, 5, 6, 7, 8, 9, 10] rfl, ⟨E_ + 1, V_, mz_up T_ E_ (T_ E_ + 1), rfl, hD_, (mz_dfs_stay hF_ (by rw [hT_.1]; exact nI_1 _) (by omega)), (mz_dfx_us hX_ (by omega) (mz_t_y (by omega) c_143)), rfl⟩⟩
        · skip
          refine lv_if_eq (tgt := 127) hx hb dX8_joins_120 (by decide) (fun _ => ?_) (fun c_120 => absurd (by decide +kernel) c_120)
          refine lv_iconst (v := 0) hx hb dX8_joins_127 (by decide +kernel) ?_
          refine lv_istore (lv' := [(10, .int 0), (9, .int (nI (V_ E_))), (8, .int (nI (T_ E_))), (7, .int x7_22), (6, .int (nI (E_ + 1))), (0, .ref mo), (1, .int (nI i0)), (2, .int (nI jy)), (3, .int p3), (4, .int p4), (5, .int p5)]) hx hb dX8_joins_128 hl (by decide) rfl (fun ls hl => ?_)
          refine lv_iload hx hb dX8_joins_130 (lv_at hl 0 rfl) ?_
          refine lv_if_eq (tgt := 22) hx hb dX8_joins_132 (by decide) (fun _ => ?_) (fun c_132 => absurd (by decide +kernel) c_132)
          exact ih_22 (mz_ms (mz_up T_ E_ (T_ E_ + 1)) n (E_ + 1)) (by rw [hk_]; exact mz_ms_stay hT_.2) _ _ _ ⟨x7_22, (nI (E_ + 1)), fm6_22, (upd fm7_22 E_ ((fm7_22 E_) + 1)), hP, hD, hS, lv_sub hl [3, 4, 5, 6, 7, 8, 9, 10] rfl, ⟨E_ + 1, V_, mz_up T_ E_ (T_ E_ + 1), rfl, hD_, (mz_dfs_stay hF_ (by rw [hT_.1]; exact nI_1 _) (by omega)), (mz_dfx_nj hX_ ht_102 ht_117), rfl⟩⟩
    · skip
      have d_57 : T_ E_ = n := (nI_eq (a := T_ E_) (b := n) (by omega) (by omega)).mp c_57
      refine lv_iinc (v := (nI E_)) (lv' := [(6, .int (nI E_)), (8, .int (nI (T_ E_))), (7, .int x7_22), (0, .ref mo), (1, .int (nI i0)), (2, .int (nI jy)), (3, .int p3), (4, .int p4), (5, .int p5)]) hx hb dX8_joins_60 hl (k := 2) rfl (pk_m1 _) (by decide) rfl (fun ls hl => ?_)
      refine lv_iload hx hb dX8_joins_63 (lv_at hl 2 rfl) ?_
      refine lv_iconst (v := 1) hx hb dX8_joins_65 (by decide +kernel) ?_
      refine lv_aload_n hx hb dX8_joins_66 rfl (lv_at hl 3 rfl) ?_
      refine va_get (D := (dC, dI)) (ci := 8) (v := .ref m6) (C := RX8) (T := TX8) (N := 17) hx hb hts hiX8 hown hK hP 0 rfl rfl 6 (by decide) (hts (.fieldLink RX8 24 "MadeItSoModel" "way" "[I") (by decide +kernel)) (fun _ h9 => h9) rfl dX8_joins_67 ?_
      refine lv_iload hx hb dX8_joins_70 (lv_at hl 0 rfl) ?_
      refine va_iald hx hb hK hP 2 0 rfl rfl (vp_in_nI (by omega) (by omega)) dX8_joins_72 ?_
      refine mz_ti (y := (fm6_22 E_)) (by rw [mz_cl (by omega)]) ?_
      refine lv_ishl hx hb dX8_joins_73 ?_
      refine lv_iconst (v := (-1)) hx hb dX8_joins_74 (by decide +kernel) ?_
      refine lv_ixor hx hb dX8_joins_75 ?_
      refine lv_iand hx hb dX8_joins_76 ?_
      refine lv_istore (lv' := [(7, .int (x7_22 &&& ((1 <<< ((fm6_22 E_) &&& 31)) ^^^ (-1)))), (6, .int (nI E_)), (8, .int (nI (T_ E_))), (0, .ref mo), (1, .int (nI i0)), (2, .int (nI jy)), (3, .int p3), (4, .int p4), (5, .int p5)]) hx hb dX8_joins_77 hl (by decide) rfl (fun ls hl => ?_)
      refine lv_goto (tgt := 22) hx hb dX8_joins_79 (by decide) ?_
      exact ih_22 (mz_ms T_ n E_) (by rw [hk_]; exact mz_ms_pop hT_.2) _ _ _ ⟨(x7_22 &&& ((1 <<< ((fm6_22 E_) &&& 31)) ^^^ (-1))), (nI E_), fm6_22, (upd fm7_22 E_ ((fm7_22 E_) + 1)), hP, hD, hS, lv_sub hl [0, 1, 3, 4, 5, 6, 7, 8] rfl, ⟨E_, V_, T_, rfl, by omega, mz_dfs_pop hn hF_, (by have h9 := mz_dfx_pop hn (fun i hi => (hF_.1 i hi).2) (by omega) hX_; rw [← hV_.1] at h9; exact h9), rfl⟩⟩
set_option maxHeartbeats 1000000 in
set_option maxRecDepth 100000 in
theorem mz_s_m_barred (l : Launch) (dC : Nat → ClassId) (dI : Nat → Nat → Nat) (cI cJ cZ : ClassId) (mo : Nat) (m1 : Nat) (m2 : Nat) (m3 : Nat) (m6 : Nat) (m7 : Nat) (m8 : Nat) (m9 : Nat) (m10 : Nat) (m11 : Nat) (m12 : Nat) (m13 : Nat) (m14 : Nat) (m15 : Nat) (m16 : Nat) (n : Nat) (ka : Int64) (kb : Int64) (fp : Nat → Int32) (fw : Nat → Int32) (ft : Nat → Int32) (p1 : Int32) (p2 : Int32) (p3 : Int32) (p4 : Int32) (p5 : Int32) (sz : Nat) (hn : n ≤ 8) (hgw : ∀ k, k < n → ∀ j, j < 32 → mz_t (mz_pwo fp p4 p5 k) j = true → j < n) (hdd : p1 &&& p2 = 0) : Met l yX8_barred wsX8_barred ({ frames := 4, cells := 0, slots := 0, locals := 109 }) (va_Pc [.ref mo, .int p1, .int p2, .int p3, .int p4, .int p5] (fun U => U.heap.size = sz ∧ va_P (dC, dI) vwCl [(mo, .inr (8, [.int (nI n), .ref m1, .ref m2, .ref m3, .long ka, .long kb, .ref m6, .ref m7, .ref m8, .ref m9, .ref m10, .ref m11, .ref m12, .ref m13, .ref m14, .ref m15, .ref m16])), (m2, .inl (cI, 8, .inl fp)), (m6, .inl (cI, 8, .inl fw)), (m7, .inl (cI, 9, .inl ft))] U.heap ∧ va_K (dC, dI) vwCl [(cI, FieldType.int), (cJ, FieldType.long), (cZ, FieldType.boolean)] U ∧ va_D (fun _ => True) [(mo, .inr (8, [.int (nI n), .ref m1, .ref m2, .ref m3, .long ka, .long kb, .ref m6, .ref m7, .ref m8, .ref m9, .ref m10, .ref m11, .ref m12, .ref m13, .ref m14, .ref m15, .ref m16])), (m2, .inl (cI, 8, .inl fp)), (m6, .inl (cI, 8, .inl fw)), (m7, .inl (cI, 9, .inl ft))] ∧ mz_N U)) (va_Qi (fun (r : Int32) (_ : Unit) => (r = 1 ∧ ¬ (∃ ia ka, ia < n ∧ ka < n ∧ mz_t p1 ia = true ∧ mz_t p2 ka = true ∧ mz_pth n (mz_pwo fp p4 p5) p3 (mz_Mm n (mz_pwo fp p4 p5) p3) ia ka)) ∨ (r = 0 ∧ ∃ ia ka, ia < n ∧ ka < n ∧ mz_t p1 ia = true ∧ mz_t p2 ka = true ∧ mz_pth n (mz_pwo fp p4 p5) p3 (mz_Mm n (mz_pwo fp p4 p5) p3) ia ka)) (fun _ t => ∃ (gw : Nat → Int32), ∃ (gt : Nat → Int32), va_P (dC, dI) vwCl [(mo, .inr (8, [.int (nI n), .ref m1, .ref m2, .ref m3, .long ka, .long kb, .ref m6, .ref m7, .ref m8, .ref m9, .ref m10, .ref m11, .ref m12, .ref m13, .ref m14, .ref m15, .ref m16])), (m2, .inl (cI, 8, .inl fp)), (m6, .inl (cI, 8, .inl gw)), (m7, .inl (cI, 9, .inl gt))] t.heap ∧ va_D (va_A [(mo, .inr (8, [.int (nI n), .ref m1, .ref m2, .ref m3, .long ka, .long kb, .ref m6, .ref m7, .ref m8, .ref m9, .ref m10, .ref m11, .ref m12, .ref m13, .ref m14, .ref m15, .ref m16])), (m2, .inl (cI, 8, .inl fp)), (m6, .inl (cI, 8, .inl fw)), (m7, .inl (cI, 9, .inl ft))] sz) [(mo, .inr (8, [.int (nI n), .ref m1, .ref m2, .ref m3, .long ka, .long kb, .ref m6, .ref m7, .ref m8, .ref m9, .ref m10, .ref m11, .ref m12, .ref m13, .ref m14, .ref m15, .ref m16])), (m2, .inl (cI, 8, .inl fp)), (m6, .inl (cI, 8, .inl gw)), (m7, .inl (cI, 9, .inl gt))]) (va_A [(mo, .inr (8, [.int (nI n), .ref m1, .ref m2, .ref m3, .long ka, .long kb, .ref m6, .ref m7, .ref m8, .ref m9, .ref m10, .ref m11, .ref m12, .ref m13, .ref m14, .ref m15, .ref m16])), (m2, .inl (cI, 8, .inl fp)), (m6, .inl (cI, 8, .inl fw)), (m7, .inl (cI, 9, .inl ft))] sz)) 0 0 (va_A [(mo, .inr (8, [.int (nI n), .ref m1, .ref m2, .ref m3, .long ka, .long kb, .ref m6, .ref m7, .ref m8, .ref m9, .ref m10, .ref m11, .ref m12, .ref m13, .ref m14, .ref m15, .ref m16])), (m2, .inl (cI, 8, .inl fp)), (m6, .inl (cI, 8, .inl fw)), (m7, .inl (cI, 9, .inl ft))] sz) := by
  refine Met.ofW (cc := cX8_barred) (maxL := 8) (ret := (some .boolean)) (by decide) rfl ?_
  intro p e s m args below meth c s₁ B hml hv
  obtain ⟨rfl, hsz, hP, hK, hD0, hN⟩ := hv
  subst hsz
  have hx := B.exec
  have hb := B.bytes
  have hr := B.returns
  have hts := atoms_spec (ws := wsX8_barred) B.pre
  have hown : s.vm.findClass RX8 = some m.cls := findClass_of_methodNamed B.named
  have hlocks := B.notSynchronized
  have hD := hD0.self (sz := s.heap.size)
  generalize hAe : va_A [(mo, .inr (8, [.int (nI n), .ref m1, .ref m2, .ref m3, .long ka, .long kb, .ref m6, .ref m7, .ref m8, .ref m9, .ref m10, .ref m11, .ref m12, .ref m13, .ref m14, .ref m15, .ref m16])), (m2, .inl (cI, 8, .inl fp)), (m6, .inl (cI, 8, .inl fw)), (m7, .inl (cI, 9, .inl ft))] s.heap.size = A at hD ⊢
  have hA : ∀ q : Nat, s.heap.size ≤ q → A q := fun q h => by rw [← hAe]; exact Or.inr h
  have hS : va_S A s.heap s.heap [] := va_S.rf
  have hiX8 : ∀ w ∈ u_ws RX8 TX8 17, w ∈ wsX8_barred := by decide +kernel
  have hl := lv_entry ([.ref mo, .int p1, .int p2, .int p3, .int p4, .int p5]) (n := 8) (Nat.le_of_ble_eq_true rfl)
  rw [lg_entry_eq]
  generalize (lg_sl ([.ref mo, .int p1, .int p2, .int p3, .int p4, .int p5]) ++ List.replicate (8 - (lg_sl ([.ref mo, .int p1, .int p2, .int p3, .int p4, .int p5])).length) Slot.unset).toArray = ls at hl ⊢
  have hl : lv_has ls 8 [(0, .ref mo), (1, .int p1), (2, .int p2), (3, .int p3), (4, .int p4), (5, .int p5)] := hl
  refine lv_iconst (v := 0) hx hb dX8_barred_0 (by decide +kernel) ?_
  refine lv_istore (lv' := [(6, .int 0), (0, .ref mo), (1, .int p1), (2, .int p2), (3, .int p3), (4, .int p4), (5, .int p5)]) hx hb dX8_barred_1 hl (by decide) rfl (fun ls hl => ?_)
  refine mz_loopU (fun k H locs ls => ∃ (i_3 : Nat), ∃ (fm6_3 : Nat → Int32), ∃ (fm7_3 : Nat → Int32), i_3 ≤ n ∧ (∀ i k, i < i_3 → k < n → mz_t p1 i = true → mz_t p2 k = true → ¬ mz_pth n (mz_pwo fp p4 p5) p3 (mz_Mm n (mz_pwo fp p4 p5) p3) i k) ∧ va_P (dC, dI) vwCl [(mo, .inr (8, [.int (nI n), .ref m1, .ref m2, .ref m3, .long ka, .long kb, .ref m6, .ref m7, .ref m8, .ref m9, .ref m10, .ref m11, .ref m12, .ref m13, .ref m14, .ref m15, .ref m16])), (m2, .inl (cI, 8, .inl fp)), (m6, .inl (cI, 8, .inl fm6_3)), (m7, .inl (cI, 9, .inl fm7_3))] H ∧ va_D A [(mo, .inr (8, [.int (nI n), .ref m1, .ref m2, .ref m3, .long ka, .long kb, .ref m6, .ref m7, .ref m8, .ref m9, .ref m10, .ref m11, .ref m12, .ref m13, .ref m14, .ref m15, .ref m16])), (m2, .inl (cI, 8, .inl fp)), (m6, .inl (cI, 8, .inl fm6_3)), (m7, .inl (cI, 9, .inl fm7_3))] ∧ va_S A s.heap H locs ∧ lv_has ls 8 [(6, .int (nI i_3)), (0, .ref mo), (1, .int p1), (2, .int p2), (3, .int p3), (4, .int p4), (5, .int p5)] ∧ k = n - i_3) ?_ _ _ _ _ ⟨0, fw, ft, by omega, (fun i k hi => absurd hi (Nat.not_lt_zero i)), hP, hD, hS, lv_sub hl [0, 1, 2, 3, 4, 5, 6] rfl, rfl⟩
  intro k_3 H locs ls hI_3 ih_3
  obtain ⟨i_3, fm6_3, fm7_3, hi_3, hn3_3, hP, hD, hS, hl, hk_3⟩ := hI_3
  refine lv_iload hx hb dX8_barred_3 (lv_at hl 0 rfl) ?_
  refine lv_aload_n hx hb dX8_barred_5 rfl (lv_at hl 1 rfl) ?_
  refine va_get (D := (dC, dI)) (ci := 8) (v := .int (nI n)) (C := RX8) (T := TX8) (N := 17) hx hb hts hiX8 hown hK hP 0 rfl rfl 0 (by decide) (hts (.fieldLink RX8 58 "MadeItSoModel" "many" "I") (by decide +kernel)) (fun _ h9 => h9) rfl dX8_barred_6 ?_
  refine lv_icmp_ge (tgt := 74) hx hb dX8_barred_9 (by decide) (fun c_9 => ?_) (fun c_9 => ?_)
  · skip
    have d_9 : n ≤ i_3 := (nI_leI (a := n) (b := i_3) (by omega) (by omega)).mp c_9
    refine lv_iconst (v := 1) hx hb dX8_barred_74 (by decide +kernel) ?_
    have hP9 := hP.sub (ws' := [(mo, .inr (8, [.int (nI n), .ref m1, .ref m2, .ref m3, .long ka, .long kb, .ref m6, .ref m7, .ref m8, .ref m9, .ref m10, .ref m11, .ref m12, .ref m13, .ref m14, .ref m15, .ref m16])), (m2, .inl (cI, 8, .inl fp)), (m6, .inl (cI, 8, .inl fm6_3)), (m7, .inl (cI, 9, .inl fm7_3))]) [0, 1, 2, 3] rfl
    have hD9 := hD.sub (ws' := [(mo, .inr (8, [.int (nI n), .ref m1, .ref m2, .ref m3, .long ka, .long kb, .ref m6, .ref m7, .ref m8, .ref m9, .ref m10, .ref m11, .ref m12, .ref m13, .ref m14, .ref m15, .ref m16])), (m2, .inl (cI, 8, .inl fp)), (m6, .inl (cI, 8, .inl fm6_3)), (m7, .inl (cI, 9, .inl fm7_3))]) [0, 1, 2, 3] (by decide) rfl
    refine W.widen (k := 0) (n := 0) (Nat.le_of_ble_eq_true rfl) (Nat.le_of_ble_eq_true rfl) ?_
    exact W.zret (v := 1) hx hb hr (mz_nz (by decide +kernel)) (fun t ht hW => ⟨⟨1, (), rfl, Or.inl ⟨rfl, fun ⟨i, k, h1, h2, h3, h4, h5⟩ => hn3_3 i k (by omega) h2 h3 h4 h5⟩, fm6_3, fm7_3, by rw [ht]; exact hP9, hD9⟩, hS.F ht⟩) hS.2.2 dX8_barred_75
  · skip
    have d_9 : ¬ n ≤ i_3 := fun h => c_9 ((nI_leI (a := n) (b := i_3) (by omega) (by omega)).mpr h)
    refine lv_iconst (v := 0) hx hb dX8_barred_12 (by decide +kernel) ?_
    refine lv_istore (lv' := [(7, .int 0), (6, .int (nI i_3)), (0, .ref mo), (1, .int p1), (2, .int p2), (3, .int p3), (4, .int p4), (5, .int p5)]) hx hb dX8_barred_13 hl (by decide) rfl (fun ls hl => ?_)
    refine mz_loopU (fun k H locs ls => ∃ (i_15 : Nat), ∃ (fm6_15 : Nat → Int32), ∃ (fm7_15 : Nat → Int32), i_15 ≤ n ∧ (∀ k, k < i_15 → mz_t p1 i_3 = true → mz_t p2 k = true → ¬ mz_pth n (mz_pwo fp p4 p5) p3 (mz_Mm n (mz_pwo fp p4 p5) p3) i_3 k) ∧ va_P (dC, dI) vwCl [(mo, .inr (8, [.int (nI n), .ref m1, .ref m2, .ref m3, .long ka, .long kb, .ref m6, .ref m7, .ref m8, .ref m9, .ref m10, .ref m11, .ref m12, .ref m13, .ref m14, .ref m15, .ref m16])), (m2, .inl (cI, 8, .inl fp)), (m6, .inl (cI, 8, .inl fm6_15)), (m7, .inl (cI, 9, .inl fm7_15))] H ∧ va_D A [(mo, .inr (8, [.int (nI n), .ref m1, .ref m2, .ref m3, .long ka, .long kb, .ref m6, .ref m7, .ref m8, .ref m9, .ref m10, .ref m11, .ref m12, .ref m13, .ref m14, .ref m15, .ref m16])), (m2, .inl (cI, 8, .inl fp)), (m6, .inl (cI, 8, .inl fm6_15)), (m7, .inl (cI, 9, .inl fm7_15))] ∧ va_S A s.heap H locs ∧ lv_has ls 8 [(7, .int (nI i_15)), (6, .int (nI i_3)), (0, .ref mo), (1, .int p1), (2, .int p2), (3, .int p3), (4, .int p4), (5, .int p5)] ∧ k = n - i_15) ?_ _ _ _ _ ⟨0, fm6_3, fm7_3, by omega, (fun k hk => absurd hk (Nat.not_lt_zero k)), hP, hD, hS, lv_sub hl [0, 1, 2, 3, 4, 5, 6, 7] rfl, rfl⟩
    intro k_15 H locs ls hI_15 ih_15
    obtain ⟨i_15, fm6_15, fm7_15, hi_15, hn15_15, hP, hD, hS, hl, hk_15⟩ := hI_15
    refine lv_iload hx hb dX8_barred_15 (lv_at hl 0 rfl) ?_
    refine lv_aload_n hx hb dX8_barred_17 rfl (lv_at hl 2 rfl) ?_
    refine va_get (D := (dC, dI)) (ci := 8) (v := .int (nI n)) (C := RX8) (T := TX8) (N := 17) hx hb hts hiX8 hown hK hP 0 rfl rfl 0 (by decide) (hts (.fieldLink RX8 58 "MadeItSoModel" "many" "I") (by decide +kernel)) (fun _ h9 => h9) rfl dX8_barred_18 ?_
    refine lv_icmp_ge (tgt := 68) hx hb dX8_barred_21 (by decide) (fun c_21 => ?_) (fun c_21 => ?_)
    · skip
      have d_21 : n ≤ i_15 := (nI_leI (a := n) (b := i_15) (by omega) (by omega)).mp c_21
      refine lv_iinc (v := (nI (i_3 + 1))) (lv' := [(6, .int (nI (i_3 + 1))), (7, .int (nI i_15)), (0, .ref mo), (1, .int p1), (2, .int p2), (3, .int p3), (4, .int p4), (5, .int p5)]) hx hb dX8_barred_68 hl (k := 1) rfl (nI_1 _) (by decide) rfl (fun ls hl => ?_)
      refine lv_goto (tgt := 3) hx hb dX8_barred_71 (by decide) ?_
      exact ih_3 _ (by omega) _ _ _ ⟨(i_3 + 1), fm6_15, fm7_15, by omega, (fun i k hi hk hx hy => by (by_cases e : i = i_3; (subst e; exact hn15_15 k (by omega) hx hy); exact hn3_3 i k (by omega) hk hx hy)), hP, hD, hS, lv_sub hl [0, 2, 3, 4, 5, 6, 7] rfl, rfl⟩
    · skip
      have d_21 : ¬ n ≤ i_15 := fun h => c_21 ((nI_leI (a := n) (b := i_15) (by omega) (by omega)).mpr h)
      refine lv_iload_n hx hb dX8_barred_24 rfl (lv_at hl 3 rfl) ?_
      refine lv_iload hx hb dX8_barred_25 (lv_at hl 1 rfl) ?_
      refine lv_ishr hx hb dX8_barred_27 ?_
      refine lv_iconst (v := 1) hx hb dX8_barred_28 (by decide +kernel) ?_
      refine lv_iand hx hb dX8_barred_29 ?_
      refine lv_iconst (v := 1) hx hb dX8_barred_30 (by decide +kernel) ?_
      refine lv_icmp_ne (tgt := 62) hx hb dX8_barred_31 (by decide) (fun c_31 => ?_) (fun c_31 => ?_)
      · skip
        refine lv_iinc (v := (nI (i_15 + 1))) (lv' := [(7, .int (nI (i_15 + 1))), (6, .int (nI i_3)), (0, .ref mo), (1, .int p1), (2, .int p2), (3, .int p3), (4, .int p4), (5, .int p5)]) hx hb dX8_barred_62 hl (k := 0) rfl (nI_1 _) (by decide) rfl (fun ls hl => ?_)
        refine lv_goto (tgt := 15) hx hb dX8_barred_65 (by decide) ?_
        exact ih_15 _ (by omega) _ _ _ ⟨(i_15 + 1), fm6_15, fm7_15, by omega, (fun k hk hx hy => by (rw [mz_t_n (by omega) c_31] at hx; cases hx)), hP, hD, hS, lv_sub hl [0, 1, 2, 3, 4, 5, 6, 7] rfl, rfl⟩
      · skip
        refine lv_iload_n hx hb dX8_barred_34 rfl (lv_at hl 4 rfl) ?_
        refine lv_iload hx hb dX8_barred_35 (lv_at hl 0 rfl) ?_
        refine lv_ishr hx hb dX8_barred_37 ?_
        refine lv_iconst (v := 1) hx hb dX8_barred_38 (by decide +kernel) ?_
        refine lv_iand hx hb dX8_barred_39 ?_
        refine lv_iconst (v := 1) hx hb dX8_barred_40 (by decide +kernel) ?_
        refine lv_icmp_ne (tgt := 62) hx hb dX8_barred_41 (by decide) (fun c_41 => ?_) (fun c_41 => ?_)
        · skip
          refine lv_iinc (v := (nI (i_15 + 1))) (lv' := [(7, .int (nI (i_15 + 1))), (6, .int (nI i_3)), (0, .ref mo), (1, .int p1), (2, .int p2), (3, .int p3), (4, .int p4), (5, .int p5)]) hx hb dX8_barred_62 hl (k := 0) rfl (nI_1 _) (by decide) rfl (fun ls hl => ?_)
          refine lv_goto (tgt := 15) hx hb dX8_barred_65 (by decide) ?_
          exact ih_15 _ (by omega) _ _ _ ⟨(i_15 + 1), fm6_15, fm7_15, by omega, (fun k hk hx hy => by (by_cases e : k = i_15; (subst e; rw [mz_t_n (by omega) c_41] at hy; cases hy); exact hn15_15 k (by omega) hx hy)), hP, hD, hS, lv_sub hl [0, 1, 2, 3, 4, 5, 6, 7] rfl, rfl⟩
        · skip
          refine lv_aload_n hx hb dX8_barred_44 rfl (lv_at hl 2 rfl) ?_
          refine lv_iload hx hb dX8_barred_45 (lv_at hl 1 rfl) ?_
          refine lv_iload hx hb dX8_barred_47 (lv_at hl 0 rfl) ?_
          refine lv_iload_n hx hb dX8_barred_49 rfl (lv_at hl 5 rfl) ?_
          refine lv_iload hx hb dX8_barred_50 (lv_at hl 6 rfl) ?_
          refine lv_iload hx hb dX8_barred_52 (lv_at hl 7 rfl) ?_
          have hPc := hP.sub (ws' := [(mo, .inr (8, [.int (nI n), .ref m1, .ref m2, .ref m3, .long ka, .long kb, .ref m6, .ref m7, .ref m8, .ref m9, .ref m10, .ref m11, .ref m12, .ref m13, .ref m14, .ref m15, .ref m16])), (m2, .inl (cI, 8, .inl fp)), (m6, .inl (cI, 8, .inl fm6_15)), (m7, .inl (cI, 9, .inl fm7_15))]) [0, 1, 2, 3] rfl
          have hDc := hD.sub (ws' := [(mo, .inr (8, [.int (nI n), .ref m1, .ref m2, .ref m3, .long ka, .long kb, .ref m6, .ref m7, .ref m8, .ref m9, .ref m10, .ref m11, .ref m12, .ref m13, .ref m14, .ref m15, .ref m16])), (m2, .inl (cI, 8, .inl fp)), (m6, .inl (cI, 8, .inl fm6_15)), (m7, .inl (cI, 9, .inl fm7_15))]) [0, 1, 2, 3] (by decide) rfl
          have hFc := va_free (wc := [(mo, .inr (8, [.int (nI n), .ref m1, .ref m2, .ref m3, .long ka, .long kb, .ref m6, .ref m7, .ref m8, .ref m9, .ref m10, .ref m11, .ref m12, .ref m13, .ref m14, .ref m15, .ref m16])), (m2, .inl (cI, 8, .inl fp)), (m6, .inl (cI, 8, .inl fm6_15)), (m7, .inl (cI, 9, .inl fm7_15))]) hD hS hA [0, 1, 2, 3] rfl
          refine va_calli (va_runV (As := [.int (nI i_3), .int (nI i_15), .int p3, .int p4, .int p5]) (rest := []) ⟨hx, hb, hml, hown, hts⟩ (mz_s_m_joins l dC dI cI cJ cZ mo m1 m2 m3 m6 m7 m8 m9 m10 m11 m12 m13 m14 m15 m16 n ka kb fp fm6_15 fm7_15 i_3 i_15 p3 p4 p5 H.size (by first | assumption | omega) (by first | assumption | omega) (by first | assumption | omega) (mz_dis hdd (by omega) (mz_t_y (by omega) c_31) (mz_t_y (by omega) c_41)) (by first | assumption | omega)) (cwV 5 hts gX8_barred_X8_joins rfl rfl rfl (by decide +kernel) ⟨Nat.le_of_ble_eq_true rfl, Nat.le_of_ble_eq_true rfl⟩) ⟨fun a U g mk q => mz_blI q, va_recv hK hPc (ci := 8) (q0 := 0) rfl rfl, fun U hU hW => ⟨rfl, by rw [hU], by rw [hU]; exact hPc, va_K.moved hW.alike hK, hDc.weaken (fun _ _ _ _ => trivial), mz_nw hW hN⟩⟩ rfl rfl hl.1 rfl (lv_room (Nat.le_of_ble_eq_true rfl)) dX8_barred_54 ⟨Nat.le_of_ble_eq_true rfl, Nat.le_of_ble_eq_true rfl⟩) hS (fun q _ h => hFc q h) hFc (fun r_54 u t H1 locs ht hvm hw_54 hB hz1 hk1 hS => ?_)
          obtain ⟨gw_54, gt_54, hP1, hD1⟩ := hB
          rw [ht] at hP1
          obtain ⟨hP, hD⟩ := va_join (wr := []) (w1 := [(mo, .inr (8, [.int (nI n), .ref m1, .ref m2, .ref m3, .long ka, .long kb, .ref m6, .ref m7, .ref m8, .ref m9, .ref m10, .ref m11, .ref m12, .ref m13, .ref m14, .ref m15, .ref m16])), (m2, .inl (cI, 8, .inl fp)), (m6, .inl (cI, 8, .inl gw_54)), (m7, .inl (cI, 9, .inl gt_54))]) hP hD [0, 1, 2, 3] [] rfl rfl (by decide) (by decide) hk1 hFc hP1 hD1
          generalize H1 = H at hP hS ⊢
          have hP : va_P (dC, dI) vwCl [(mo, .inr (8, [.int (nI n), .ref m1, .ref m2, .ref m3, .long ka, .long kb, .ref m6, .ref m7, .ref m8, .ref m9, .ref m10, .ref m11, .ref m12, .ref m13, .ref m14, .ref m15, .ref m16])), (m2, .inl (cI, 8, .inl fp)), (m6, .inl (cI, 8, .inl gw_54)), (m7, .inl (cI, 9, .inl gt_54))] H := hP
          have hD : va_D A [(mo, .inr (8, [.int (nI n), .ref m1, .ref m2, .ref m3, .long ka, .long kb, .ref m6, .ref m7, .ref m8, .ref m9, .ref m10, .ref m11, .ref m12, .ref m13, .ref m14, .ref m15, .ref m16])), (m2, .inl (cI, 8, .inl fp)), (m6, .inl (cI, 8, .inl gw_54)), (m7, .inl (cI, 9, .inl gt_54))] := hD
          rcases (show (r_54 = 1 ∧ mz_pth n (mz_pwo fp p4 p5) p3 (mz_Mm n (mz_pwo fp p4 p5) p3) i_3 i_15) ∨ (r_54 = 0 ∧ ¬ mz_pth n (mz_pwo fp p4 p5) p3 (mz_Mm n (mz_pwo fp p4 p5) p3) i_3 i_15) from hw_54) with ⟨rfl, hp_54⟩ | ⟨rfl, hp_54⟩
          · skip
            refine lv_if_eq (tgt := 62) hx hb dX8_barred_57 (by decide) (fun c_57 => absurd c_57 (by decide +kernel)) (fun _ => ?_)
            refine lv_iconst (v := 0) hx hb dX8_barred_60 (by decide +kernel) ?_
            have hP9 := hP.sub (ws' := [(mo, .inr (8, [.int (nI n), .ref m1, .ref m2, .ref m3, .long ka, .long kb, .ref m6, .ref m7, .ref m8, .ref m9, .ref m10, .ref m11, .ref m12, .ref m13, .ref m14, .ref m15, .ref m16])), (m2, .inl (cI, 8, .inl fp)), (m6, .inl (cI, 8, .inl gw_54)), (m7, .inl (cI, 9, .inl gt_54))]) [0, 1, 2, 3] rfl
            have hD9 := hD.sub (ws' := [(mo, .inr (8, [.int (nI n), .ref m1, .ref m2, .ref m3, .long ka, .long kb, .ref m6, .ref m7, .ref m8, .ref m9, .ref m10, .ref m11, .ref m12, .ref m13, .ref m14, .ref m15, .ref m16])), (m2, .inl (cI, 8, .inl fp)), (m6, .inl (cI, 8, .inl gw_54)), (m7, .inl (cI, 9, .inl gt_54))]) [0, 1, 2, 3] (by decide) rfl
            refine W.widen (k := 0) (n := 0) (Nat.le_of_ble_eq_true rfl) (Nat.le_of_ble_eq_true rfl) ?_
            exact W.zret (v := 0) hx hb hr (mz_nz (by decide +kernel)) (fun t ht hW => ⟨⟨0, (), rfl, Or.inr ⟨rfl, i_3, i_15, by omega, by omega, mz_t_y (by omega) c_31, mz_t_y (by omega) c_41, hp_54⟩, gw_54, gt_54, by rw [ht]; exact hP9, hD9⟩, hS.F ht⟩) hS.2.2 dX8_barred_61
          · skip
            refine lv_if_eq (tgt := 62) hx hb dX8_barred_57 (by decide) (fun _ => ?_) (fun c_57 => absurd (by decide +kernel) c_57)
            refine lv_iinc (v := (nI (i_15 + 1))) (lv' := [(7, .int (nI (i_15 + 1))), (6, .int (nI i_3)), (0, .ref mo), (1, .int p1), (2, .int p2), (3, .int p3), (4, .int p4), (5, .int p5)]) hx hb dX8_barred_62 hl (k := 0) rfl (nI_1 _) (by decide) rfl (fun ls hl => ?_)
            refine lv_goto (tgt := 15) hx hb dX8_barred_65 (by decide) ?_
            exact ih_15 _ (by omega) _ _ _ ⟨(i_15 + 1), gw_54, gt_54, by omega, (fun k hk hx hy => by (by_cases e : k = i_15; (subst e; exact hp_54); exact hn15_15 k (by omega) hx hy)), hP, hD, hS, lv_sub hl [0, 1, 2, 3, 4, 5, 6, 7] rfl, rfl⟩
set_option maxHeartbeats 1000000 in
set_option maxRecDepth 100000 in
theorem mz_s_m_bars (l : Launch) (dC : Nat → ClassId) (dI : Nat → Nat → Nat) (cI cJ cZ : ClassId) (mo : Nat) (m1 : Nat) (m2 : Nat) (m3 : Nat) (m6 : Nat) (m7 : Nat) (m8 : Nat) (m9 : Nat) (m10 : Nat) (m11 : Nat) (m12 : Nat) (m13 : Nat) (m14 : Nat) (m15 : Nat) (m16 : Nat) (n : Nat) (ka : Int64) (kb : Int64) (fp : Nat → Int32) (fw : Nat → Int32) (ft : Nat → Int32) (p1 : Int32) (p2 : Int32) (p3 : Int32) (sz : Nat) (hn : n ≤ 8) (hgb : ∀ k, k < n → ∀ j, j < 32 → mz_t (fp k) j = true → j < n) (hpa : mz_hp n p1) (hpb : mz_hp n p2) (hZ : mz_hp n p3) (hd1 : p1 &&& p2 = 0) (hd2 : p1 &&& p3 = 0) (hd3 : p2 &&& p3 = 0) : Met l yX8_bars wsX8_bars ({ frames := 5, cells := 0, slots := 0, locals := 136 }) (va_Pc [.ref mo, .int p1, .int p2, .int p3] (fun U => U.heap.size = sz ∧ va_P (dC, dI) vwCl [(mo, .inr (8, [.int (nI n), .ref m1, .ref m2, .ref m3, .long ka, .long kb, .ref m6, .ref m7, .ref m8, .ref m9, .ref m10, .ref m11, .ref m12, .ref m13, .ref m14, .ref m15, .ref m16])), (m2, .inl (cI, 8, .inl fp)), (m6, .inl (cI, 8, .inl fw)), (m7, .inl (cI, 9, .inl ft))] U.heap ∧ va_K (dC, dI) vwCl [(cI, FieldType.int), (cJ, FieldType.long), (cZ, FieldType.boolean)] U ∧ va_D (fun _ => True) [(mo, .inr (8, [.int (nI n), .ref m1, .ref m2, .ref m3, .long ka, .long kb, .ref m6, .ref m7, .ref m8, .ref m9, .ref m10, .ref m11, .ref m12, .ref m13, .ref m14, .ref m15, .ref m16])), (m2, .inl (cI, 8, .inl fp)), (m6, .inl (cI, 8, .inl fw)), (m7, .inl (cI, 9, .inl ft))] ∧ mz_N U)) (va_Qi (fun (r : Int32) (_ : Unit) => (r = 1 ∧ ¬ (∃ i k, i < n ∧ k < n ∧ mz_t p1 i = true ∧ mz_t p2 k = true ∧ mz_pth n fp p3 (mz_Mm n fp p3) i k)) ∨ (r = 0 ∧ ∃ i k, i < n ∧ k < n ∧ mz_t p1 i = true ∧ mz_t p2 k = true ∧ mz_pth n fp p3 (mz_Mm n fp p3) i k)) (fun _ t => ∃ (gw : Nat → Int32), ∃ (gt : Nat → Int32), va_P (dC, dI) vwCl [(mo, .inr (8, [.int (nI n), .ref m1, .ref m2, .ref m3, .long ka, .long kb, .ref m6, .ref m7, .ref m8, .ref m9, .ref m10, .ref m11, .ref m12, .ref m13, .ref m14, .ref m15, .ref m16])), (m2, .inl (cI, 8, .inl fp)), (m6, .inl (cI, 8, .inl gw)), (m7, .inl (cI, 9, .inl gt))] t.heap ∧ va_D (va_A [(mo, .inr (8, [.int (nI n), .ref m1, .ref m2, .ref m3, .long ka, .long kb, .ref m6, .ref m7, .ref m8, .ref m9, .ref m10, .ref m11, .ref m12, .ref m13, .ref m14, .ref m15, .ref m16])), (m2, .inl (cI, 8, .inl fp)), (m6, .inl (cI, 8, .inl fw)), (m7, .inl (cI, 9, .inl ft))] sz) [(mo, .inr (8, [.int (nI n), .ref m1, .ref m2, .ref m3, .long ka, .long kb, .ref m6, .ref m7, .ref m8, .ref m9, .ref m10, .ref m11, .ref m12, .ref m13, .ref m14, .ref m15, .ref m16])), (m2, .inl (cI, 8, .inl fp)), (m6, .inl (cI, 8, .inl gw)), (m7, .inl (cI, 9, .inl gt))]) (va_A [(mo, .inr (8, [.int (nI n), .ref m1, .ref m2, .ref m3, .long ka, .long kb, .ref m6, .ref m7, .ref m8, .ref m9, .ref m10, .ref m11, .ref m12, .ref m13, .ref m14, .ref m15, .ref m16])), (m2, .inl (cI, 8, .inl fp)), (m6, .inl (cI, 8, .inl fw)), (m7, .inl (cI, 9, .inl ft))] sz)) 0 0 (va_A [(mo, .inr (8, [.int (nI n), .ref m1, .ref m2, .ref m3, .long ka, .long kb, .ref m6, .ref m7, .ref m8, .ref m9, .ref m10, .ref m11, .ref m12, .ref m13, .ref m14, .ref m15, .ref m16])), (m2, .inl (cI, 8, .inl fp)), (m6, .inl (cI, 8, .inl fw)), (m7, .inl (cI, 9, .inl ft))] sz) := by
  refine Met.ofW (cc := cX8_bars) (maxL := 4) (ret := (some .boolean)) (by decide) rfl ?_
  intro p e s m args below meth c s₁ B hml hv
  obtain ⟨rfl, hsz, hP, hK, hD0, hN⟩ := hv
  subst hsz
  have hx := B.exec
  have hb := B.bytes
  have hr := B.returns
  have hts := atoms_spec (ws := wsX8_bars) B.pre
  have hown : s.vm.findClass RX8 = some m.cls := findClass_of_methodNamed B.named
  have hlocks := B.notSynchronized
  have hD := hD0.self (sz := s.heap.size)
  generalize hAe : va_A [(mo, .inr (8, [.int (nI n), .ref m1, .ref m2, .ref m3, .long ka, .long kb, .ref m6, .ref m7, .ref m8, .ref m9, .ref m10, .ref m11, .ref m12, .ref m13, .ref m14, .ref m15, .ref m16])), (m2, .inl (cI, 8, .inl fp)), (m6, .inl (cI, 8, .inl fw)), (m7, .inl (cI, 9, .inl ft))] s.heap.size = A at hD ⊢
  have hA : ∀ q : Nat, s.heap.size ≤ q → A q := fun q h => by rw [← hAe]; exact Or.inr h
  have hS : va_S A s.heap s.heap [] := va_S.rf
  have hl := lv_entry ([.ref mo, .int p1, .int p2, .int p3]) (n := 4) (Nat.le_of_ble_eq_true rfl)
  rw [lg_entry_eq]
  generalize (lg_sl ([.ref mo, .int p1, .int p2, .int p3]) ++ List.replicate (4 - (lg_sl ([.ref mo, .int p1, .int p2, .int p3])).length) Slot.unset).toArray = ls at hl ⊢
  have hl : lv_has ls 4 [(0, .ref mo), (1, .int p1), (2, .int p2), (3, .int p3)] := hl
  refine lv_aload_n hx hb dX8_bars_0 rfl (lv_at hl 0 rfl) ?_
  refine lv_iload_n hx hb dX8_bars_1 rfl (lv_at hl 1 rfl) ?_
  have hPc := hP.sub (ws' := [(mo, .inr (8, [.int (nI n), .ref m1, .ref m2, .ref m3, .long ka, .long kb, .ref m6, .ref m7, .ref m8, .ref m9, .ref m10, .ref m11, .ref m12, .ref m13, .ref m14, .ref m15, .ref m16]))]) [0] rfl
  refine va_calli (va_runV (As := [.int p1]) (rest := []) ⟨hx, hb, hml, hown, hts⟩ (mz_h_m_isHeap l dC dI cI cJ cZ mo m1 m2 m3 m6 m7 m8 m9 m10 m11 m12 m13 m14 m15 m16 n ka kb p1 s.heap (by first | assumption | omega)) (cwV 1 hts gX8_bars_X8_isHeap rfl rfl rfl (by decide +kernel) ⟨Nat.le_of_ble_eq_true rfl, Nat.le_of_ble_eq_true rfl⟩) ⟨fun a U g mk q => mz_blP q, va_recv hK hPc (ci := 8) (q0 := 0) rfl rfl, fun U hU hW => ⟨rfl, hU, hPc, va_K.moved hW.alike hK, mz_nw hW hN⟩⟩ rfl rfl hl.1 rfl (lv_room (Nat.le_of_ble_eq_true rfl)) dX8_bars_2 ⟨Nat.le_of_ble_eq_true rfl, Nat.le_of_ble_eq_true rfl⟩) hS (fun q _ h => h.elim) (fun q h => h.elim) (fun r_2 u t H1 locs ht hvm hw_2 hB hz1 hk1 hS => ?_)
  have hE : s.heap = H1 := hB.symm.trans ht
  subst hE
  rcases (show (r_2 = 1 ∧ mz_hp n p1) ∨ (r_2 = 0 ∧ ¬ mz_hp n p1) from hw_2) with ⟨rfl, hc_2⟩ | ⟨rfl, hc_2⟩
  · skip
    refine lv_if_eq (tgt := 42) hx hb dX8_bars_5 (by decide) (fun c_5 => absurd c_5 (by decide +kernel)) (fun _ => ?_)
    refine lv_aload_n hx hb dX8_bars_8 rfl (lv_at hl 0 rfl) ?_
    refine lv_iload_n hx hb dX8_bars_9 rfl (lv_at hl 2 rfl) ?_
    have hPc := hP.sub (ws' := [(mo, .inr (8, [.int (nI n), .ref m1, .ref m2, .ref m3, .long ka, .long kb, .ref m6, .ref m7, .ref m8, .ref m9, .ref m10, .ref m11, .ref m12, .ref m13, .ref m14, .ref m15, .ref m16]))]) [0] rfl
    refine va_calli (va_runV (As := [.int p2]) (rest := []) ⟨hx, hb, hml, hown, hts⟩ (mz_h_m_isHeap l dC dI cI cJ cZ mo m1 m2 m3 m6 m7 m8 m9 m10 m11 m12 m13 m14 m15 m16 n ka kb p2 s.heap (by first | assumption | omega)) (cwV 1 hts gX8_bars_X8_isHeap rfl rfl rfl (by decide +kernel) ⟨Nat.le_of_ble_eq_true rfl, Nat.le_of_ble_eq_true rfl⟩) ⟨fun a U g mk q => mz_blP q, va_recv hK hPc (ci := 8) (q0 := 0) rfl rfl, fun U hU hW => ⟨rfl, hU, hPc, va_K.moved hW.alike hK, mz_nw hW hN⟩⟩ rfl rfl hl.1 rfl (lv_room (Nat.le_of_ble_eq_true rfl)) dX8_bars_10 ⟨Nat.le_of_ble_eq_true rfl, Nat.le_of_ble_eq_true rfl⟩) hS (fun q _ h => h.elim) (fun q h => h.elim) (fun r_10 u t H1 locs ht hvm hw_10 hB hz1 hk1 hS => ?_)
    have hE : s.heap = H1 := hB.symm.trans ht
    subst hE
    rcases (show (r_10 = 1 ∧ mz_hp n p2) ∨ (r_10 = 0 ∧ ¬ mz_hp n p2) from hw_10) with ⟨rfl, hc_10⟩ | ⟨rfl, hc_10⟩
    · skip
      refine lv_if_eq (tgt := 42) hx hb dX8_bars_13 (by decide) (fun c_13 => absurd c_13 (by decide +kernel)) (fun _ => ?_)
      refine lv_aload_n hx hb dX8_bars_16 rfl (lv_at hl 0 rfl) ?_
      refine lv_iload_n hx hb dX8_bars_17 rfl (lv_at hl 3 rfl) ?_
      have hPc := hP.sub (ws' := [(mo, .inr (8, [.int (nI n), .ref m1, .ref m2, .ref m3, .long ka, .long kb, .ref m6, .ref m7, .ref m8, .ref m9, .ref m10, .ref m11, .ref m12, .ref m13, .ref m14, .ref m15, .ref m16]))]) [0] rfl
      refine va_calli (va_runV (As := [.int p3]) (rest := []) ⟨hx, hb, hml, hown, hts⟩ (mz_h_m_isHeap l dC dI cI cJ cZ mo m1 m2 m3 m6 m7 m8 m9 m10 m11 m12 m13 m14 m15 m16 n ka kb p3 s.heap (by first | assumption | omega)) (cwV 1 hts gX8_bars_X8_isHeap rfl rfl rfl (by decide +kernel) ⟨Nat.le_of_ble_eq_true rfl, Nat.le_of_ble_eq_true rfl⟩) ⟨fun a U g mk q => mz_blP q, va_recv hK hPc (ci := 8) (q0 := 0) rfl rfl, fun U hU hW => ⟨rfl, hU, hPc, va_K.moved hW.alike hK, mz_nw hW hN⟩⟩ rfl rfl hl.1 rfl (lv_room (Nat.le_of_ble_eq_true rfl)) dX8_bars_18 ⟨Nat.le_of_ble_eq_true rfl, Nat.le_of_ble_eq_true rfl⟩) hS (fun q _ h => h.elim) (fun q h => h.elim) (fun r_18 u t H1 locs ht hvm hw_18 hB hz1 hk1 hS => ?_)
      have hE : s.heap = H1 := hB.symm.trans ht
      subst hE
      rcases (show (r_18 = 1 ∧ mz_hp n p3) ∨ (r_18 = 0 ∧ ¬ mz_hp n p3) from hw_18) with ⟨rfl, hc_18⟩ | ⟨rfl, hc_18⟩
      · skip
        refine lv_if_eq (tgt := 42) hx hb dX8_bars_21 (by decide) (fun c_21 => absurd c_21 (by decide +kernel)) (fun _ => ?_)
        refine lv_iload_n hx hb dX8_bars_24 rfl (lv_at hl 1 rfl) ?_
        refine lv_iload_n hx hb dX8_bars_25 rfl (lv_at hl 2 rfl) ?_
        refine lv_iand hx hb dX8_bars_26 ?_
        refine lv_if_ne (tgt := 42) hx hb dX8_bars_27 (by decide) (fun c_27 => ?_) (fun c_27 => ?_)
        · skip
          first | exact absurd hpa hc_2 | exact absurd hpb hc_10 | exact absurd hZ hc_18 | exact absurd hd1 c_27 | exact absurd hd2 c_33 | exact absurd hd3 c_39
        · skip
          refine lv_iload_n hx hb dX8_bars_30 rfl (lv_at hl 1 rfl) ?_
          refine lv_iload_n hx hb dX8_bars_31 rfl (lv_at hl 3 rfl) ?_
          refine lv_iand hx hb dX8_bars_32 ?_
          refine lv_if_ne (tgt := 42) hx hb dX8_bars_33 (by decide) (fun c_33 => ?_) (fun c_33 => ?_)
          · skip
            first | exact absurd hpa hc_2 | exact absurd hpb hc_10 | exact absurd hZ hc_18 | exact absurd hd1 c_27 | exact absurd hd2 c_33 | exact absurd hd3 c_39
          · skip
            refine lv_iload_n hx hb dX8_bars_36 rfl (lv_at hl 2 rfl) ?_
            refine lv_iload_n hx hb dX8_bars_37 rfl (lv_at hl 3 rfl) ?_
            refine lv_iand hx hb dX8_bars_38 ?_
            refine lv_if_eq (tgt := 44) hx hb dX8_bars_39 (by decide) (fun c_39 => ?_) (fun c_39 => ?_)
            · skip
              refine lv_aload_n hx hb dX8_bars_44 rfl (lv_at hl 0 rfl) ?_
              refine lv_iload_n hx hb dX8_bars_45 rfl (lv_at hl 1 rfl) ?_
              refine lv_iload_n hx hb dX8_bars_46 rfl (lv_at hl 2 rfl) ?_
              refine lv_iload_n hx hb dX8_bars_47 rfl (lv_at hl 3 rfl) ?_
              refine lv_iconst (v := 0) hx hb dX8_bars_48 (by decide +kernel) ?_
              refine lv_iconst (v := 0) hx hb dX8_bars_49 (by decide +kernel) ?_
              have hPc := hP.sub (ws' := [(mo, .inr (8, [.int (nI n), .ref m1, .ref m2, .ref m3, .long ka, .long kb, .ref m6, .ref m7, .ref m8, .ref m9, .ref m10, .ref m11, .ref m12, .ref m13, .ref m14, .ref m15, .ref m16])), (m2, .inl (cI, 8, .inl fp)), (m6, .inl (cI, 8, .inl fw)), (m7, .inl (cI, 9, .inl ft))]) [0, 1, 2, 3] rfl
              have hDc := hD.sub (ws' := [(mo, .inr (8, [.int (nI n), .ref m1, .ref m2, .ref m3, .long ka, .long kb, .ref m6, .ref m7, .ref m8, .ref m9, .ref m10, .ref m11, .ref m12, .ref m13, .ref m14, .ref m15, .ref m16])), (m2, .inl (cI, 8, .inl fp)), (m6, .inl (cI, 8, .inl fw)), (m7, .inl (cI, 9, .inl ft))]) [0, 1, 2, 3] (by decide) rfl
              have hFc := va_free (wc := [(mo, .inr (8, [.int (nI n), .ref m1, .ref m2, .ref m3, .long ka, .long kb, .ref m6, .ref m7, .ref m8, .ref m9, .ref m10, .ref m11, .ref m12, .ref m13, .ref m14, .ref m15, .ref m16])), (m2, .inl (cI, 8, .inl fp)), (m6, .inl (cI, 8, .inl fw)), (m7, .inl (cI, 9, .inl ft))]) hD hS hA [0, 1, 2, 3] rfl
              refine va_calli (va_runV (As := [.int p1, .int p2, .int p3, .int 0, .int 0]) (rest := []) ⟨hx, hb, hml, hown, hts⟩ (mz_s_m_barred l dC dI cI cJ cZ mo m1 m2 m3 m6 m7 m8 m9 m10 m11 m12 m13 m14 m15 m16 n ka kb fp fw ft p1 p2 p3 0 0 s.heap.size (by first | assumption | omega) (by rw [mz_pwo_0]; exact hgb) hd1) (cwV 5 hts gX8_bars_X8_barred rfl rfl rfl (by decide +kernel) ⟨Nat.le_of_ble_eq_true rfl, Nat.le_of_ble_eq_true rfl⟩) ⟨fun a U g mk q => mz_blI q, va_recv hK hPc (ci := 8) (q0 := 0) rfl rfl, fun U hU hW => ⟨rfl, by rw [hU], by rw [hU]; exact hPc, va_K.moved hW.alike hK, hDc.weaken (fun _ _ _ _ => trivial), mz_nw hW hN⟩⟩ rfl rfl hl.1 rfl (lv_room (Nat.le_of_ble_eq_true rfl)) dX8_bars_50 ⟨Nat.le_of_ble_eq_true rfl, Nat.le_of_ble_eq_true rfl⟩) hS (fun q _ h => hFc q h) hFc (fun r_50 u t H1 locs ht hvm hw_50 hB hz1 hk1 hS => ?_)
              obtain ⟨gw_50, gt_50, hP1, hD1⟩ := hB
              rw [ht] at hP1
              obtain ⟨hP, hD⟩ := va_join (wr := []) (w1 := [(mo, .inr (8, [.int (nI n), .ref m1, .ref m2, .ref m3, .long ka, .long kb, .ref m6, .ref m7, .ref m8, .ref m9, .ref m10, .ref m11, .ref m12, .ref m13, .ref m14, .ref m15, .ref m16])), (m2, .inl (cI, 8, .inl fp)), (m6, .inl (cI, 8, .inl gw_50)), (m7, .inl (cI, 9, .inl gt_50))]) hP hD [0, 1, 2, 3] [] rfl rfl (by decide) (by decide) hk1 hFc hP1 hD1
              generalize H1 = H at hP hS ⊢
              have hP : va_P (dC, dI) vwCl [(mo, .inr (8, [.int (nI n), .ref m1, .ref m2, .ref m3, .long ka, .long kb, .ref m6, .ref m7, .ref m8, .ref m9, .ref m10, .ref m11, .ref m12, .ref m13, .ref m14, .ref m15, .ref m16])), (m2, .inl (cI, 8, .inl fp)), (m6, .inl (cI, 8, .inl gw_50)), (m7, .inl (cI, 9, .inl gt_50))] H := hP
              have hD : va_D A [(mo, .inr (8, [.int (nI n), .ref m1, .ref m2, .ref m3, .long ka, .long kb, .ref m6, .ref m7, .ref m8, .ref m9, .ref m10, .ref m11, .ref m12, .ref m13, .ref m14, .ref m15, .ref m16])), (m2, .inl (cI, 8, .inl fp)), (m6, .inl (cI, 8, .inl gw_50)), (m7, .inl (cI, 9, .inl gt_50))] := hD
              rcases (show (r_50 = 1 ∧ ¬ (∃ ia ka, ia < n ∧ ka < n ∧ mz_t p1 ia = true ∧ mz_t p2 ka = true ∧ mz_pth n (mz_pwo fp 0 0) p3 (mz_Mm n (mz_pwo fp 0 0) p3) ia ka)) ∨ (r_50 = 0 ∧ ∃ ia ka, ia < n ∧ ka < n ∧ mz_t p1 ia = true ∧ mz_t p2 ka = true ∧ mz_pth n (mz_pwo fp 0 0) p3 (mz_Mm n (mz_pwo fp 0 0) p3) ia ka) from hw_50) with ⟨rfl, hc_50⟩ | ⟨rfl, hc_50⟩
              · skip
                have hP9 := hP.sub (ws' := [(mo, .inr (8, [.int (nI n), .ref m1, .ref m2, .ref m3, .long ka, .long kb, .ref m6, .ref m7, .ref m8, .ref m9, .ref m10, .ref m11, .ref m12, .ref m13, .ref m14, .ref m15, .ref m16])), (m2, .inl (cI, 8, .inl fp)), (m6, .inl (cI, 8, .inl gw_50)), (m7, .inl (cI, 9, .inl gt_50))]) [0, 1, 2, 3] rfl
                have hD9 := hD.sub (ws' := [(mo, .inr (8, [.int (nI n), .ref m1, .ref m2, .ref m3, .long ka, .long kb, .ref m6, .ref m7, .ref m8, .ref m9, .ref m10, .ref m11, .ref m12, .ref m13, .ref m14, .ref m15, .ref m16])), (m2, .inl (cI, 8, .inl fp)), (m6, .inl (cI, 8, .inl gw_50)), (m7, .inl (cI, 9, .inl gt_50))]) [0, 1, 2, 3] (by decide) rfl
                refine W.widen (k := 0) (n := 0) (Nat.le_of_ble_eq_true rfl) (Nat.le_of_ble_eq_true rfl) ?_
                exact W.zret (v := 1) hx hb hr (mz_nz (by decide +kernel)) (fun t ht hW => ⟨⟨1, (), rfl, Or.inl ⟨rfl, (by have h9 := hc_50; rw [mz_pwo_0] at h9; exact h9)⟩, gw_50, gt_50, by rw [ht]; exact hP9, hD9⟩, hS.F ht⟩) hS.2.2 dX8_bars_53
              · skip
                have hP9 := hP.sub (ws' := [(mo, .inr (8, [.int (nI n), .ref m1, .ref m2, .ref m3, .long ka, .long kb, .ref m6, .ref m7, .ref m8, .ref m9, .ref m10, .ref m11, .ref m12, .ref m13, .ref m14, .ref m15, .ref m16])), (m2, .inl (cI, 8, .inl fp)), (m6, .inl (cI, 8, .inl gw_50)), (m7, .inl (cI, 9, .inl gt_50))]) [0, 1, 2, 3] rfl
                have hD9 := hD.sub (ws' := [(mo, .inr (8, [.int (nI n), .ref m1, .ref m2, .ref m3, .long ka, .long kb, .ref m6, .ref m7, .ref m8, .ref m9, .ref m10, .ref m11, .ref m12, .ref m13, .ref m14, .ref m15, .ref m16])), (m2, .inl (cI, 8, .inl fp)), (m6, .inl (cI, 8, .inl gw_50)), (m7, .inl (cI, 9, .inl gt_50))]) [0, 1, 2, 3] (by decide) rfl
                refine W.widen (k := 0) (n := 0) (Nat.le_of_ble_eq_true rfl) (Nat.le_of_ble_eq_true rfl) ?_
                exact W.zret (v := 0) hx hb hr (mz_nz (by decide +kernel)) (fun t ht hW => ⟨⟨0, (), rfl, Or.inr ⟨rfl, (by have h9 := hc_50; rw [mz_pwo_0] at h9; exact h9)⟩, gw_50, gt_50, by rw [ht]; exact hP9, hD9⟩, hS.F ht⟩) hS.2.2 dX8_bars_53
            · skip
              first | exact absurd hpa hc_2 | exact absurd hpb hc_10 | exact absurd hZ hc_18 | exact absurd hd1 c_27 | exact absurd hd2 c_33 | exact absurd hd3 c_39
      · skip
        refine lv_if_eq (tgt := 42) hx hb dX8_bars_21 (by decide) (fun _ => ?_) (fun c_21 => absurd (by decide +kernel) c_21)
        first | exact absurd hpa hc_2 | exact absurd hpb hc_10 | exact absurd hZ hc_18 | exact absurd hd1 c_27 | exact absurd hd2 c_33 | exact absurd hd3 c_39
    · skip
      refine lv_if_eq (tgt := 42) hx hb dX8_bars_13 (by decide) (fun _ => ?_) (fun c_13 => absurd (by decide +kernel) c_13)
      first | exact absurd hpa hc_2 | exact absurd hpb hc_10 | exact absurd hZ hc_18 | exact absurd hd1 c_27 | exact absurd hd2 c_33 | exact absurd hd3 c_39
  · skip
    refine lv_if_eq (tgt := 42) hx hb dX8_bars_5 (by decide) (fun _ => ?_) (fun c_5 => absurd (by decide +kernel) c_5)
    first | exact absurd hpa hc_2 | exact absurd hpb hc_10 | exact absurd hZ hc_18 | exact absurd hd1 c_27 | exact absurd hd2 c_33 | exact absurd hd3 c_39
set_option maxHeartbeats 1000000 in
set_option maxRecDepth 100000 in
theorem mz_s_m_bars_out (l : Launch) (dC : Nat → ClassId) (dI : Nat → Nat → Nat) (cI cJ cZ : ClassId) (mo : Nat) (m1 : Nat) (m2 : Nat) (m3 : Nat) (m6 : Nat) (m7 : Nat) (m8 : Nat) (m9 : Nat) (m10 : Nat) (m11 : Nat) (m12 : Nat) (m13 : Nat) (m14 : Nat) (m15 : Nat) (m16 : Nat) (n : Nat) (ka : Int64) (kb : Int64) (p1 : Int32) (p2 : Int32) (p3 : Int32) (Hq : Heap) (hn : n ≤ 8) (hNA : ¬ (mz_hp n p1 ∧ mz_hp n p2 ∧ mz_hp n p3 ∧ p1 &&& p2 = 0 ∧ p1 &&& p3 = 0 ∧ p2 &&& p3 = 0)) : Met l yX8_bars wsX8_bars ({ frames := 1, cells := 0, slots := 0, locals := 21 }) (va_Pc [.ref mo, .int p1, .int p2, .int p3] (fun U => U.heap = Hq ∧ va_P (dC, dI) vwCl [(mo, .inr (8, [.int (nI n), .ref m1, .ref m2, .ref m3, .long ka, .long kb, .ref m6, .ref m7, .ref m8, .ref m9, .ref m10, .ref m11, .ref m12, .ref m13, .ref m14, .ref m15, .ref m16]))] Hq ∧ va_K (dC, dI) vwCl [(cI, FieldType.int), (cJ, FieldType.long), (cZ, FieldType.boolean)] U ∧ mz_N U)) (va_Qi (fun (r : Int32) (_ : Unit) => r = 0) (fun _ t => t.heap = Hq) (fun _ : Nat => False)) 0 0 (fun _ : Nat => False) := by
  refine Met.ofW (cc := cX8_bars) (maxL := 4) (ret := (some .boolean)) (by decide) rfl ?_
  intro p e s m args below meth c s₁ B hml hv
  obtain ⟨rfl, hH, hP, hK, hN⟩ := hv
  subst hH
  have hx := B.exec
  have hb := B.bytes
  have hr := B.returns
  have hts := atoms_spec (ws := wsX8_bars) B.pre
  have hown : s.vm.findClass RX8 = some m.cls := findClass_of_methodNamed B.named
  have hlocks := B.notSynchronized
  have hS : va_S (fun _ : Nat => False) s.heap s.heap [] := va_S.rf
  have hl := lv_entry ([.ref mo, .int p1, .int p2, .int p3]) (n := 4) (Nat.le_of_ble_eq_true rfl)
  rw [lg_entry_eq]
  generalize (lg_sl ([.ref mo, .int p1, .int p2, .int p3]) ++ List.replicate (4 - (lg_sl ([.ref mo, .int p1, .int p2, .int p3])).length) Slot.unset).toArray = ls at hl ⊢
  have hl : lv_has ls 4 [(0, .ref mo), (1, .int p1), (2, .int p2), (3, .int p3)] := hl
  refine lv_aload_n hx hb dX8_bars_0 rfl (lv_at hl 0 rfl) ?_
  refine lv_iload_n hx hb dX8_bars_1 rfl (lv_at hl 1 rfl) ?_
  have hPc := hP.sub (ws' := [(mo, .inr (8, [.int (nI n), .ref m1, .ref m2, .ref m3, .long ka, .long kb, .ref m6, .ref m7, .ref m8, .ref m9, .ref m10, .ref m11, .ref m12, .ref m13, .ref m14, .ref m15, .ref m16]))]) [0] rfl
  refine va_calli (va_runV (As := [.int p1]) (rest := []) ⟨hx, hb, hml, hown, hts⟩ (mz_h_m_isHeap l dC dI cI cJ cZ mo m1 m2 m3 m6 m7 m8 m9 m10 m11 m12 m13 m14 m15 m16 n ka kb p1 s.heap (by first | assumption | omega)) (cwV 1 hts gX8_bars_X8_isHeap rfl rfl rfl (by decide +kernel) ⟨Nat.le_of_ble_eq_true rfl, Nat.le_of_ble_eq_true rfl⟩) ⟨fun a U g mk q => mz_blP q, va_recv hK hPc (ci := 8) (q0 := 0) rfl rfl, fun U hU hW => ⟨rfl, hU, hPc, va_K.moved hW.alike hK, mz_nw hW hN⟩⟩ rfl rfl hl.1 rfl (lv_room (Nat.le_of_ble_eq_true rfl)) dX8_bars_2 ⟨Nat.le_of_ble_eq_true rfl, Nat.le_of_ble_eq_true rfl⟩) hS (fun q _ h => h.elim) (fun q h => h.elim) (fun r_2 u t H1 locs ht hvm hw_2 hB hz1 hk1 hS => ?_)
  have hE : s.heap = H1 := hB.symm.trans ht
  subst hE
  rcases (show (r_2 = 1 ∧ mz_hp n p1) ∨ (r_2 = 0 ∧ ¬ mz_hp n p1) from hw_2) with ⟨rfl, hc_2⟩ | ⟨rfl, hc_2⟩
  · skip
    refine lv_if_eq (tgt := 42) hx hb dX8_bars_5 (by decide) (fun c_5 => absurd c_5 (by decide +kernel)) (fun _ => ?_)
    refine lv_aload_n hx hb dX8_bars_8 rfl (lv_at hl 0 rfl) ?_
    refine lv_iload_n hx hb dX8_bars_9 rfl (lv_at hl 2 rfl) ?_
    have hPc := hP.sub (ws' := [(mo, .inr (8, [.int (nI n), .ref m1, .ref m2, .ref m3, .long ka, .long kb, .ref m6, .ref m7, .ref m8, .ref m9, .ref m10, .ref m11, .ref m12, .ref m13, .ref m14, .ref m15, .ref m16]))]) [0] rfl
    refine va_calli (va_runV (As := [.int p2]) (rest := []) ⟨hx, hb, hml, hown, hts⟩ (mz_h_m_isHeap l dC dI cI cJ cZ mo m1 m2 m3 m6 m7 m8 m9 m10 m11 m12 m13 m14 m15 m16 n ka kb p2 s.heap (by first | assumption | omega)) (cwV 1 hts gX8_bars_X8_isHeap rfl rfl rfl (by decide +kernel) ⟨Nat.le_of_ble_eq_true rfl, Nat.le_of_ble_eq_true rfl⟩) ⟨fun a U g mk q => mz_blP q, va_recv hK hPc (ci := 8) (q0 := 0) rfl rfl, fun U hU hW => ⟨rfl, hU, hPc, va_K.moved hW.alike hK, mz_nw hW hN⟩⟩ rfl rfl hl.1 rfl (lv_room (Nat.le_of_ble_eq_true rfl)) dX8_bars_10 ⟨Nat.le_of_ble_eq_true rfl, Nat.le_of_ble_eq_true rfl⟩) hS (fun q _ h => h.elim) (fun q h => h.elim) (fun r_10 u t H1 locs ht hvm hw_10 hB hz1 hk1 hS => ?_)
    have hE : s.heap = H1 := hB.symm.trans ht
    subst hE
    rcases (show (r_10 = 1 ∧ mz_hp n p2) ∨ (r_10 = 0 ∧ ¬ mz_hp n p2) from hw_10) with ⟨rfl, hc_10⟩ | ⟨rfl, hc_10⟩
    · skip
      refine lv_if_eq (tgt := 42) hx hb dX8_bars_13 (by decide) (fun c_13 => absurd c_13 (by decide +kernel)) (fun _ => ?_)
      refine lv_aload_n hx hb dX8_bars_16 rfl (lv_at hl 0 rfl) ?_
      refine lv_iload_n hx hb dX8_bars_17 rfl (lv_at hl 3 rfl) ?_
      have hPc := hP.sub (ws' := [(mo, .inr (8, [.int (nI n), .ref m1, .ref m2, .ref m3, .long ka, .long kb, .ref m6, .ref m7, .ref m8, .ref m9, .ref m10, .ref m11, .ref m12, .ref m13, .ref m14, .ref m15, .ref m16]))]) [0] rfl
      refine va_calli (va_runV (As := [.int p3]) (rest := []) ⟨hx, hb, hml, hown, hts⟩ (mz_h_m_isHeap l dC dI cI cJ cZ mo m1 m2 m3 m6 m7 m8 m9 m10 m11 m12 m13 m14 m15 m16 n ka kb p3 s.heap (by first | assumption | omega)) (cwV 1 hts gX8_bars_X8_isHeap rfl rfl rfl (by decide +kernel) ⟨Nat.le_of_ble_eq_true rfl, Nat.le_of_ble_eq_true rfl⟩) ⟨fun a U g mk q => mz_blP q, va_recv hK hPc (ci := 8) (q0 := 0) rfl rfl, fun U hU hW => ⟨rfl, hU, hPc, va_K.moved hW.alike hK, mz_nw hW hN⟩⟩ rfl rfl hl.1 rfl (lv_room (Nat.le_of_ble_eq_true rfl)) dX8_bars_18 ⟨Nat.le_of_ble_eq_true rfl, Nat.le_of_ble_eq_true rfl⟩) hS (fun q _ h => h.elim) (fun q h => h.elim) (fun r_18 u t H1 locs ht hvm hw_18 hB hz1 hk1 hS => ?_)
      have hE : s.heap = H1 := hB.symm.trans ht
      subst hE
      rcases (show (r_18 = 1 ∧ mz_hp n p3) ∨ (r_18 = 0 ∧ ¬ mz_hp n p3) from hw_18) with ⟨rfl, hc_18⟩ | ⟨rfl, hc_18⟩
      · skip
        refine lv_if_eq (tgt := 42) hx hb dX8_bars_21 (by decide) (fun c_21 => absurd c_21 (by decide +kernel)) (fun _ => ?_)
        refine lv_iload_n hx hb dX8_bars_24 rfl (lv_at hl 1 rfl) ?_
        refine lv_iload_n hx hb dX8_bars_25 rfl (lv_at hl 2 rfl) ?_
        refine lv_iand hx hb dX8_bars_26 ?_
        refine lv_if_ne (tgt := 42) hx hb dX8_bars_27 (by decide) (fun c_27 => ?_) (fun c_27 => ?_)
        · skip
          refine lv_iconst (v := 0) hx hb dX8_bars_42 (by decide +kernel) ?_
          refine W.widen (k := 0) (n := 0) (Nat.le_of_ble_eq_true rfl) (Nat.le_of_ble_eq_true rfl) ?_
          exact W.zret (v := 0) hx hb hr (mz_nz (by decide +kernel)) (fun t ht hW => ⟨⟨0, (), rfl, rfl, ht⟩, hS.F ht⟩) hS.2.2 dX8_bars_43
        · skip
          refine lv_iload_n hx hb dX8_bars_30 rfl (lv_at hl 1 rfl) ?_
          refine lv_iload_n hx hb dX8_bars_31 rfl (lv_at hl 3 rfl) ?_
          refine lv_iand hx hb dX8_bars_32 ?_
          refine lv_if_ne (tgt := 42) hx hb dX8_bars_33 (by decide) (fun c_33 => ?_) (fun c_33 => ?_)
          · skip
            refine lv_iconst (v := 0) hx hb dX8_bars_42 (by decide +kernel) ?_
            refine W.widen (k := 0) (n := 0) (Nat.le_of_ble_eq_true rfl) (Nat.le_of_ble_eq_true rfl) ?_
            exact W.zret (v := 0) hx hb hr (mz_nz (by decide +kernel)) (fun t ht hW => ⟨⟨0, (), rfl, rfl, ht⟩, hS.F ht⟩) hS.2.2 dX8_bars_43
          · skip
            refine lv_iload_n hx hb dX8_bars_36 rfl (lv_at hl 2 rfl) ?_
            refine lv_iload_n hx hb dX8_bars_37 rfl (lv_at hl 3 rfl) ?_
            refine lv_iand hx hb dX8_bars_38 ?_
            refine lv_if_eq (tgt := 44) hx hb dX8_bars_39 (by decide) (fun c_39 => ?_) (fun c_39 => ?_)
            · skip
              exact absurd ⟨hc_2, hc_10, hc_18, c_27, c_33, c_39⟩ hNA
            · skip
              refine lv_iconst (v := 0) hx hb dX8_bars_42 (by decide +kernel) ?_
              refine W.widen (k := 0) (n := 0) (Nat.le_of_ble_eq_true rfl) (Nat.le_of_ble_eq_true rfl) ?_
              exact W.zret (v := 0) hx hb hr (mz_nz (by decide +kernel)) (fun t ht hW => ⟨⟨0, (), rfl, rfl, ht⟩, hS.F ht⟩) hS.2.2 dX8_bars_43
      · skip
        refine lv_if_eq (tgt := 42) hx hb dX8_bars_21 (by decide) (fun _ => ?_) (fun c_21 => absurd (by decide +kernel) c_21)
        refine lv_iconst (v := 0) hx hb dX8_bars_42 (by decide +kernel) ?_
        refine W.widen (k := 0) (n := 0) (Nat.le_of_ble_eq_true rfl) (Nat.le_of_ble_eq_true rfl) ?_
        exact W.zret (v := 0) hx hb hr (mz_nz (by decide +kernel)) (fun t ht hW => ⟨⟨0, (), rfl, rfl, ht⟩, hS.F ht⟩) hS.2.2 dX8_bars_43
    · skip
      refine lv_if_eq (tgt := 42) hx hb dX8_bars_13 (by decide) (fun _ => ?_) (fun c_13 => absurd (by decide +kernel) c_13)
      refine lv_iconst (v := 0) hx hb dX8_bars_42 (by decide +kernel) ?_
      refine W.widen (k := 0) (n := 0) (Nat.le_of_ble_eq_true rfl) (Nat.le_of_ble_eq_true rfl) ?_
      exact W.zret (v := 0) hx hb hr (mz_nz (by decide +kernel)) (fun t ht hW => ⟨⟨0, (), rfl, rfl, ht⟩, hS.F ht⟩) hS.2.2 dX8_bars_43
  · skip
    refine lv_if_eq (tgt := 42) hx hb dX8_bars_5 (by decide) (fun _ => ?_) (fun c_5 => absurd (by decide +kernel) c_5)
    refine lv_iconst (v := 0) hx hb dX8_bars_42 (by decide +kernel) ?_
    refine W.widen (k := 0) (n := 0) (Nat.le_of_ble_eq_true rfl) (Nat.le_of_ble_eq_true rfl) ?_
    exact W.zret (v := 0) hx hb hr (mz_nz (by decide +kernel)) (fun t ht hW => ⟨⟨0, (), rfl, rfl, ht⟩, hS.F ht⟩) hS.2.2 dX8_bars_43
