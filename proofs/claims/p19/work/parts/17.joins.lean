/-! the reference: ways -/
set_option maxHeartbeats 1000000 in
set_option maxRecDepth 100000 in
theorem mz_m_isOpen (l : Launch) (dC : Nat → ClassId) (dI : Nat → Nat → Nat) (cI cJ cZ : ClassId) (mo : Nat) (m1 : Nat) (m2 : Nat) (m3 : Nat) (m6 : Nat) (m7 : Nat) (m8 : Nat) (m9 : Nat) (m10 : Nat) (m11 : Nat) (m12 : Nat) (m13 : Nat) (m14 : Nat) (m15 : Nat) (m16 : Nat) (n : Nat) (ka : Int64) (kb : Int64) (fp : Nat → Int32) (fw : Nat → Int32) (q : Nat) (p2 : Int32) (p3 : Int32) (p4 : Int32) (Hq : Heap) (hn : n ≤ 8) (hq : q ≤ 8) (hw : ∀ i, i < q → ∃ j : Nat, j < 8 ∧ fw i = nI j) : Met l yX8_isOpen wsX8_isOpen ({ frames := 2, cells := 0, slots := 0, locals := 50 }) (va_Pc [.ref mo, .int (nI q), .int p2, .int p3, .int p4] (fun U => U.heap = Hq ∧ va_P (dC, dI) vwCl [(mo, .inr (8, [.int (nI n), .ref m1, .ref m2, .ref m3, .long ka, .long kb, .ref m6, .ref m7, .ref m8, .ref m9, .ref m10, .ref m11, .ref m12, .ref m13, .ref m14, .ref m15, .ref m16])), (m2, .inl (cI, 8, .inl fp)), (m6, .inl (cI, 8, .inl fw))] Hq ∧ va_K (dC, dI) vwCl [(cI, FieldType.int), (cJ, FieldType.long), (cZ, FieldType.boolean)] U ∧ mz_N U)) (va_Qi (fun (r : Int32) (_ : Unit) => r = 0 ∨ r = 1) (fun _ t => t.heap = Hq) (fun _ : Nat => False)) 0 0 (fun _ : Nat => False) := by
  refine Met.ofW (cc := cX8_isOpen) (maxL := 10) (ret := (some .boolean)) (by decide) rfl ?_
  intro p e s m args below meth c s₁ B hml hv
  obtain ⟨rfl, hH, hP, hK, hN⟩ := hv
  subst hH
  have hx := B.exec
  have hb := B.bytes
  have hr := B.returns
  have hts := atoms_spec (ws := wsX8_isOpen) B.pre
  have hown : s.vm.findClass RX8 = some m.cls := findClass_of_methodNamed B.named
  have hlocks := B.notSynchronized
  have hS : va_S (fun _ : Nat => False) s.heap s.heap [] := va_S.rf
  have hiX8 : ∀ w ∈ u_ws RX8 TX8 17, w ∈ wsX8_isOpen := by decide +kernel
  have hl := lv_entry ([.ref mo, .int (nI q), .int p2, .int p3, .int p4]) (n := 10) (Nat.le_of_ble_eq_true rfl)
  rw [lg_entry_eq]
  generalize (lg_sl ([.ref mo, .int (nI q), .int p2, .int p3, .int p4]) ++ List.replicate (10 - (lg_sl ([.ref mo, .int (nI q), .int p2, .int p3, .int p4])).length) Slot.unset).toArray = ls at hl ⊢
  have hl : lv_has ls 10 [(0, .ref mo), (1, .int (nI q)), (2, .int p2), (3, .int p3), (4, .int p4)] := hl
  refine lv_iconst (v := 1) hx hb dX8_isOpen_0 (by decide +kernel) ?_
  refine lv_istore (lv' := [(5, .int 1), (0, .ref mo), (1, .int (nI q)), (2, .int p2), (3, .int p3), (4, .int p4)]) hx hb dX8_isOpen_1 hl (by decide) rfl (fun ls hl => ?_)
  refine mz_loopU (fun k H locs ls => ∃ (i_3 : Nat), i_3 ≤ 9 ∧ (1 ≤ i_3) ∧ H = s.heap ∧ va_S (fun _ : Nat => False) s.heap H locs ∧ lv_has ls 10 [(5, .int (nI i_3)), (0, .ref mo), (1, .int (nI q)), (2, .int p2), (3, .int p3), (4, .int p4)] ∧ k = 9 - i_3) ?_ _ _ _ _ ⟨1, by omega, (by first | assumption | omega), rfl, hS, lv_sub hl [0, 1, 2, 3, 4, 5] rfl, rfl⟩
  intro k_3 H locs ls hI_3 ih_3
  obtain ⟨i_3, hi_3, h1_3, hH_3, hS, hl, hk_3⟩ := hI_3
  subst hH_3
  refine lv_iload hx hb dX8_isOpen_3 (lv_at hl 0 rfl) ?_
  refine lv_iconst (v := 1) hx hb dX8_isOpen_5 (by decide +kernel) ?_
  refine lv_iadd hx hb dX8_isOpen_6 ?_
  refine mz_ti (y := (nI (i_3 + 1))) (nI_add _ _) ?_
  refine lv_iload_n hx hb dX8_isOpen_7 rfl (lv_at hl 2 rfl) ?_
  refine lv_icmp_ge (tgt := 143) hx hb dX8_isOpen_8 (by decide) (fun c_8 => ?_) (fun c_8 => ?_)
  · skip
    have d_8 : q ≤ i_3 + 1 := (nI_leI (a := q) (b := i_3 + 1) (by omega) (by omega)).mp c_8
    refine lv_iconst (v := 1) hx hb dX8_isOpen_143 (by decide +kernel) ?_
    refine W.widen (k := 0) (n := 0) (Nat.le_of_ble_eq_true rfl) (Nat.le_of_ble_eq_true rfl) ?_
    exact W.zret (v := 1) hx hb hr (mz_nz (by decide +kernel)) (fun t ht hW => ⟨⟨1, (), rfl, Or.inr rfl, ht⟩, hS.F ht⟩) hS.2.2 dX8_isOpen_144
  · skip
    have d_8 : ¬ q ≤ i_3 + 1 := fun h => c_8 ((nI_leI (a := q) (b := i_3 + 1) (by omega) (by omega)).mpr h)
    refine lv_aload_n hx hb dX8_isOpen_11 rfl (lv_at hl 1 rfl) ?_
    refine va_get (D := (dC, dI)) (ci := 8) (v := .ref m6) (C := RX8) (T := TX8) (N := 17) hx hb hts hiX8 hown hK hP 0 rfl rfl 6 (by decide) (hts (.fieldLink RX8 24 "MadeItSoModel" "way" "[I") (by decide +kernel)) (fun _ h9 => h9) rfl dX8_isOpen_12 ?_
    refine lv_iload hx hb dX8_isOpen_15 (lv_at hl 0 rfl) ?_
    refine va_iald hx hb hK hP 2 0 rfl rfl (vp_in_nI (by omega) (by omega)) dX8_isOpen_17 ?_
    refine mz_ti (y := (fw i_3)) (by rw [mz_cl (by omega)]) ?_
    obtain ⟨j_18, hj_18, ej_18⟩ := hw i_3 (by omega)
    refine mz_ti (y := (nI j_18)) ej_18 ?_
    refine lv_istore (lv' := [(6, .int (nI j_18)), (5, .int (nI i_3)), (0, .ref mo), (1, .int (nI q)), (2, .int p2), (3, .int p3), (4, .int p4)]) hx hb dX8_isOpen_18 hl (by decide) rfl (fun ls hl => ?_)
    refine lv_aload_n hx hb dX8_isOpen_20 rfl (lv_at hl 2 rfl) ?_
    refine lv_aload_n hx hb dX8_isOpen_21 rfl (lv_at hl 2 rfl) ?_
    refine va_get (D := (dC, dI)) (ci := 8) (v := .ref m6) (C := RX8) (T := TX8) (N := 17) hx hb hts hiX8 hown hK hP 0 rfl rfl 6 (by decide) (hts (.fieldLink RX8 24 "MadeItSoModel" "way" "[I") (by decide +kernel)) (fun _ h9 => h9) rfl dX8_isOpen_22 ?_
    refine lv_iload hx hb dX8_isOpen_25 (lv_at hl 1 rfl) ?_
    refine lv_iconst (v := 1) hx hb dX8_isOpen_27 (by decide +kernel) ?_
    refine lv_isub hx hb dX8_isOpen_28 ?_
    refine mz_ti (y := (nI (i_3 - 1))) (pk_sub (by omega)) ?_
    refine va_iald hx hb hK hP 2 0 rfl rfl (vp_in_nI (by omega) (by omega)) dX8_isOpen_29 ?_
    refine mz_ti (y := (fw (i_3 - 1))) (by rw [mz_cl (by omega)]) ?_
    refine lv_iload hx hb dX8_isOpen_30 (lv_at hl 0 rfl) ?_
    refine lv_iload_n hx hb dX8_isOpen_32 rfl (lv_at hl 5 rfl) ?_
    refine lv_iload hx hb dX8_isOpen_33 (lv_at hl 6 rfl) ?_
    have hPc := hP.sub (ws' := [(mo, .inr (8, [.int (nI n), .ref m1, .ref m2, .ref m3, .long ka, .long kb, .ref m6, .ref m7, .ref m8, .ref m9, .ref m10, .ref m11, .ref m12, .ref m13, .ref m14, .ref m15, .ref m16])), (m2, .inl (cI, 8, .inl fp))]) [0, 1] rfl
    refine va_calli (va_runV (As := [.int (fw (i_3 - 1)), .int (nI j_18), .int p3, .int p4]) (rest := []) ⟨hx, hb, hml, hown, hts⟩ (mz_m_isArrow l dC dI cI cJ cZ mo m1 m2 m3 m6 m7 m8 m9 m10 m11 m12 m13 m14 m15 m16 n ka kb fp j_18 (fw (i_3 - 1)) p3 p4 s.heap (by first | assumption | omega)) (cwV 4 hts gX8_isOpen_X8_isArrow rfl rfl rfl (by decide +kernel) ⟨Nat.le_of_ble_eq_true rfl, Nat.le_of_ble_eq_true rfl⟩) ⟨fun a U g mk q => mz_blP q, va_recv hK hPc (ci := 8) (q0 := 0) rfl rfl, fun U hU hW => ⟨rfl, hU, hPc, va_K.moved hW.alike hK, mz_nw hW hN⟩⟩ rfl rfl hl.1 rfl (lv_room (Nat.le_of_ble_eq_true rfl)) dX8_isOpen_35 ⟨Nat.le_of_ble_eq_true rfl, Nat.le_of_ble_eq_true rfl⟩) hS (fun q _ h => h.elim) (fun q h => h.elim) (fun r_35 u t H1 locs ht hvm hw_35 hB hz1 hk1 hS => ?_)
    have hE : s.heap = H1 := hB.symm.trans ht
    subst hE
    refine lv_if_eq (tgt := 66) hx hb dX8_isOpen_38 (by decide) (fun c_38 => ?_) (fun c_38 => ?_)
    · skip
      refine lv_iconst (v := 0) hx hb dX8_isOpen_66 (by decide +kernel) ?_
      refine lv_istore (lv' := [(7, .int 0), (6, .int (nI j_18)), (5, .int (nI i_3)), (0, .ref mo), (1, .int (nI q)), (2, .int p2), (3, .int p3), (4, .int p4)]) hx hb dX8_isOpen_67 hl (by decide) rfl (fun ls hl => ?_)
      refine lv_iload_n hx hb dX8_isOpen_69 rfl (lv_at hl 5 rfl) ?_
      refine lv_iload hx hb dX8_isOpen_70 (lv_at hl 1 rfl) ?_
      refine lv_ishr hx hb dX8_isOpen_72 ?_
      refine lv_iconst (v := 1) hx hb dX8_isOpen_73 (by decide +kernel) ?_
      refine lv_iand hx hb dX8_isOpen_74 ?_
      refine lv_iconst (v := 1) hx hb dX8_isOpen_75 (by decide +kernel) ?_
      refine lv_icmp_ne (tgt := 83) hx hb dX8_isOpen_76 (by decide) (fun c_76 => ?_) (fun c_76 => ?_)
      · skip
        refine lv_iconst (v := 0) hx hb dX8_isOpen_83 (by decide +kernel) ?_
        refine lv_istore (lv' := [(8, .int 0), (7, .int 0), (6, .int (nI j_18)), (5, .int (nI i_3)), (0, .ref mo), (1, .int (nI q)), (2, .int p2), (3, .int p3), (4, .int p4)]) hx hb dX8_isOpen_84 hl (by decide) rfl (fun ls hl => ?_)
        refine lv_iload hx hb dX8_isOpen_86 (lv_at hl 1 rfl) ?_
        refine lv_if_eq (tgt := 118) hx hb dX8_isOpen_88 (by decide) (fun _ => ?_) (fun c_88 => absurd (by decide +kernel) c_88)
        refine lv_iload hx hb dX8_isOpen_118 (lv_at hl 0 rfl) ?_
        refine lv_if_ne (tgt := 127) hx hb dX8_isOpen_120 (by decide) (fun c_120 => absurd (by decide +kernel) c_120) (fun _ => ?_)
        refine lv_iconst (v := 1) hx hb dX8_isOpen_123 (by decide +kernel) ?_
        refine lv_goto (tgt := 128) hx hb dX8_isOpen_124 (by decide) ?_
        refine lv_istore (lv' := [(9, .int 1), (8, .int 0), (7, .int 0), (6, .int (nI j_18)), (5, .int (nI i_3)), (0, .ref mo), (1, .int (nI q)), (2, .int p2), (3, .int p3), (4, .int p4)]) hx hb dX8_isOpen_128 hl (by decide) rfl (fun ls hl => ?_)
        refine lv_iload hx hb dX8_isOpen_130 (lv_at hl 0 rfl) ?_
        refine lv_if_ne (tgt := 137) hx hb dX8_isOpen_132 (by decide) (fun _ => ?_) (fun c_132 => absurd c_132 (by decide +kernel))
        refine lv_iinc (v := (nI (i_3 + 1))) (lv' := [(5, .int (nI (i_3 + 1))), (9, .int 1), (8, .int 0), (7, .int 0), (6, .int (nI j_18)), (0, .ref mo), (1, .int (nI q)), (2, .int p2), (3, .int p3), (4, .int p4)]) hx hb dX8_isOpen_137 hl (k := 4) rfl (nI_1 _) (by decide) rfl (fun ls hl => ?_)
        refine lv_goto (tgt := 3) hx hb dX8_isOpen_140 (by decide) ?_
        exact ih_3 _ (by omega) _ _ _ ⟨(i_3 + 1), by omega, (by first | assumption | omega), rfl, hS, lv_sub hl [0, 5, 6, 7, 8, 9] rfl, rfl⟩
      · skip
        refine lv_iconst (v := 1) hx hb dX8_isOpen_79 (by decide +kernel) ?_
        refine lv_goto (tgt := 84) hx hb dX8_isOpen_80 (by decide) ?_
        refine lv_istore (lv' := [(8, .int 1), (7, .int 0), (6, .int (nI j_18)), (5, .int (nI i_3)), (0, .ref mo), (1, .int (nI q)), (2, .int p2), (3, .int p3), (4, .int p4)]) hx hb dX8_isOpen_84 hl (by decide) rfl (fun ls hl => ?_)
        refine lv_iload hx hb dX8_isOpen_86 (lv_at hl 1 rfl) ?_
        refine lv_if_eq (tgt := 118) hx hb dX8_isOpen_88 (by decide) (fun _ => ?_) (fun c_88 => absurd (by decide +kernel) c_88)
        refine lv_iload hx hb dX8_isOpen_118 (lv_at hl 0 rfl) ?_
        refine lv_if_ne (tgt := 127) hx hb dX8_isOpen_120 (by decide) (fun _ => ?_) (fun c_120 => absurd c_120 (by decide +kernel))
        refine lv_iconst (v := 0) hx hb dX8_isOpen_127 (by decide +kernel) ?_
        refine lv_istore (lv' := [(9, .int 0), (8, .int 1), (7, .int 0), (6, .int (nI j_18)), (5, .int (nI i_3)), (0, .ref mo), (1, .int (nI q)), (2, .int p2), (3, .int p3), (4, .int p4)]) hx hb dX8_isOpen_128 hl (by decide) rfl (fun ls hl => ?_)
        refine lv_iload hx hb dX8_isOpen_130 (lv_at hl 0 rfl) ?_
        refine lv_if_ne (tgt := 137) hx hb dX8_isOpen_132 (by decide) (fun c_132 => absurd (by decide +kernel) c_132) (fun _ => ?_)
        refine lv_iconst (v := 0) hx hb dX8_isOpen_135 (by decide +kernel) ?_
        refine W.widen (k := 0) (n := 0) (Nat.le_of_ble_eq_true rfl) (Nat.le_of_ble_eq_true rfl) ?_
        exact W.zret (v := 0) hx hb hr (mz_nz (by decide +kernel)) (fun t ht hW => ⟨⟨0, (), rfl, Or.inl rfl, ht⟩, hS.F ht⟩) hS.2.2 dX8_isOpen_136
    · skip
      refine lv_aload_n hx hb dX8_isOpen_41 rfl (lv_at hl 2 rfl) ?_
      refine lv_aload_n hx hb dX8_isOpen_42 rfl (lv_at hl 2 rfl) ?_
      refine va_get (D := (dC, dI)) (ci := 8) (v := .ref m6) (C := RX8) (T := TX8) (N := 17) hx hb hts hiX8 hown hK hP 0 rfl rfl 6 (by decide) (hts (.fieldLink RX8 24 "MadeItSoModel" "way" "[I") (by decide +kernel)) (fun _ h9 => h9) rfl dX8_isOpen_43 ?_
      refine lv_iload hx hb dX8_isOpen_46 (lv_at hl 1 rfl) ?_
      refine lv_iconst (v := 1) hx hb dX8_isOpen_48 (by decide +kernel) ?_
      refine lv_iadd hx hb dX8_isOpen_49 ?_
      refine mz_ti (y := (nI (i_3 + 1))) (nI_add _ _) ?_
      refine va_iald hx hb hK hP 2 0 rfl rfl (vp_in_nI (by omega) (by omega)) dX8_isOpen_50 ?_
      refine mz_ti (y := (fw (i_3 + 1))) (by rw [mz_cl (by omega)]) ?_
      refine lv_iload hx hb dX8_isOpen_51 (lv_at hl 0 rfl) ?_
      refine lv_iload_n hx hb dX8_isOpen_53 rfl (lv_at hl 5 rfl) ?_
      refine lv_iload hx hb dX8_isOpen_54 (lv_at hl 6 rfl) ?_
      have hPc := hP.sub (ws' := [(mo, .inr (8, [.int (nI n), .ref m1, .ref m2, .ref m3, .long ka, .long kb, .ref m6, .ref m7, .ref m8, .ref m9, .ref m10, .ref m11, .ref m12, .ref m13, .ref m14, .ref m15, .ref m16])), (m2, .inl (cI, 8, .inl fp))]) [0, 1] rfl
      refine va_calli (va_runV (As := [.int (fw (i_3 + 1)), .int (nI j_18), .int p3, .int p4]) (rest := []) ⟨hx, hb, hml, hown, hts⟩ (mz_m_isArrow l dC dI cI cJ cZ mo m1 m2 m3 m6 m7 m8 m9 m10 m11 m12 m13 m14 m15 m16 n ka kb fp j_18 (fw (i_3 + 1)) p3 p4 s.heap (by first | assumption | omega)) (cwV 4 hts gX8_isOpen_X8_isArrow rfl rfl rfl (by decide +kernel) ⟨Nat.le_of_ble_eq_true rfl, Nat.le_of_ble_eq_true rfl⟩) ⟨fun a U g mk q => mz_blP q, va_recv hK hPc (ci := 8) (q0 := 0) rfl rfl, fun U hU hW => ⟨rfl, hU, hPc, va_K.moved hW.alike hK, mz_nw hW hN⟩⟩ rfl rfl hl.1 rfl (lv_room (Nat.le_of_ble_eq_true rfl)) dX8_isOpen_56 ⟨Nat.le_of_ble_eq_true rfl, Nat.le_of_ble_eq_true rfl⟩) hS (fun q _ h => h.elim) (fun q h => h.elim) (fun r_56 u t H1 locs ht hvm hw_56 hB hz1 hk1 hS => ?_)
      have hE : s.heap = H1 := hB.symm.trans ht
      subst hE
      refine lv_if_eq (tgt := 66) hx hb dX8_isOpen_59 (by decide) (fun c_59 => ?_) (fun c_59 => ?_)
      · skip
        refine lv_iconst (v := 0) hx hb dX8_isOpen_66 (by decide +kernel) ?_
        refine lv_istore (lv' := [(7, .int 0), (6, .int (nI j_18)), (5, .int (nI i_3)), (0, .ref mo), (1, .int (nI q)), (2, .int p2), (3, .int p3), (4, .int p4)]) hx hb dX8_isOpen_67 hl (by decide) rfl (fun ls hl => ?_)
        refine lv_iload_n hx hb dX8_isOpen_69 rfl (lv_at hl 5 rfl) ?_
        refine lv_iload hx hb dX8_isOpen_70 (lv_at hl 1 rfl) ?_
        refine lv_ishr hx hb dX8_isOpen_72 ?_
        refine lv_iconst (v := 1) hx hb dX8_isOpen_73 (by decide +kernel) ?_
        refine lv_iand hx hb dX8_isOpen_74 ?_
        refine lv_iconst (v := 1) hx hb dX8_isOpen_75 (by decide +kernel) ?_
        refine lv_icmp_ne (tgt := 83) hx hb dX8_isOpen_76 (by decide) (fun c_76 => ?_) (fun c_76 => ?_)
        · skip
          refine lv_iconst (v := 0) hx hb dX8_isOpen_83 (by decide +kernel) ?_
          refine lv_istore (lv' := [(8, .int 0), (7, .int 0), (6, .int (nI j_18)), (5, .int (nI i_3)), (0, .ref mo), (1, .int (nI q)), (2, .int p2), (3, .int p3), (4, .int p4)]) hx hb dX8_isOpen_84 hl (by decide) rfl (fun ls hl => ?_)
          refine lv_iload hx hb dX8_isOpen_86 (lv_at hl 1 rfl) ?_
          refine lv_if_eq (tgt := 118) hx hb dX8_isOpen_88 (by decide) (fun _ => ?_) (fun c_88 => absurd (by decide +kernel) c_88)
          refine lv_iload hx hb dX8_isOpen_118 (lv_at hl 0 rfl) ?_
          refine lv_if_ne (tgt := 127) hx hb dX8_isOpen_120 (by decide) (fun c_120 => absurd (by decide +kernel) c_120) (fun _ => ?_)
          refine lv_iconst (v := 1) hx hb dX8_isOpen_123 (by decide +kernel) ?_
          refine lv_goto (tgt := 128) hx hb dX8_isOpen_124 (by decide) ?_
          refine lv_istore (lv' := [(9, .int 1), (8, .int 0), (7, .int 0), (6, .int (nI j_18)), (5, .int (nI i_3)), (0, .ref mo), (1, .int (nI q)), (2, .int p2), (3, .int p3), (4, .int p4)]) hx hb dX8_isOpen_128 hl (by decide) rfl (fun ls hl => ?_)
          refine lv_iload hx hb dX8_isOpen_130 (lv_at hl 0 rfl) ?_
          refine lv_if_ne (tgt := 137) hx hb dX8_isOpen_132 (by decide) (fun _ => ?_) (fun c_132 => absurd c_132 (by decide +kernel))
          refine lv_iinc (v := (nI (i_3 + 1))) (lv' := [(5, .int (nI (i_3 + 1))), (9, .int 1), (8, .int 0), (7, .int 0), (6, .int (nI j_18)), (0, .ref mo), (1, .int (nI q)), (2, .int p2), (3, .int p3), (4, .int p4)]) hx hb dX8_isOpen_137 hl (k := 4) rfl (nI_1 _) (by decide) rfl (fun ls hl => ?_)
          refine lv_goto (tgt := 3) hx hb dX8_isOpen_140 (by decide) ?_
          exact ih_3 _ (by omega) _ _ _ ⟨(i_3 + 1), by omega, (by first | assumption | omega), rfl, hS, lv_sub hl [0, 5, 6, 7, 8, 9] rfl, rfl⟩
        · skip
          refine lv_iconst (v := 1) hx hb dX8_isOpen_79 (by decide +kernel) ?_
          refine lv_goto (tgt := 84) hx hb dX8_isOpen_80 (by decide) ?_
          refine lv_istore (lv' := [(8, .int 1), (7, .int 0), (6, .int (nI j_18)), (5, .int (nI i_3)), (0, .ref mo), (1, .int (nI q)), (2, .int p2), (3, .int p3), (4, .int p4)]) hx hb dX8_isOpen_84 hl (by decide) rfl (fun ls hl => ?_)
          refine lv_iload hx hb dX8_isOpen_86 (lv_at hl 1 rfl) ?_
          refine lv_if_eq (tgt := 118) hx hb dX8_isOpen_88 (by decide) (fun _ => ?_) (fun c_88 => absurd (by decide +kernel) c_88)
          refine lv_iload hx hb dX8_isOpen_118 (lv_at hl 0 rfl) ?_
          refine lv_if_ne (tgt := 127) hx hb dX8_isOpen_120 (by decide) (fun _ => ?_) (fun c_120 => absurd c_120 (by decide +kernel))
          refine lv_iconst (v := 0) hx hb dX8_isOpen_127 (by decide +kernel) ?_
          refine lv_istore (lv' := [(9, .int 0), (8, .int 1), (7, .int 0), (6, .int (nI j_18)), (5, .int (nI i_3)), (0, .ref mo), (1, .int (nI q)), (2, .int p2), (3, .int p3), (4, .int p4)]) hx hb dX8_isOpen_128 hl (by decide) rfl (fun ls hl => ?_)
          refine lv_iload hx hb dX8_isOpen_130 (lv_at hl 0 rfl) ?_
          refine lv_if_ne (tgt := 137) hx hb dX8_isOpen_132 (by decide) (fun c_132 => absurd (by decide +kernel) c_132) (fun _ => ?_)
          refine lv_iconst (v := 0) hx hb dX8_isOpen_135 (by decide +kernel) ?_
          refine W.widen (k := 0) (n := 0) (Nat.le_of_ble_eq_true rfl) (Nat.le_of_ble_eq_true rfl) ?_
          exact W.zret (v := 0) hx hb hr (mz_nz (by decide +kernel)) (fun t ht hW => ⟨⟨0, (), rfl, Or.inl rfl, ht⟩, hS.F ht⟩) hS.2.2 dX8_isOpen_136
      · skip
        refine lv_iconst (v := 1) hx hb dX8_isOpen_62 (by decide +kernel) ?_
        refine lv_goto (tgt := 67) hx hb dX8_isOpen_63 (by decide) ?_
        refine lv_istore (lv' := [(7, .int 1), (6, .int (nI j_18)), (5, .int (nI i_3)), (0, .ref mo), (1, .int (nI q)), (2, .int p2), (3, .int p3), (4, .int p4)]) hx hb dX8_isOpen_67 hl (by decide) rfl (fun ls hl => ?_)
        refine lv_iload_n hx hb dX8_isOpen_69 rfl (lv_at hl 5 rfl) ?_
        refine lv_iload hx hb dX8_isOpen_70 (lv_at hl 1 rfl) ?_
        refine lv_ishr hx hb dX8_isOpen_72 ?_
        refine lv_iconst (v := 1) hx hb dX8_isOpen_73 (by decide +kernel) ?_
        refine lv_iand hx hb dX8_isOpen_74 ?_
        refine lv_iconst (v := 1) hx hb dX8_isOpen_75 (by decide +kernel) ?_
        refine lv_icmp_ne (tgt := 83) hx hb dX8_isOpen_76 (by decide) (fun c_76 => ?_) (fun c_76 => ?_)
        · skip
          refine lv_iconst (v := 0) hx hb dX8_isOpen_83 (by decide +kernel) ?_
          refine lv_istore (lv' := [(8, .int 0), (7, .int 1), (6, .int (nI j_18)), (5, .int (nI i_3)), (0, .ref mo), (1, .int (nI q)), (2, .int p2), (3, .int p3), (4, .int p4)]) hx hb dX8_isOpen_84 hl (by decide) rfl (fun ls hl => ?_)
          refine lv_iload hx hb dX8_isOpen_86 (lv_at hl 1 rfl) ?_
          refine lv_if_eq (tgt := 118) hx hb dX8_isOpen_88 (by decide) (fun c_88 => absurd c_88 (by decide +kernel)) (fun _ => ?_)
          refine lv_iload hx hb dX8_isOpen_91 (lv_at hl 0 rfl) ?_
          refine lv_if_ne (tgt := 110) hx hb dX8_isOpen_93 (by decide) (fun c_93 => absurd (by decide +kernel) c_93) (fun _ => ?_)
          refine lv_aload_n hx hb dX8_isOpen_96 rfl (lv_at hl 4 rfl) ?_
          refine lv_iload hx hb dX8_isOpen_97 (lv_at hl 2 rfl) ?_
          refine lv_iload_n hx hb dX8_isOpen_99 rfl (lv_at hl 7 rfl) ?_
          refine lv_iload hx hb dX8_isOpen_100 (lv_at hl 8 rfl) ?_
          have hPc := hP.sub (ws' := [(mo, .inr (8, [.int (nI n), .ref m1, .ref m2, .ref m3, .long ka, .long kb, .ref m6, .ref m7, .ref m8, .ref m9, .ref m10, .ref m11, .ref m12, .ref m13, .ref m14, .ref m15, .ref m16])), (m2, .inl (cI, 8, .inl fp))]) [0, 1] rfl
          refine va_calli (va_runV (As := [.int (nI j_18), .int p3, .int p4]) (rest := []) ⟨hx, hb, hml, hown, hts⟩ (mz_m_belowWithout l dC dI cI cJ cZ mo m1 m2 m3 m6 m7 m8 m9 m10 m11 m12 m13 m14 m15 m16 n ka kb fp (nI j_18) p3 p4 s.heap (by first | assumption | omega)) (cwV 3 hts gX8_isOpen_X8_belowWithout rfl rfl rfl (by decide +kernel) ⟨Nat.le_of_ble_eq_true rfl, Nat.le_of_ble_eq_true rfl⟩) ⟨fun a U g mk q => mz_blP q, va_recv hK hPc (ci := 8) (q0 := 0) rfl rfl, fun U hU hW => ⟨rfl, hU, hPc, va_K.moved hW.alike hK, mz_nw hW hN⟩⟩ rfl rfl hl.1 rfl (lv_room (Nat.le_of_ble_eq_true rfl)) dX8_isOpen_102 ⟨Nat.le_of_ble_eq_true rfl, Nat.le_of_ble_eq_true rfl⟩) hS (fun q _ h => h.elim) (fun q h => h.elim) (fun r_102 u t H1 locs ht hvm hw_102 hB hz1 hk1 hS => ?_)
          have hE : s.heap = H1 := hB.symm.trans ht
          subst hE
          refine lv_iload_n hx hb dX8_isOpen_105 rfl (lv_at hl 6 rfl) ?_
          refine lv_iand hx hb dX8_isOpen_106 ?_
          refine lv_if_eq (tgt := 114) hx hb dX8_isOpen_107 (by decide) (fun c_107 => ?_) (fun c_107 => ?_)
          · skip
            refine lv_iconst (v := 0) hx hb dX8_isOpen_114 (by decide +kernel) ?_
            refine lv_goto (tgt := 128) hx hb dX8_isOpen_115 (by decide) ?_
            refine lv_istore (lv' := [(9, .int 0), (8, .int 0), (7, .int 1), (6, .int (nI j_18)), (5, .int (nI i_3)), (0, .ref mo), (1, .int (nI q)), (2, .int p2), (3, .int p3), (4, .int p4)]) hx hb dX8_isOpen_128 hl (by decide) rfl (fun ls hl => ?_)
            refine lv_iload hx hb dX8_isOpen_130 (lv_at hl 0 rfl) ?_
            refine lv_if_ne (tgt := 137) hx hb dX8_isOpen_132 (by decide) (fun c_132 => absurd (by decide +kernel) c_132) (fun _ => ?_)
            refine lv_iconst (v := 0) hx hb dX8_isOpen_135 (by decide +kernel) ?_
            refine W.widen (k := 0) (n := 0) (Nat.le_of_ble_eq_true rfl) (Nat.le_of_ble_eq_true rfl) ?_
            exact W.zret (v := 0) hx hb hr (mz_nz (by decide +kernel)) (fun t ht hW => ⟨⟨0, (), rfl, Or.inl rfl, ht⟩, hS.F ht⟩) hS.2.2 dX8_isOpen_136
          · skip
            refine lv_iconst (v := 1) hx hb dX8_isOpen_110 (by decide +kernel) ?_
            refine lv_goto (tgt := 128) hx hb dX8_isOpen_111 (by decide) ?_
            refine lv_istore (lv' := [(9, .int 1), (8, .int 0), (7, .int 1), (6, .int (nI j_18)), (5, .int (nI i_3)), (0, .ref mo), (1, .int (nI q)), (2, .int p2), (3, .int p3), (4, .int p4)]) hx hb dX8_isOpen_128 hl (by decide) rfl (fun ls hl => ?_)
            refine lv_iload hx hb dX8_isOpen_130 (lv_at hl 0 rfl) ?_
            refine lv_if_ne (tgt := 137) hx hb dX8_isOpen_132 (by decide) (fun _ => ?_) (fun c_132 => absurd c_132 (by decide +kernel))
            refine lv_iinc (v := (nI (i_3 + 1))) (lv' := [(5, .int (nI (i_3 + 1))), (9, .int 1), (8, .int 0), (7, .int 1), (6, .int (nI j_18)), (0, .ref mo), (1, .int (nI q)), (2, .int p2), (3, .int p3), (4, .int p4)]) hx hb dX8_isOpen_137 hl (k := 4) rfl (nI_1 _) (by decide) rfl (fun ls hl => ?_)
            refine lv_goto (tgt := 3) hx hb dX8_isOpen_140 (by decide) ?_
            exact ih_3 _ (by omega) _ _ _ ⟨(i_3 + 1), by omega, (by first | assumption | omega), rfl, hS, lv_sub hl [0, 5, 6, 7, 8, 9] rfl, rfl⟩
        · skip
          refine lv_iconst (v := 1) hx hb dX8_isOpen_79 (by decide +kernel) ?_
          refine lv_goto (tgt := 84) hx hb dX8_isOpen_80 (by decide) ?_
          refine lv_istore (lv' := [(8, .int 1), (7, .int 1), (6, .int (nI j_18)), (5, .int (nI i_3)), (0, .ref mo), (1, .int (nI q)), (2, .int p2), (3, .int p3), (4, .int p4)]) hx hb dX8_isOpen_84 hl (by decide) rfl (fun ls hl => ?_)
          refine lv_iload hx hb dX8_isOpen_86 (lv_at hl 1 rfl) ?_
          refine lv_if_eq (tgt := 118) hx hb dX8_isOpen_88 (by decide) (fun c_88 => absurd c_88 (by decide +kernel)) (fun _ => ?_)
          refine lv_iload hx hb dX8_isOpen_91 (lv_at hl 0 rfl) ?_
          refine lv_if_ne (tgt := 110) hx hb dX8_isOpen_93 (by decide) (fun _ => ?_) (fun c_93 => absurd c_93 (by decide +kernel))
          refine lv_iconst (v := 1) hx hb dX8_isOpen_110 (by decide +kernel) ?_
          refine lv_goto (tgt := 128) hx hb dX8_isOpen_111 (by decide) ?_
          refine lv_istore (lv' := [(9, .int 1), (8, .int 1), (7, .int 1), (6, .int (nI j_18)), (5, .int (nI i_3)), (0, .ref mo), (1, .int (nI q)), (2, .int p2), (3, .int p3), (4, .int p4)]) hx hb dX8_isOpen_128 hl (by decide) rfl (fun ls hl => ?_)
          refine lv_iload hx hb dX8_isOpen_130 (lv_at hl 0 rfl) ?_
          refine lv_if_ne (tgt := 137) hx hb dX8_isOpen_132 (by decide) (fun _ => ?_) (fun c_132 => absurd c_132 (by decide +kernel))
          refine lv_iinc (v := (nI (i_3 + 1))) (lv' := [(5, .int (nI (i_3 + 1))), (9, .int 1), (8, .int 1), (7, .int 1), (6, .int (nI j_18)), (0, .ref mo), (1, .int (nI q)), (2, .int p2), (3, .int p3), (4, .int p4)]) hx hb dX8_isOpen_137 hl (k := 4) rfl (nI_1 _) (by decide) rfl (fun ls hl => ?_)
          refine lv_goto (tgt := 3) hx hb dX8_isOpen_140 (by decide) ?_
          exact ih_3 _ (by omega) _ _ _ ⟨(i_3 + 1), by omega, (by first | assumption | omega), rfl, hS, lv_sub hl [0, 5, 6, 7, 8, 9] rfl, rfl⟩
set_option maxHeartbeats 1000000 in
set_option maxRecDepth 100000 in
theorem mz_m_joins (l : Launch) (dC : Nat → ClassId) (dI : Nat → Nat → Nat) (cI cJ cZ : ClassId) (mo : Nat) (m1 : Nat) (m2 : Nat) (m3 : Nat) (m6 : Nat) (m7 : Nat) (m8 : Nat) (m9 : Nat) (m10 : Nat) (m11 : Nat) (m12 : Nat) (m13 : Nat) (m14 : Nat) (m15 : Nat) (m16 : Nat) (n : Nat) (ka : Int64) (kb : Int64) (fp : Nat → Int32) (fw : Nat → Int32) (ft : Nat → Int32) (i0 : Nat) (p2 : Int32) (p3 : Int32) (p4 : Int32) (p5 : Int32) (sz : Nat) (hn : n ≤ 8) (hi0 : i0 < n) : Met l yX8_joins wsX8_joins ({ frames := 3, cells := 0, slots := 0, locals := 79 }) (va_Pc [.ref mo, .int (nI i0), .int p2, .int p3, .int p4, .int p5] (fun U => U.heap.size = sz ∧ va_P (dC, dI) vwCl [(mo, .inr (8, [.int (nI n), .ref m1, .ref m2, .ref m3, .long ka, .long kb, .ref m6, .ref m7, .ref m8, .ref m9, .ref m10, .ref m11, .ref m12, .ref m13, .ref m14, .ref m15, .ref m16])), (m2, .inl (cI, 8, .inl fp)), (m6, .inl (cI, 8, .inl fw)), (m7, .inl (cI, 9, .inl ft))] U.heap ∧ va_K (dC, dI) vwCl [(cI, FieldType.int), (cJ, FieldType.long), (cZ, FieldType.boolean)] U ∧ va_D (fun _ => True) [(mo, .inr (8, [.int (nI n), .ref m1, .ref m2, .ref m3, .long ka, .long kb, .ref m6, .ref m7, .ref m8, .ref m9, .ref m10, .ref m11, .ref m12, .ref m13, .ref m14, .ref m15, .ref m16])), (m2, .inl (cI, 8, .inl fp)), (m6, .inl (cI, 8, .inl fw)), (m7, .inl (cI, 9, .inl ft))] ∧ mz_N U)) (va_Qi (fun (r : Int32) (_ : Unit) => r = 0 ∨ r = 1) (fun _ t => ∃ (gw : Nat → Int32), ∃ (gt : Nat → Int32), va_P (dC, dI) vwCl [(mo, .inr (8, [.int (nI n), .ref m1, .ref m2, .ref m3, .long ka, .long kb, .ref m6, .ref m7, .ref m8, .ref m9, .ref m10, .ref m11, .ref m12, .ref m13, .ref m14, .ref m15, .ref m16])), (m2, .inl (cI, 8, .inl fp)), (m6, .inl (cI, 8, .inl gw)), (m7, .inl (cI, 9, .inl gt))] t.heap ∧ va_D (va_A [(mo, .inr (8, [.int (nI n), .ref m1, .ref m2, .ref m3, .long ka, .long kb, .ref m6, .ref m7, .ref m8, .ref m9, .ref m10, .ref m11, .ref m12, .ref m13, .ref m14, .ref m15, .ref m16])), (m2, .inl (cI, 8, .inl fp)), (m6, .inl (cI, 8, .inl fw)), (m7, .inl (cI, 9, .inl ft))] sz) [(mo, .inr (8, [.int (nI n), .ref m1, .ref m2, .ref m3, .long ka, .long kb, .ref m6, .ref m7, .ref m8, .ref m9, .ref m10, .ref m11, .ref m12, .ref m13, .ref m14, .ref m15, .ref m16])), (m2, .inl (cI, 8, .inl fp)), (m6, .inl (cI, 8, .inl gw)), (m7, .inl (cI, 9, .inl gt))]) (va_A [(mo, .inr (8, [.int (nI n), .ref m1, .ref m2, .ref m3, .long ka, .long kb, .ref m6, .ref m7, .ref m8, .ref m9, .ref m10, .ref m11, .ref m12, .ref m13, .ref m14, .ref m15, .ref m16])), (m2, .inl (cI, 8, .inl fp)), (m6, .inl (cI, 8, .inl fw)), (m7, .inl (cI, 9, .inl ft))] sz)) 0 0 (va_A [(mo, .inr (8, [.int (nI n), .ref m1, .ref m2, .ref m3, .long ka, .long kb, .ref m6, .ref m7, .ref m8, .ref m9, .ref m10, .ref m11, .ref m12, .ref m13, .ref m14, .ref m15, .ref m16])), (m2, .inl (cI, 8, .inl fp)), (m6, .inl (cI, 8, .inl fw)), (m7, .inl (cI, 9, .inl ft))] sz) := by
  refine Met.ofW (cc := cX8_joins) (maxL := 11) (ret := (some .boolean)) (by decide) rfl ?_
  intro p e s m args below meth c s₁ B hml hv
  obtain ⟨rfl, hsz, hP, hK, hD0, hN⟩ := hv
  subst hsz
  have hx := B.exec
  have hb := B.bytes
  have hr := B.returns
  have hts := atoms_spec (ws := wsX8_joins) B.pre
  have hown : s.vm.findClass RX8 = some m.cls := findClass_of_methodNamed B.named
  have hlocks := B.notSynchronized
  have hD := hD0.self (sz := s.heap.size)
  generalize hAe : va_A [(mo, .inr (8, [.int (nI n), .ref m1, .ref m2, .ref m3, .long ka, .long kb, .ref m6, .ref m7, .ref m8, .ref m9, .ref m10, .ref m11, .ref m12, .ref m13, .ref m14, .ref m15, .ref m16])), (m2, .inl (cI, 8, .inl fp)), (m6, .inl (cI, 8, .inl fw)), (m7, .inl (cI, 9, .inl ft))] s.heap.size = A at hD ⊢
  have hA : ∀ q : Nat, s.heap.size ≤ q → A q := fun q h => by rw [← hAe]; exact Or.inr h
  have hS : va_S A s.heap s.heap [] := va_S.rf
  have hiX8 : ∀ w ∈ u_ws RX8 TX8 17, w ∈ wsX8_joins := by decide +kernel
  have hl := lv_entry ([.ref mo, .int (nI i0), .int p2, .int p3, .int p4, .int p5]) (n := 11) (Nat.le_of_ble_eq_true rfl)
  rw [lg_entry_eq]
  generalize (lg_sl ([.ref mo, .int (nI i0), .int p2, .int p3, .int p4, .int p5]) ++ List.replicate (11 - (lg_sl ([.ref mo, .int (nI i0), .int p2, .int p3, .int p4, .int p5])).length) Slot.unset).toArray = ls at hl ⊢
  have hl : lv_has ls 11 [(0, .ref mo), (1, .int (nI i0)), (2, .int p2), (3, .int p3), (4, .int p4), (5, .int p5)] := hl
  refine lv_iconst (v := 1) hx hb dX8_joins_0 (by decide +kernel) ?_
  refine lv_istore (lv' := [(6, .int 1), (0, .ref mo), (1, .int (nI i0)), (2, .int p2), (3, .int p3), (4, .int p4), (5, .int p5)]) hx hb dX8_joins_1 hl (by decide) rfl (fun ls hl => ?_)
  refine lv_aload_n hx hb dX8_joins_3 rfl (lv_at hl 1 rfl) ?_
  refine va_get (D := (dC, dI)) (ci := 8) (v := .ref m6) (C := RX8) (T := TX8) (N := 17) hx hb hts hiX8 hown hK hP 0 rfl rfl 6 (by decide) (hts (.fieldLink RX8 24 "MadeItSoModel" "way" "[I") (by decide +kernel)) (fun _ h9 => h9) rfl dX8_joins_4 ?_
  refine lv_iconst (v := 0) hx hb dX8_joins_7 (by decide +kernel) ?_
  refine lv_iload_n hx hb dX8_joins_8 rfl (lv_at hl 2 rfl) ?_
  refine va_iast hx hb hK hP hD hS 2 0 rfl rfl (mz_in (by decide +kernel)) dX8_joins_9 (fun H locs hP hD hS => ?_)
  have hP : va_P (dC, dI) vwCl [(mo, .inr (8, [.int (nI n), .ref m1, .ref m2, .ref m3, .long ka, .long kb, .ref m6, .ref m7, .ref m8, .ref m9, .ref m10, .ref m11, .ref m12, .ref m13, .ref m14, .ref m15, .ref m16])), (m2, .inl (cI, 8, .inl fp)), (m6, .inl (cI, 8, .inl (upd fw 0 (nI i0)))), (m7, .inl (cI, 9, .inl ft))] H := hP
  have hD : va_D A [(mo, .inr (8, [.int (nI n), .ref m1, .ref m2, .ref m3, .long ka, .long kb, .ref m6, .ref m7, .ref m8, .ref m9, .ref m10, .ref m11, .ref m12, .ref m13, .ref m14, .ref m15, .ref m16])), (m2, .inl (cI, 8, .inl fp)), (m6, .inl (cI, 8, .inl (upd fw 0 (nI i0)))), (m7, .inl (cI, 9, .inl ft))] := hD
  refine lv_aload_n hx hb dX8_joins_10 rfl (lv_at hl 1 rfl) ?_
  refine va_get (D := (dC, dI)) (ci := 8) (v := .ref m7) (C := RX8) (T := TX8) (N := 17) hx hb hts hiX8 hown hK hP 0 rfl rfl 7 (by decide) (hts (.fieldLink RX8 27 "MadeItSoModel" "tried" "[I") (by decide +kernel)) (fun _ h9 => h9) rfl dX8_joins_11 ?_
  refine lv_iconst (v := 0) hx hb dX8_joins_14 (by decide +kernel) ?_
  refine lv_iconst (v := 0) hx hb dX8_joins_15 (by decide +kernel) ?_
  refine va_iast hx hb hK hP hD hS 3 0 rfl rfl (mz_in (by decide +kernel)) dX8_joins_16 (fun H locs hP hD hS => ?_)
  have hP : va_P (dC, dI) vwCl [(mo, .inr (8, [.int (nI n), .ref m1, .ref m2, .ref m3, .long ka, .long kb, .ref m6, .ref m7, .ref m8, .ref m9, .ref m10, .ref m11, .ref m12, .ref m13, .ref m14, .ref m15, .ref m16])), (m2, .inl (cI, 8, .inl fp)), (m6, .inl (cI, 8, .inl (upd fw 0 (nI i0)))), (m7, .inl (cI, 9, .inl (upd ft 0 0)))] H := hP
  have hD : va_D A [(mo, .inr (8, [.int (nI n), .ref m1, .ref m2, .ref m3, .long ka, .long kb, .ref m6, .ref m7, .ref m8, .ref m9, .ref m10, .ref m11, .ref m12, .ref m13, .ref m14, .ref m15, .ref m16])), (m2, .inl (cI, 8, .inl fp)), (m6, .inl (cI, 8, .inl (upd fw 0 (nI i0)))), (m7, .inl (cI, 9, .inl (upd ft 0 0)))] := hD
  refine lv_iconst (v := 1) hx hb dX8_joins_17 (by decide +kernel) ?_
  refine lv_iload_n hx hb dX8_joins_18 rfl (lv_at hl 2 rfl) ?_
  refine lv_ishl hx hb dX8_joins_19 ?_
  refine lv_istore (lv' := [(7, .int (1 <<< ((nI i0) &&& 31))), (6, .int 1), (0, .ref mo), (1, .int (nI i0)), (2, .int p2), (3, .int p3), (4, .int p4), (5, .int p5)]) hx hb dX8_joins_20 hl (by decide) rfl (fun ls hl => ?_)
  refine mz_loopU (fun k H locs ls => ∃ (x7_22 : Int32), ∃ (x6_22 : Int32), ∃ (fm6_22 : Nat → Int32), ∃ (fm7_22 : Nat → Int32), va_P (dC, dI) vwCl [(mo, .inr (8, [.int (nI n), .ref m1, .ref m2, .ref m3, .long ka, .long kb, .ref m6, .ref m7, .ref m8, .ref m9, .ref m10, .ref m11, .ref m12, .ref m13, .ref m14, .ref m15, .ref m16])), (m2, .inl (cI, 8, .inl fp)), (m6, .inl (cI, 8, .inl fm6_22)), (m7, .inl (cI, 9, .inl fm7_22))] H ∧ va_D A [(mo, .inr (8, [.int (nI n), .ref m1, .ref m2, .ref m3, .long ka, .long kb, .ref m6, .ref m7, .ref m8, .ref m9, .ref m10, .ref m11, .ref m12, .ref m13, .ref m14, .ref m15, .ref m16])), (m2, .inl (cI, 8, .inl fp)), (m6, .inl (cI, 8, .inl fm6_22)), (m7, .inl (cI, 9, .inl fm7_22))] ∧ va_S A s.heap H locs ∧ lv_has ls 11 [(7, .int x7_22), (6, .int x6_22), (0, .ref mo), (1, .int (nI i0)), (2, .int p2), (3, .int p3), (4, .int p4), (5, .int p5)] ∧ (∃ (D : Nat) (V T : Nat → Nat), x6_22 = nI D ∧ D ≤ n ∧ mz_dfs n D V T fm6_22 fm7_22 x7_22 ∧ k = mz_ms T n D)) ?_ (mz_ms (fun _ => 0) n 1) _ _ _ ⟨(1 <<< ((nI i0) &&& 31)), 1, (upd fw 0 (nI i0)), (upd ft 0 0), hP, hD, hS, lv_sub hl [0, 1, 2, 3, 4, 5, 6, 7] rfl, ⟨1, fun _ => i0, fun _ => 0, rfl, by omega, mz_dfs_0 hn hi0, rfl⟩⟩
  intro k_22 H locs ls hI_22 ih_22
  obtain ⟨x7_22, x6_22, fm6_22, fm7_22, hP, hD, hS, hl, hk_22⟩ := hI_22
  obtain ⟨D_, V_, T_, eD_, hD_, hF_, hk_⟩ := hk_22
  subst eD_
  refine lv_iload hx hb dX8_joins_22 (lv_at hl 1 rfl) ?_
  refine lv_if_le (tgt := 205) hx hb dX8_joins_24 (by decide) (fun c_24 => ?_) (fun c_24 => ?_)
  · skip
    have d_24 : D_ ≤ 0 := (nI_leI (a := D_) (b := 0) (by omega) (by omega)).mp c_24
    refine lv_iconst (v := 0) hx hb dX8_joins_205 (by decide +kernel) ?_
    have hP9 := hP.sub (ws' := [(mo, .inr (8, [.int (nI n), .ref m1, .ref m2, .ref m3, .long ka, .long kb, .ref m6, .ref m7, .ref m8, .ref m9, .ref m10, .ref m11, .ref m12, .ref m13, .ref m14, .ref m15, .ref m16])), (m2, .inl (cI, 8, .inl fp)), (m6, .inl (cI, 8, .inl fm6_22)), (m7, .inl (cI, 9, .inl fm7_22))]) [0, 1, 2, 3] rfl
    have hD9 := hD.sub (ws' := [(mo, .inr (8, [.int (nI n), .ref m1, .ref m2, .ref m3, .long ka, .long kb, .ref m6, .ref m7, .ref m8, .ref m9, .ref m10, .ref m11, .ref m12, .ref m13, .ref m14, .ref m15, .ref m16])), (m2, .inl (cI, 8, .inl fp)), (m6, .inl (cI, 8, .inl fm6_22)), (m7, .inl (cI, 9, .inl fm7_22))]) [0, 1, 2, 3] (by decide) rfl
    refine W.widen (k := 0) (n := 0) (Nat.le_of_ble_eq_true rfl) (Nat.le_of_ble_eq_true rfl) ?_
    exact W.zret (v := 0) hx hb hr (mz_nz (by decide +kernel)) (fun t ht hW => ⟨⟨0, (), rfl, Or.inl rfl, fm6_22, fm7_22, by rw [ht]; exact hP9, hD9⟩, hS.F ht⟩) hS.2.2 dX8_joins_206
  · skip
    have d_24 : ¬ D_ ≤ 0 := fun h => c_24 ((nI_leI (a := D_) (b := 0) (by omega) (by omega)).mpr h)
    obtain ⟨E_, rfl⟩ : ∃ E : Nat, D_ = E + 1 := ⟨D_ - 1, by omega⟩
    have hT_ := hF_.2.1 E_ (by omega)
    have hT2_ := hT_.2
    have hV_ := hF_.1 E_ (by omega)
    have hV2_ := hV_.2
    refine lv_aload_n hx hb dX8_joins_27 rfl (lv_at hl 2 rfl) ?_
    refine va_get (D := (dC, dI)) (ci := 8) (v := .ref m7) (C := RX8) (T := TX8) (N := 17) hx hb hts hiX8 hown hK hP 0 rfl rfl 7 (by decide) (hts (.fieldLink RX8 27 "MadeItSoModel" "tried" "[I") (by decide +kernel)) (fun _ h9 => h9) rfl dX8_joins_28 ?_
    refine lv_iload hx hb dX8_joins_31 (lv_at hl 1 rfl) ?_
    refine lv_iconst (v := 1) hx hb dX8_joins_33 (by decide +kernel) ?_
    refine lv_isub hx hb dX8_joins_34 ?_
    refine mz_ti (y := (nI E_)) (nI_pred _) ?_
    refine va_iald hx hb hK hP 3 0 rfl rfl (vp_in_nI (by omega) (by omega)) dX8_joins_35 ?_
    refine mz_ti (y := (fm7_22 E_)) (by rw [mz_cl (by omega)]) ?_
    refine mz_ti (y := (nI (T_ E_))) hT_.1 ?_
    refine lv_istore (lv' := [(8, .int (nI (T_ E_))), (7, .int x7_22), (6, .int (nI (E_ + 1))), (0, .ref mo), (1, .int (nI i0)), (2, .int p2), (3, .int p3), (4, .int p4), (5, .int p5)]) hx hb dX8_joins_36 hl (by decide) rfl (fun ls hl => ?_)
    refine lv_aload_n hx hb dX8_joins_38 rfl (lv_at hl 3 rfl) ?_
    refine va_get (D := (dC, dI)) (ci := 8) (v := .ref m7) (C := RX8) (T := TX8) (N := 17) hx hb hts hiX8 hown hK hP 0 rfl rfl 7 (by decide) (hts (.fieldLink RX8 27 "MadeItSoModel" "tried" "[I") (by decide +kernel)) (fun _ h9 => h9) rfl dX8_joins_39 ?_
    refine lv_iload hx hb dX8_joins_42 (lv_at hl 2 rfl) ?_
    refine lv_iconst (v := 1) hx hb dX8_joins_44 (by decide +kernel) ?_
    refine lv_isub hx hb dX8_joins_45 ?_
    refine mz_ti (y := (nI E_)) (nI_pred _) ?_
    refine lv_dup2_11 hx hb dX8_joins_46 rfl rfl ?_
    refine va_iald hx hb hK hP 3 0 rfl rfl (vp_in_nI (by omega) (by omega)) dX8_joins_47 ?_
    refine mz_ti (y := (fm7_22 E_)) (by rw [mz_cl (by omega)]) ?_
    refine lv_iconst (v := 1) hx hb dX8_joins_48 (by decide +kernel) ?_
    refine lv_iadd hx hb dX8_joins_49 ?_
    refine va_iast hx hb hK hP hD hS 3 0 rfl rfl (vp_in_nI (by omega) (by omega)) dX8_joins_50 (fun H locs hP hD hS => ?_)
    rw [mz_cl (n := E_) (by omega)] at hP hD
    have hP : va_P (dC, dI) vwCl [(mo, .inr (8, [.int (nI n), .ref m1, .ref m2, .ref m3, .long ka, .long kb, .ref m6, .ref m7, .ref m8, .ref m9, .ref m10, .ref m11, .ref m12, .ref m13, .ref m14, .ref m15, .ref m16])), (m2, .inl (cI, 8, .inl fp)), (m6, .inl (cI, 8, .inl fm6_22)), (m7, .inl (cI, 9, .inl (upd fm7_22 E_ ((fm7_22 E_) + 1))))] H := hP
    have hD : va_D A [(mo, .inr (8, [.int (nI n), .ref m1, .ref m2, .ref m3, .long ka, .long kb, .ref m6, .ref m7, .ref m8, .ref m9, .ref m10, .ref m11, .ref m12, .ref m13, .ref m14, .ref m15, .ref m16])), (m2, .inl (cI, 8, .inl fp)), (m6, .inl (cI, 8, .inl fm6_22)), (m7, .inl (cI, 9, .inl (upd fm7_22 E_ ((fm7_22 E_) + 1))))] := hD
    refine lv_iload hx hb dX8_joins_51 (lv_at hl 0 rfl) ?_
    refine lv_aload_n hx hb dX8_joins_53 rfl (lv_at hl 3 rfl) ?_
    refine va_get (D := (dC, dI)) (ci := 8) (v := .int (nI n)) (C := RX8) (T := TX8) (N := 17) hx hb hts hiX8 hown hK hP 0 rfl rfl 0 (by decide) (hts (.fieldLink RX8 58 "MadeItSoModel" "many" "I") (by decide +kernel)) (fun _ h9 => h9) rfl dX8_joins_54 ?_
    refine lv_icmp_ne (tgt := 82) hx hb dX8_joins_57 (by decide) (fun c_57 => ?_) (fun c_57 => ?_)
    · skip
      have d_57 : ¬ T_ E_ = n := fun h => c_57 ((nI_eq (a := T_ E_) (b := n) (by omega) (by omega)).mpr h)
      refine lv_aload_n hx hb dX8_joins_82 rfl (lv_at hl 3 rfl) ?_
      refine va_get (D := (dC, dI)) (ci := 8) (v := .ref m6) (C := RX8) (T := TX8) (N := 17) hx hb hts hiX8 hown hK hP 0 rfl rfl 6 (by decide) (hts (.fieldLink RX8 24 "MadeItSoModel" "way" "[I") (by decide +kernel)) (fun _ h9 => h9) rfl dX8_joins_83 ?_
      refine lv_iload hx hb dX8_joins_86 (lv_at hl 2 rfl) ?_
      refine lv_iconst (v := 1) hx hb dX8_joins_88 (by decide +kernel) ?_
      refine lv_isub hx hb dX8_joins_89 ?_
      refine mz_ti (y := (nI E_)) (nI_pred _) ?_
      refine va_iald hx hb hK hP 2 0 rfl rfl (vp_in_nI (by omega) (by omega)) dX8_joins_90 ?_
      refine mz_ti (y := (fm6_22 E_)) (by rw [mz_cl (by omega)]) ?_
      refine mz_ti (y := (nI (V_ E_))) hV_.1 ?_
      refine lv_istore (lv' := [(9, .int (nI (V_ E_))), (8, .int (nI (T_ E_))), (7, .int x7_22), (6, .int (nI (E_ + 1))), (0, .ref mo), (1, .int (nI i0)), (2, .int p2), (3, .int p3), (4, .int p4), (5, .int p5)]) hx hb dX8_joins_91 hl (by decide) rfl (fun ls hl => ?_)
      refine lv_aload_n hx hb dX8_joins_93 rfl (lv_at hl 4 rfl) ?_
      refine lv_iload hx hb dX8_joins_94 (lv_at hl 0 rfl) ?_
      refine lv_iload hx hb dX8_joins_96 (lv_at hl 1 rfl) ?_
      refine lv_iload hx hb dX8_joins_98 (lv_at hl 8 rfl) ?_
      refine lv_iload hx hb dX8_joins_100 (lv_at hl 9 rfl) ?_
      have hPc := hP.sub (ws' := [(mo, .inr (8, [.int (nI n), .ref m1, .ref m2, .ref m3, .long ka, .long kb, .ref m6, .ref m7, .ref m8, .ref m9, .ref m10, .ref m11, .ref m12, .ref m13, .ref m14, .ref m15, .ref m16])), (m2, .inl (cI, 8, .inl fp))]) [0, 1] rfl
      refine va_calli (va_runV (As := [.int (nI (V_ E_)), .int (nI (T_ E_)), .int p4, .int p5]) (rest := []) ⟨hx, hb, hml, hown, hts⟩ (mz_m_isArrow l dC dI cI cJ cZ mo m1 m2 m3 m6 m7 m8 m9 m10 m11 m12 m13 m14 m15 m16 n ka kb fp (T_ E_) (nI (V_ E_)) p4 p5 H (by first | assumption | omega)) (cwV 4 hts gX8_joins_X8_isArrow rfl rfl rfl (by decide +kernel) ⟨Nat.le_of_ble_eq_true rfl, Nat.le_of_ble_eq_true rfl⟩) ⟨fun a U g mk q => mz_blP q, va_recv hK hPc (ci := 8) (q0 := 0) rfl rfl, fun U hU hW => ⟨rfl, hU, hPc, va_K.moved hW.alike hK, mz_nw hW hN⟩⟩ rfl rfl hl.1 rfl (lv_room (Nat.le_of_ble_eq_true rfl)) dX8_joins_102 ⟨Nat.le_of_ble_eq_true rfl, Nat.le_of_ble_eq_true rfl⟩) hS (fun q _ h => h.elim) (fun q h => h.elim) (fun r_102 u t H1 locs ht hvm hw_102 hB hz1 hk1 hS => ?_)
      have hE : H = H1 := hB.symm.trans ht
      subst hE
      refine lv_if_ne (tgt := 123) hx hb dX8_joins_105 (by decide) (fun c_105 => ?_) (fun c_105 => ?_)
      · skip
        refine lv_iconst (v := 1) hx hb dX8_joins_123 (by decide +kernel) ?_
        refine lv_goto (tgt := 128) hx hb dX8_joins_124 (by decide) ?_
        refine lv_istore (lv' := [(10, .int 1), (9, .int (nI (V_ E_))), (8, .int (nI (T_ E_))), (7, .int x7_22), (6, .int (nI (E_ + 1))), (0, .ref mo), (1, .int (nI i0)), (2, .int p2), (3, .int p3), (4, .int p4), (5, .int p5)]) hx hb dX8_joins_128 hl (by decide) rfl (fun ls hl => ?_)
        refine lv_iload hx hb dX8_joins_130 (lv_at hl 0 rfl) ?_
        refine lv_if_eq (tgt := 22) hx hb dX8_joins_132 (by decide) (fun c_132 => absurd c_132 (by decide +kernel)) (fun _ => ?_)
        refine lv_iload hx hb dX8_joins_135 (lv_at hl 3 rfl) ?_
        refine lv_iload hx hb dX8_joins_137 (lv_at hl 2 rfl) ?_
        refine lv_ishr hx hb dX8_joins_139 ?_
        refine lv_iconst (v := 1) hx hb dX8_joins_140 (by decide +kernel) ?_
        refine lv_iand hx hb dX8_joins_141 ?_
        refine lv_iconst (v := 1) hx hb dX8_joins_142 (by decide +kernel) ?_
        refine lv_icmp_ne (tgt := 149) hx hb dX8_joins_143 (by decide) (fun c_143 => ?_) (fun c_143 => ?_)
        · skip
          have hb_ := mz_nb (by omega) c_143
          have hr_ := mz_dfs_room hF_ (by omega) hb_
          refine lv_aload_n hx hb dX8_joins_149 rfl (lv_at hl 5 rfl) ?_
          refine va_get (D := (dC, dI)) (ci := 8) (v := .ref m6) (C := RX8) (T := TX8) (N := 17) hx hb hts hiX8 hown hK hP 0 rfl rfl 6 (by decide) (hts (.fieldLink RX8 24 "MadeItSoModel" "way" "[I") (by decide +kernel)) (fun _ h9 => h9) rfl dX8_joins_150 ?_
          refine lv_iload hx hb dX8_joins_153 (lv_at hl 4 rfl) ?_
          refine lv_iload hx hb dX8_joins_155 (lv_at hl 2 rfl) ?_
          refine va_iast hx hb hK hP hD hS 2 0 rfl rfl (vp_in_nI (by omega) (by omega)) dX8_joins_157 (fun H locs hP hD hS => ?_)
          rw [mz_cl (n := E_ + 1) (by omega)] at hP hD
          have hP : va_P (dC, dI) vwCl [(mo, .inr (8, [.int (nI n), .ref m1, .ref m2, .ref m3, .long ka, .long kb, .ref m6, .ref m7, .ref m8, .ref m9, .ref m10, .ref m11, .ref m12, .ref m13, .ref m14, .ref m15, .ref m16])), (m2, .inl (cI, 8, .inl fp)), (m6, .inl (cI, 8, .inl (upd fm6_22 (E_ + 1) (nI (T_ E_))))), (m7, .inl (cI, 9, .inl (upd fm7_22 E_ ((fm7_22 E_) + 1))))] H := hP
          have hD : va_D A [(mo, .inr (8, [.int (nI n), .ref m1, .ref m2, .ref m3, .long ka, .long kb, .ref m6, .ref m7, .ref m8, .ref m9, .ref m10, .ref m11, .ref m12, .ref m13, .ref m14, .ref m15, .ref m16])), (m2, .inl (cI, 8, .inl fp)), (m6, .inl (cI, 8, .inl (upd fm6_22 (E_ + 1) (nI (T_ E_))))), (m7, .inl (cI, 9, .inl (upd fm7_22 E_ ((fm7_22 E_) + 1))))] := hD
          refine lv_iload hx hb dX8_joins_158 (lv_at hl 2 rfl) ?_
          refine lv_iload_n hx hb dX8_joins_160 rfl (lv_at hl 7 rfl) ?_
          refine lv_icmp_ne (tgt := 182) hx hb dX8_joins_161 (by decide) (fun c_161 => ?_) (fun c_161 => ?_)
          · skip
            refine lv_aload_n hx hb dX8_joins_182 rfl (lv_at hl 5 rfl) ?_
            refine va_get (D := (dC, dI)) (ci := 8) (v := .ref m7) (C := RX8) (T := TX8) (N := 17) hx hb hts hiX8 hown hK hP 0 rfl rfl 7 (by decide) (hts (.fieldLink RX8 27 "MadeItSoModel" "tried" "[I") (by decide +kernel)) (fun _ h9 => h9) rfl dX8_joins_183 ?_
            refine lv_iload hx hb dX8_joins_186 (lv_at hl 4 rfl) ?_
            refine lv_iconst (v := 0) hx hb dX8_joins_188 (by decide +kernel) ?_
            refine va_iast hx hb hK hP hD hS 3 0 rfl rfl (vp_in_nI (by omega) (by omega)) dX8_joins_189 (fun H locs hP hD hS => ?_)
            rw [mz_cl (n := E_ + 1) (by omega)] at hP hD
            have hP : va_P (dC, dI) vwCl [(mo, .inr (8, [.int (nI n), .ref m1, .ref m2, .ref m3, .long ka, .long kb, .ref m6, .ref m7, .ref m8, .ref m9, .ref m10, .ref m11, .ref m12, .ref m13, .ref m14, .ref m15, .ref m16])), (m2, .inl (cI, 8, .inl fp)), (m6, .inl (cI, 8, .inl (upd fm6_22 (E_ + 1) (nI (T_ E_))))), (m7, .inl (cI, 9, .inl (upd (upd fm7_22 E_ ((fm7_22 E_) + 1)) (E_ + 1) 0)))] H := hP
            have hD : va_D A [(mo, .inr (8, [.int (nI n), .ref m1, .ref m2, .ref m3, .long ka, .long kb, .ref m6, .ref m7, .ref m8, .ref m9, .ref m10, .ref m11, .ref m12, .ref m13, .ref m14, .ref m15, .ref m16])), (m2, .inl (cI, 8, .inl fp)), (m6, .inl (cI, 8, .inl (upd fm6_22 (E_ + 1) (nI (T_ E_))))), (m7, .inl (cI, 9, .inl (upd (upd fm7_22 E_ ((fm7_22 E_) + 1)) (E_ + 1) 0)))] := hD
            refine lv_iload hx hb dX8_joins_190 (lv_at hl 3 rfl) ?_
            refine lv_iconst (v := 1) hx hb dX8_joins_192 (by decide +kernel) ?_
            refine lv_iload hx hb dX8_joins_193 (lv_at hl 2 rfl) ?_
            refine lv_ishl hx hb dX8_joins_195 ?_
            refine lv_ior hx hb dX8_joins_196 ?_
            refine lv_istore (lv' := [(7, .int (x7_22 ||| (1 <<< ((nI (T_ E_)) &&& 31)))), (10, .int 1), (9, .int (nI (V_ E_))), (8, .int (nI (T_ E_))), (6, .int (nI (E_ + 1))), (0, .ref mo), (1, .int (nI i0)), (2, .int p2), (3, .int p3), (4, .int p4), (5, .int p5)]) hx hb dX8_joins_197 hl (by decide) rfl (fun ls hl => ?_)
            refine lv_iinc (v := (nI (E_ + 1 + 1))) (lv' := [(6, .int (nI (E_ + 1 + 1))), (7, .int (x7_22 ||| (1 <<< ((nI (T_ E_)) &&& 31)))), (10, .int 1), (9, .int (nI (V_ E_))), (8, .int (nI (T_ E_))), (0, .ref mo), (1, .int (nI i0)), (2, .int p2), (3, .int p3), (4, .int p4), (5, .int p5)]) hx hb dX8_joins_199 hl (k := 4) rfl (nI_1 _) (by decide) rfl (fun ls hl => ?_)
            refine lv_goto (tgt := 22) hx hb dX8_joins_202 (by decide) ?_
            exact ih_22 (mz_ms (mz_up (mz_up T_ E_ (T_ E_ + 1)) (E_ + 1) 0) n (E_ + 2)) (by rw [hk_]; exact mz_ms_push hT_.2 hn (by omega)) _ _ _ ⟨(x7_22 ||| (1 <<< ((nI (T_ E_)) &&& 31))), (nI (E_ + 1 + 1)), (upd fm6_22 (E_ + 1) (nI (T_ E_))), (upd (upd fm7_22 E_ ((fm7_22 E_) + 1)) (E_ + 1) 0), hP, hD, hS, lv_sub hl [1, 0, 5, 6, 7, 8, 9, 10] rfl, ⟨E_ + 2, mz_up V_ (E_ + 1) (T_ E_), mz_up (mz_up T_ E_ (T_ E_ + 1)) (E_ + 1) 0, rfl, by omega, mz_dfs_push hn (mz_dfs_stay hF_ (by rw [hT_.1]; exact nI_1 _) (by omega)) (by omega) hb_, rfl⟩⟩
          · skip
            refine lv_aload_n hx hb dX8_joins_164 rfl (lv_at hl 5 rfl) ?_
            refine lv_iload hx hb dX8_joins_165 (lv_at hl 4 rfl) ?_
            refine lv_iconst (v := 1) hx hb dX8_joins_167 (by decide +kernel) ?_
            refine lv_iadd hx hb dX8_joins_168 ?_
            refine mz_ti (y := (nI (E_ + 1 + 1))) (nI_add _ _) ?_
            refine lv_iload_n hx hb dX8_joins_169 rfl (lv_at hl 8 rfl) ?_
            refine lv_iload hx hb dX8_joins_170 (lv_at hl 9 rfl) ?_
            refine lv_iload hx hb dX8_joins_172 (lv_at hl 10 rfl) ?_
            have hPc := hP.sub (ws' := [(mo, .inr (8, [.int (nI n), .ref m1, .ref m2, .ref m3, .long ka, .long kb, .ref m6, .ref m7, .ref m8, .ref m9, .ref m10, .ref m11, .ref m12, .ref m13, .ref m14, .ref m15, .ref m16])), (m2, .inl (cI, 8, .inl fp)), (m6, .inl (cI, 8, .inl (upd fm6_22 (E_ + 1) (nI (T_ E_)))))]) [0, 1, 2] rfl
            refine va_calli (va_runV (As := [.int (nI (E_ + 1 + 1)), .int p3, .int p4, .int p5]) (rest := []) ⟨hx, hb, hml, hown, hts⟩ (mz_m_isOpen l dC dI cI cJ cZ mo m1 m2 m3 m6 m7 m8 m9 m10 m11 m12 m13 m14 m15 m16 n ka kb fp (upd fm6_22 (E_ + 1) (nI (T_ E_))) (E_ + 1 + 1) p3 p4 p5 H (by first | assumption | omega) (by first | assumption | omega) (mz_dfs_w hn hF_ (by omega))) (cwV 4 hts gX8_joins_X8_isOpen rfl rfl rfl (by decide +kernel) ⟨Nat.le_of_ble_eq_true rfl, Nat.le_of_ble_eq_true rfl⟩) ⟨fun a U g mk q => mz_blP q, va_recv hK hPc (ci := 8) (q0 := 0) rfl rfl, fun U hU hW => ⟨rfl, hU, hPc, va_K.moved hW.alike hK, mz_nw hW hN⟩⟩ rfl rfl hl.1 rfl (lv_room (Nat.le_of_ble_eq_true rfl)) dX8_joins_174 ⟨Nat.le_of_ble_eq_true rfl, Nat.le_of_ble_eq_true rfl⟩) hS (fun q _ h => h.elim) (fun q h => h.elim) (fun r_174 u t H1 locs ht hvm hw_174 hB hz1 hk1 hS => ?_)
            have hE : H = H1 := hB.symm.trans ht
            subst hE
            refine lv_if_eq (tgt := 22) hx hb dX8_joins_177 (by decide) (fun c_177 => ?_) (fun c_177 => ?_)
            · skip
              exact ih_22 (mz_ms (mz_up T_ E_ (T_ E_ + 1)) n (E_ + 1)) (by rw [hk_]; exact mz_ms_stay hT_.2) _ _ _ ⟨x7_22, (nI (E_ + 1)), (upd fm6_22 (E_ + 1) (nI (T_ E_))), (upd fm7_22 E_ ((fm7_22 E_) + 1)), hP, hD, hS, lv_sub hl [3, 4, 5, 6, 7, 8, 9, 10] rfl, ⟨E_ + 1, V_, mz_up T_ E_ (T_ E_ + 1), rfl, hD_, (mz_dfs_way (mz_dfs_stay hF_ (by rw [hT_.1]; exact nI_1 _) (by omega))), rfl⟩⟩
            · skip
              refine lv_iconst (v := 1) hx hb dX8_joins_180 (by decide +kernel) ?_
              have hP9 := hP.sub (ws' := [(mo, .inr (8, [.int (nI n), .ref m1, .ref m2, .ref m3, .long ka, .long kb, .ref m6, .ref m7, .ref m8, .ref m9, .ref m10, .ref m11, .ref m12, .ref m13, .ref m14, .ref m15, .ref m16])), (m2, .inl (cI, 8, .inl fp)), (m6, .inl (cI, 8, .inl (upd fm6_22 (E_ + 1) (nI (T_ E_))))), (m7, .inl (cI, 9, .inl (upd fm7_22 E_ ((fm7_22 E_) + 1))))]) [0, 1, 2, 3] rfl
              have hD9 := hD.sub (ws' := [(mo, .inr (8, [.int (nI n), .ref m1, .ref m2, .ref m3, .long ka, .long kb, .ref m6, .ref m7, .ref m8, .ref m9, .ref m10, .ref m11, .ref m12, .ref m13, .ref m14, .ref m15, .ref m16])), (m2, .inl (cI, 8, .inl fp)), (m6, .inl (cI, 8, .inl (upd fm6_22 (E_ + 1) (nI (T_ E_))))), (m7, .inl (cI, 9, .inl (upd fm7_22 E_ ((fm7_22 E_) + 1))))]) [0, 1, 2, 3] (by decide) rfl
              refine W.widen (k := 0) (n := 0) (Nat.le_of_ble_eq_true rfl) (Nat.le_of_ble_eq_true rfl) ?_
              exact W.zret (v := 1) hx hb hr (mz_nz (by decide +kernel)) (fun t ht hW => ⟨⟨1, (), rfl, Or.inr rfl, (upd fm6_22 (E_ + 1) (nI (T_ E_))), (upd fm7_22 E_ ((fm7_22 E_) + 1)), by rw [ht]; exact hP9, hD9⟩, hS.F ht⟩) hS.2.2 dX8_joins_181
        · skip
          refine lv_goto (tgt := 22) hx hb dX8_joins_146 (by decide) ?_
          exact ih_22 (mz_ms (mz_up T_ E_ (T_ E_ + 1)) n (E_ + 1)) (by rw [hk_]; exact mz_ms_stay hT_.2) _ _ _ ⟨x7_22, (nI (E_ + 1)), fm6_22, (upd fm7_22 E_ ((fm7_22 E_) + 1)), hP, hD, hS, lv_sub hl [3, 4, 5, 6, 7, 8, 9, 10] rfl, ⟨E_ + 1, V_, mz_up T_ E_ (T_ E_ + 1), rfl, hD_, (mz_dfs_stay hF_ (by rw [hT_.1]; exact nI_1 _) (by omega)), rfl⟩⟩
      · skip
        refine lv_aload_n hx hb dX8_joins_108 rfl (lv_at hl 4 rfl) ?_
        refine lv_iload hx hb dX8_joins_109 (lv_at hl 1 rfl) ?_
        refine lv_iload hx hb dX8_joins_111 (lv_at hl 0 rfl) ?_
        refine lv_iload hx hb dX8_joins_113 (lv_at hl 8 rfl) ?_
        refine lv_iload hx hb dX8_joins_115 (lv_at hl 9 rfl) ?_
        have hPc := hP.sub (ws' := [(mo, .inr (8, [.int (nI n), .ref m1, .ref m2, .ref m3, .long ka, .long kb, .ref m6, .ref m7, .ref m8, .ref m9, .ref m10, .ref m11, .ref m12, .ref m13, .ref m14, .ref m15, .ref m16])), (m2, .inl (cI, 8, .inl fp))]) [0, 1] rfl
        refine va_calli (va_runV (As := [.int (nI (T_ E_)), .int (nI (V_ E_)), .int p4, .int p5]) (rest := []) ⟨hx, hb, hml, hown, hts⟩ (mz_m_isArrow l dC dI cI cJ cZ mo m1 m2 m3 m6 m7 m8 m9 m10 m11 m12 m13 m14 m15 m16 n ka kb fp (V_ E_) (nI (T_ E_)) p4 p5 H (by first | assumption | omega)) (cwV 4 hts gX8_joins_X8_isArrow rfl rfl rfl (by decide +kernel) ⟨Nat.le_of_ble_eq_true rfl, Nat.le_of_ble_eq_true rfl⟩) ⟨fun a U g mk q => mz_blP q, va_recv hK hPc (ci := 8) (q0 := 0) rfl rfl, fun U hU hW => ⟨rfl, hU, hPc, va_K.moved hW.alike hK, mz_nw hW hN⟩⟩ rfl rfl hl.1 rfl (lv_room (Nat.le_of_ble_eq_true rfl)) dX8_joins_117 ⟨Nat.le_of_ble_eq_true rfl, Nat.le_of_ble_eq_true rfl⟩) hS (fun q _ h => h.elim) (fun q h => h.elim) (fun r_117 u t H1 locs ht hvm hw_117 hB hz1 hk1 hS => ?_)
        have hE : H = H1 := hB.symm.trans ht
        subst hE
        refine lv_if_eq (tgt := 127) hx hb dX8_joins_120 (by decide) (fun c_120 => ?_) (fun c_120 => ?_)
        · skip
          refine lv_iconst (v := 0) hx hb dX8_joins_127 (by decide +kernel) ?_
          refine lv_istore (lv' := [(10, .int 0), (9, .int (nI (V_ E_))), (8, .int (nI (T_ E_))), (7, .int x7_22), (6, .int (nI (E_ + 1))), (0, .ref mo), (1, .int (nI i0)), (2, .int p2), (3, .int p3), (4, .int p4), (5, .int p5)]) hx hb dX8_joins_128 hl (by decide) rfl (fun ls hl => ?_)
          refine lv_iload hx hb dX8_joins_130 (lv_at hl 0 rfl) ?_
          refine lv_if_eq (tgt := 22) hx hb dX8_joins_132 (by decide) (fun _ => ?_) (fun c_132 => absurd (by decide +kernel) c_132)
          exact ih_22 (mz_ms (mz_up T_ E_ (T_ E_ + 1)) n (E_ + 1)) (by rw [hk_]; exact mz_ms_stay hT_.2) _ _ _ ⟨x7_22, (nI (E_ + 1)), fm6_22, (upd fm7_22 E_ ((fm7_22 E_) + 1)), hP, hD, hS, lv_sub hl [3, 4, 5, 6, 7, 8, 9, 10] rfl, ⟨E_ + 1, V_, mz_up T_ E_ (T_ E_ + 1), rfl, hD_, (mz_dfs_stay hF_ (by rw [hT_.1]; exact nI_1 _) (by omega)), rfl⟩⟩
        · skip
          refine lv_iconst (v := 1) hx hb dX8_joins_123 (by decide +kernel) ?_
          refine lv_goto (tgt := 128) hx hb dX8_joins_124 (by decide) ?_
          refine lv_istore (lv' := [(10, .int 1), (9, .int (nI (V_ E_))), (8, .int (nI (T_ E_))), (7, .int x7_22), (6, .int (nI (E_ + 1))), (0, .ref mo), (1, .int (nI i0)), (2, .int p2), (3, .int p3), (4, .int p4), (5, .int p5)]) hx hb dX8_joins_128 hl (by decide) rfl (fun ls hl => ?_)
          refine lv_iload hx hb dX8_joins_130 (lv_at hl 0 rfl) ?_
          refine lv_if_eq (tgt := 22) hx hb dX8_joins_132 (by decide) (fun c_132 => absurd c_132 (by decide +kernel)) (fun _ => ?_)
          refine lv_iload hx hb dX8_joins_135 (lv_at hl 3 rfl) ?_
          refine lv_iload hx hb dX8_joins_137 (lv_at hl 2 rfl) ?_
          refine lv_ishr hx hb dX8_joins_139 ?_
          refine lv_iconst (v := 1) hx hb dX8_joins_140 (by decide +kernel) ?_
          refine lv_iand hx hb dX8_joins_141 ?_
          refine lv_iconst (v := 1) hx hb dX8_joins_142 (by decide +kernel) ?_
          refine lv_icmp_ne (tgt := 149) hx hb dX8_joins_143 (by decide) (fun c_143 => ?_) (fun c_143 => ?_)
          · skip
            have hb_ := mz_nb (by omega) c_143
            have hr_ := mz_dfs_room hF_ (by omega) hb_
            refine lv_aload_n hx hb dX8_joins_149 rfl (lv_at hl 5 rfl) ?_
            refine va_get (D := (dC, dI)) (ci := 8) (v := .ref m6) (C := RX8) (T := TX8) (N := 17) hx hb hts hiX8 hown hK hP 0 rfl rfl 6 (by decide) (hts (.fieldLink RX8 24 "MadeItSoModel" "way" "[I") (by decide +kernel)) (fun _ h9 => h9) rfl dX8_joins_150 ?_
            refine lv_iload hx hb dX8_joins_153 (lv_at hl 4 rfl) ?_
            refine lv_iload hx hb dX8_joins_155 (lv_at hl 2 rfl) ?_
            refine va_iast hx hb hK hP hD hS 2 0 rfl rfl (vp_in_nI (by omega) (by omega)) dX8_joins_157 (fun H locs hP hD hS => ?_)
            rw [mz_cl (n := E_ + 1) (by omega)] at hP hD
            have hP : va_P (dC, dI) vwCl [(mo, .inr (8, [.int (nI n), .ref m1, .ref m2, .ref m3, .long ka, .long kb, .ref m6, .ref m7, .ref m8, .ref m9, .ref m10, .ref m11, .ref m12, .ref m13, .ref m14, .ref m15, .ref m16])), (m2, .inl (cI, 8, .inl fp)), (m6, .inl (cI, 8, .inl (upd fm6_22 (E_ + 1) (nI (T_ E_))))), (m7, .inl (cI, 9, .inl (upd fm7_22 E_ ((fm7_22 E_) + 1))))] H := hP
            have hD : va_D A [(mo, .inr (8, [.int (nI n), .ref m1, .ref m2, .ref m3, .long ka, .long kb, .ref m6, .ref m7, .ref m8, .ref m9, .ref m10, .ref m11, .ref m12, .ref m13, .ref m14, .ref m15, .ref m16])), (m2, .inl (cI, 8, .inl fp)), (m6, .inl (cI, 8, .inl (upd fm6_22 (E_ + 1) (nI (T_ E_))))), (m7, .inl (cI, 9, .inl (upd fm7_22 E_ ((fm7_22 E_) + 1))))] := hD
            refine lv_iload hx hb dX8_joins_158 (lv_at hl 2 rfl) ?_
            refine lv_iload_n hx hb dX8_joins_160 rfl (lv_at hl 7 rfl) ?_
            refine lv_icmp_ne (tgt := 182) hx hb dX8_joins_161 (by decide) (fun c_161 => ?_) (fun c_161 => ?_)
            · skip
              refine lv_aload_n hx hb dX8_joins_182 rfl (lv_at hl 5 rfl) ?_
              refine va_get (D := (dC, dI)) (ci := 8) (v := .ref m7) (C := RX8) (T := TX8) (N := 17) hx hb hts hiX8 hown hK hP 0 rfl rfl 7 (by decide) (hts (.fieldLink RX8 27 "MadeItSoModel" "tried" "[I") (by decide +kernel)) (fun _ h9 => h9) rfl dX8_joins_183 ?_
              refine lv_iload hx hb dX8_joins_186 (lv_at hl 4 rfl) ?_
              refine lv_iconst (v := 0) hx hb dX8_joins_188 (by decide +kernel) ?_
              refine va_iast hx hb hK hP hD hS 3 0 rfl rfl (vp_in_nI (by omega) (by omega)) dX8_joins_189 (fun H locs hP hD hS => ?_)
              rw [mz_cl (n := E_ + 1) (by omega)] at hP hD
              have hP : va_P (dC, dI) vwCl [(mo, .inr (8, [.int (nI n), .ref m1, .ref m2, .ref m3, .long ka, .long kb, .ref m6, .ref m7, .ref m8, .ref m9, .ref m10, .ref m11, .ref m12, .ref m13, .ref m14, .ref m15, .ref m16])), (m2, .inl (cI, 8, .inl fp)), (m6, .inl (cI, 8, .inl (upd fm6_22 (E_ + 1) (nI (T_ E_))))), (m7, .inl (cI, 9, .inl (upd (upd fm7_22 E_ ((fm7_22 E_) + 1)) (E_ + 1) 0)))] H := hP
              have hD : va_D A [(mo, .inr (8, [.int (nI n), .ref m1, .ref m2, .ref m3, .long ka, .long kb, .ref m6, .ref m7, .ref m8, .ref m9, .ref m10, .ref m11, .ref m12, .ref m13, .ref m14, .ref m15, .ref m16])), (m2, .inl (cI, 8, .inl fp)), (m6, .inl (cI, 8, .inl (upd fm6_22 (E_ + 1) (nI (T_ E_))))), (m7, .inl (cI, 9, .inl (upd (upd fm7_22 E_ ((fm7_22 E_) + 1)) (E_ + 1) 0)))] := hD
              refine lv_iload hx hb dX8_joins_190 (lv_at hl 3 rfl) ?_
              refine lv_iconst (v := 1) hx hb dX8_joins_192 (by decide +kernel) ?_
              refine lv_iload hx hb dX8_joins_193 (lv_at hl 2 rfl) ?_
              refine lv_ishl hx hb dX8_joins_195 ?_
              refine lv_ior hx hb dX8_joins_196 ?_
              refine lv_istore (lv' := [(7, .int (x7_22 ||| (1 <<< ((nI (T_ E_)) &&& 31)))), (10, .int 1), (9, .int (nI (V_ E_))), (8, .int (nI (T_ E_))), (6, .int (nI (E_ + 1))), (0, .ref mo), (1, .int (nI i0)), (2, .int p2), (3, .int p3), (4, .int p4), (5, .int p5)]) hx hb dX8_joins_197 hl (by decide) rfl (fun ls hl => ?_)
              refine lv_iinc (v := (nI (E_ + 1 + 1))) (lv' := [(6, .int (nI (E_ + 1 + 1))), (7, .int (x7_22 ||| (1 <<< ((nI (T_ E_)) &&& 31)))), (10, .int 1), (9, .int (nI (V_ E_))), (8, .int (nI (T_ E_))), (0, .ref mo), (1, .int (nI i0)), (2, .int p2), (3, .int p3), (4, .int p4), (5, .int p5)]) hx hb dX8_joins_199 hl (k := 4) rfl (nI_1 _) (by decide) rfl (fun ls hl => ?_)
              refine lv_goto (tgt := 22) hx hb dX8_joins_202 (by decide) ?_
              exact ih_22 (mz_ms (mz_up (mz_up T_ E_ (T_ E_ + 1)) (E_ + 1) 0) n (E_ + 2)) (by rw [hk_]; exact mz_ms_push hT_.2 hn (by omega)) _ _ _ ⟨(x7_22 ||| (1 <<< ((nI (T_ E_)) &&& 31))), (nI (E_ + 1 + 1)), (upd fm6_22 (E_ + 1) (nI (T_ E_))), (upd (upd fm7_22 E_ ((fm7_22 E_) + 1)) (E_ + 1) 0), hP, hD, hS, lv_sub hl [1, 0, 5, 6, 7, 8, 9, 10] rfl, ⟨E_ + 2, mz_up V_ (E_ + 1) (T_ E_), mz_up (mz_up T_ E_ (T_ E_ + 1)) (E_ + 1) 0, rfl, by omega, mz_dfs_push hn (mz_dfs_stay hF_ (by rw [hT_.1]; exact nI_1 _) (by omega)) (by omega) hb_, rfl⟩⟩
            · skip
              refine lv_aload_n hx hb dX8_joins_164 rfl (lv_at hl 5 rfl) ?_
              refine lv_iload hx hb dX8_joins_165 (lv_at hl 4 rfl) ?_
              refine lv_iconst (v := 1) hx hb dX8_joins_167 (by decide +kernel) ?_
              refine lv_iadd hx hb dX8_joins_168 ?_
              refine mz_ti (y := (nI (E_ + 1 + 1))) (nI_add _ _) ?_
              refine lv_iload_n hx hb dX8_joins_169 rfl (lv_at hl 8 rfl) ?_
              refine lv_iload hx hb dX8_joins_170 (lv_at hl 9 rfl) ?_
              refine lv_iload hx hb dX8_joins_172 (lv_at hl 10 rfl) ?_
              have hPc := hP.sub (ws' := [(mo, .inr (8, [.int (nI n), .ref m1, .ref m2, .ref m3, .long ka, .long kb, .ref m6, .ref m7, .ref m8, .ref m9, .ref m10, .ref m11, .ref m12, .ref m13, .ref m14, .ref m15, .ref m16])), (m2, .inl (cI, 8, .inl fp)), (m6, .inl (cI, 8, .inl (upd fm6_22 (E_ + 1) (nI (T_ E_)))))]) [0, 1, 2] rfl
              refine va_calli (va_runV (As := [.int (nI (E_ + 1 + 1)), .int p3, .int p4, .int p5]) (rest := []) ⟨hx, hb, hml, hown, hts⟩ (mz_m_isOpen l dC dI cI cJ cZ mo m1 m2 m3 m6 m7 m8 m9 m10 m11 m12 m13 m14 m15 m16 n ka kb fp (upd fm6_22 (E_ + 1) (nI (T_ E_))) (E_ + 1 + 1) p3 p4 p5 H (by first | assumption | omega) (by first | assumption | omega) (mz_dfs_w hn hF_ (by omega))) (cwV 4 hts gX8_joins_X8_isOpen rfl rfl rfl (by decide +kernel) ⟨Nat.le_of_ble_eq_true rfl, Nat.le_of_ble_eq_true rfl⟩) ⟨fun a U g mk q => mz_blP q, va_recv hK hPc (ci := 8) (q0 := 0) rfl rfl, fun U hU hW => ⟨rfl, hU, hPc, va_K.moved hW.alike hK, mz_nw hW hN⟩⟩ rfl rfl hl.1 rfl (lv_room (Nat.le_of_ble_eq_true rfl)) dX8_joins_174 ⟨Nat.le_of_ble_eq_true rfl, Nat.le_of_ble_eq_true rfl⟩) hS (fun q _ h => h.elim) (fun q h => h.elim) (fun r_174 u t H1 locs ht hvm hw_174 hB hz1 hk1 hS => ?_)
              have hE : H = H1 := hB.symm.trans ht
              subst hE
              refine lv_if_eq (tgt := 22) hx hb dX8_joins_177 (by decide) (fun c_177 => ?_) (fun c_177 => ?_)
              · skip
                exact ih_22 (mz_ms (mz_up T_ E_ (T_ E_ + 1)) n (E_ + 1)) (by rw [hk_]; exact mz_ms_stay hT_.2) _ _ _ ⟨x7_22, (nI (E_ + 1)), (upd fm6_22 (E_ + 1) (nI (T_ E_))), (upd fm7_22 E_ ((fm7_22 E_) + 1)), hP, hD, hS, lv_sub hl [3, 4, 5, 6, 7, 8, 9, 10] rfl, ⟨E_ + 1, V_, mz_up T_ E_ (T_ E_ + 1), rfl, hD_, (mz_dfs_way (mz_dfs_stay hF_ (by rw [hT_.1]; exact nI_1 _) (by omega))), rfl⟩⟩
              · skip
                refine lv_iconst (v := 1) hx hb dX8_joins_180 (by decide +kernel) ?_
                have hP9 := hP.sub (ws' := [(mo, .inr (8, [.int (nI n), .ref m1, .ref m2, .ref m3, .long ka, .long kb, .ref m6, .ref m7, .ref m8, .ref m9, .ref m10, .ref m11, .ref m12, .ref m13, .ref m14, .ref m15, .ref m16])), (m2, .inl (cI, 8, .inl fp)), (m6, .inl (cI, 8, .inl (upd fm6_22 (E_ + 1) (nI (T_ E_))))), (m7, .inl (cI, 9, .inl (upd fm7_22 E_ ((fm7_22 E_) + 1))))]) [0, 1, 2, 3] rfl
                have hD9 := hD.sub (ws' := [(mo, .inr (8, [.int (nI n), .ref m1, .ref m2, .ref m3, .long ka, .long kb, .ref m6, .ref m7, .ref m8, .ref m9, .ref m10, .ref m11, .ref m12, .ref m13, .ref m14, .ref m15, .ref m16])), (m2, .inl (cI, 8, .inl fp)), (m6, .inl (cI, 8, .inl (upd fm6_22 (E_ + 1) (nI (T_ E_))))), (m7, .inl (cI, 9, .inl (upd fm7_22 E_ ((fm7_22 E_) + 1))))]) [0, 1, 2, 3] (by decide) rfl
                refine W.widen (k := 0) (n := 0) (Nat.le_of_ble_eq_true rfl) (Nat.le_of_ble_eq_true rfl) ?_
                exact W.zret (v := 1) hx hb hr (mz_nz (by decide +kernel)) (fun t ht hW => ⟨⟨1, (), rfl, Or.inr rfl, (upd fm6_22 (E_ + 1) (nI (T_ E_))), (upd fm7_22 E_ ((fm7_22 E_) + 1)), by rw [ht]; exact hP9, hD9⟩, hS.F ht⟩) hS.2.2 dX8_joins_181
          · skip
            refine lv_goto (tgt := 22) hx hb dX8_joins_146 (by decide) ?_
            exact ih_22 (mz_ms (mz_up T_ E_ (T_ E_ + 1)) n (E_ + 1)) (by rw [hk_]; exact mz_ms_stay hT_.2) _ _ _ ⟨x7_22, (nI (E_ + 1)), fm6_22, (upd fm7_22 E_ ((fm7_22 E_) + 1)), hP, hD, hS, lv_sub hl [3, 4, 5, 6, 7, 8, 9, 10] rfl, ⟨E_ + 1, V_, mz_up T_ E_ (T_ E_ + 1), rfl, hD_, (mz_dfs_stay hF_ (by rw [hT_.1]; exact nI_1 _) (by omega)), rfl⟩⟩
    · skip
      have d_57 : T_ E_ = n := (nI_eq (a := T_ E_) (b := n) (by omega) (by omega)).mp c_57
      refine lv_iinc (v := (nI E_)) (lv' := [(6, .int (nI E_)), (8, .int (nI (T_ E_))), (7, .int x7_22), (0, .ref mo), (1, .int (nI i0)), (2, .int p2), (3, .int p3), (4, .int p4), (5, .int p5)]) hx hb dX8_joins_60 hl (k := 2) rfl (pk_m1 _) (by decide) rfl (fun ls hl => ?_)
      refine lv_iload hx hb dX8_joins_63 (lv_at hl 2 rfl) ?_
      refine lv_iconst (v := 1) hx hb dX8_joins_65 (by decide +kernel) ?_
      refine lv_aload_n hx hb dX8_joins_66 rfl (lv_at hl 3 rfl) ?_
      refine va_get (D := (dC, dI)) (ci := 8) (v := .ref m6) (C := RX8) (T := TX8) (N := 17) hx hb hts hiX8 hown hK hP 0 rfl rfl 6 (by decide) (hts (.fieldLink RX8 24 "MadeItSoModel" "way" "[I") (by decide +kernel)) (fun _ h9 => h9) rfl dX8_joins_67 ?_
      refine lv_iload hx hb dX8_joins_70 (lv_at hl 0 rfl) ?_
      refine va_iald hx hb hK hP 2 0 rfl rfl (vp_in_nI (by omega) (by omega)) dX8_joins_72 ?_
      refine mz_ti (y := (fm6_22 E_)) (by rw [mz_cl (by omega)]) ?_
      refine lv_ishl hx hb dX8_joins_73 ?_
      refine lv_iconst (v := (-1)) hx hb dX8_joins_74 (by decide +kernel) ?_
      refine lv_ixor hx hb dX8_joins_75 ?_
      refine lv_iand hx hb dX8_joins_76 ?_
      refine lv_istore (lv' := [(7, .int (x7_22 &&& ((1 <<< ((fm6_22 E_) &&& 31)) ^^^ (-1)))), (6, .int (nI E_)), (8, .int (nI (T_ E_))), (0, .ref mo), (1, .int (nI i0)), (2, .int p2), (3, .int p3), (4, .int p4), (5, .int p5)]) hx hb dX8_joins_77 hl (by decide) rfl (fun ls hl => ?_)
      refine lv_goto (tgt := 22) hx hb dX8_joins_79 (by decide) ?_
      exact ih_22 (mz_ms T_ n E_) (by rw [hk_]; exact mz_ms_pop hT_.2) _ _ _ ⟨(x7_22 &&& ((1 <<< ((fm6_22 E_) &&& 31)) ^^^ (-1))), (nI E_), fm6_22, (upd fm7_22 E_ ((fm7_22 E_) + 1)), hP, hD, hS, lv_sub hl [0, 1, 3, 4, 5, 6, 7, 8] rfl, ⟨E_, V_, T_, rfl, by omega, mz_dfs_pop hn hF_, rfl⟩⟩
set_option maxHeartbeats 1000000 in
set_option maxRecDepth 100000 in
theorem mz_m_barred (l : Launch) (dC : Nat → ClassId) (dI : Nat → Nat → Nat) (cI cJ cZ : ClassId) (mo : Nat) (m1 : Nat) (m2 : Nat) (m3 : Nat) (m6 : Nat) (m7 : Nat) (m8 : Nat) (m9 : Nat) (m10 : Nat) (m11 : Nat) (m12 : Nat) (m13 : Nat) (m14 : Nat) (m15 : Nat) (m16 : Nat) (n : Nat) (ka : Int64) (kb : Int64) (fp : Nat → Int32) (fw : Nat → Int32) (ft : Nat → Int32) (p1 : Int32) (p2 : Int32) (p3 : Int32) (p4 : Int32) (p5 : Int32) (sz : Nat) (hn : n ≤ 8) : Met l yX8_barred wsX8_barred ({ frames := 4, cells := 0, slots := 0, locals := 109 }) (va_Pc [.ref mo, .int p1, .int p2, .int p3, .int p4, .int p5] (fun U => U.heap.size = sz ∧ va_P (dC, dI) vwCl [(mo, .inr (8, [.int (nI n), .ref m1, .ref m2, .ref m3, .long ka, .long kb, .ref m6, .ref m7, .ref m8, .ref m9, .ref m10, .ref m11, .ref m12, .ref m13, .ref m14, .ref m15, .ref m16])), (m2, .inl (cI, 8, .inl fp)), (m6, .inl (cI, 8, .inl fw)), (m7, .inl (cI, 9, .inl ft))] U.heap ∧ va_K (dC, dI) vwCl [(cI, FieldType.int), (cJ, FieldType.long), (cZ, FieldType.boolean)] U ∧ va_D (fun _ => True) [(mo, .inr (8, [.int (nI n), .ref m1, .ref m2, .ref m3, .long ka, .long kb, .ref m6, .ref m7, .ref m8, .ref m9, .ref m10, .ref m11, .ref m12, .ref m13, .ref m14, .ref m15, .ref m16])), (m2, .inl (cI, 8, .inl fp)), (m6, .inl (cI, 8, .inl fw)), (m7, .inl (cI, 9, .inl ft))] ∧ mz_N U)) (va_Qi (fun (r : Int32) (_ : Unit) => r = 0 ∨ r = 1) (fun _ t => ∃ (gw : Nat → Int32), ∃ (gt : Nat → Int32), va_P (dC, dI) vwCl [(mo, .inr (8, [.int (nI n), .ref m1, .ref m2, .ref m3, .long ka, .long kb, .ref m6, .ref m7, .ref m8, .ref m9, .ref m10, .ref m11, .ref m12, .ref m13, .ref m14, .ref m15, .ref m16])), (m2, .inl (cI, 8, .inl fp)), (m6, .inl (cI, 8, .inl gw)), (m7, .inl (cI, 9, .inl gt))] t.heap ∧ va_D (va_A [(mo, .inr (8, [.int (nI n), .ref m1, .ref m2, .ref m3, .long ka, .long kb, .ref m6, .ref m7, .ref m8, .ref m9, .ref m10, .ref m11, .ref m12, .ref m13, .ref m14, .ref m15, .ref m16])), (m2, .inl (cI, 8, .inl fp)), (m6, .inl (cI, 8, .inl fw)), (m7, .inl (cI, 9, .inl ft))] sz) [(mo, .inr (8, [.int (nI n), .ref m1, .ref m2, .ref m3, .long ka, .long kb, .ref m6, .ref m7, .ref m8, .ref m9, .ref m10, .ref m11, .ref m12, .ref m13, .ref m14, .ref m15, .ref m16])), (m2, .inl (cI, 8, .inl fp)), (m6, .inl (cI, 8, .inl gw)), (m7, .inl (cI, 9, .inl gt))]) (va_A [(mo, .inr (8, [.int (nI n), .ref m1, .ref m2, .ref m3, .long ka, .long kb, .ref m6, .ref m7, .ref m8, .ref m9, .ref m10, .ref m11, .ref m12, .ref m13, .ref m14, .ref m15, .ref m16])), (m2, .inl (cI, 8, .inl fp)), (m6, .inl (cI, 8, .inl fw)), (m7, .inl (cI, 9, .inl ft))] sz)) 0 0 (va_A [(mo, .inr (8, [.int (nI n), .ref m1, .ref m2, .ref m3, .long ka, .long kb, .ref m6, .ref m7, .ref m8, .ref m9, .ref m10, .ref m11, .ref m12, .ref m13, .ref m14, .ref m15, .ref m16])), (m2, .inl (cI, 8, .inl fp)), (m6, .inl (cI, 8, .inl fw)), (m7, .inl (cI, 9, .inl ft))] sz) := by
  refine Met.ofW (cc := cX8_barred) (maxL := 8) (ret := (some .boolean)) (by decide) rfl ?_
  intro p e s m args below meth c s₁ B hml hv
  obtain ⟨rfl, hsz, hP, hK, hD0, hN⟩ := hv
  subst hsz
  have hx := B.exec
  have hb := B.bytes
  have hr := B.returns
  have hts := atoms_spec (ws := wsX8_barred) B.pre
  have hown : s.vm.findClass RX8 = some m.cls := findClass_of_methodNamed B.named
  have hlocks := B.notSynchronized
  have hD := hD0.self (sz := s.heap.size)
  generalize hAe : va_A [(mo, .inr (8, [.int (nI n), .ref m1, .ref m2, .ref m3, .long ka, .long kb, .ref m6, .ref m7, .ref m8, .ref m9, .ref m10, .ref m11, .ref m12, .ref m13, .ref m14, .ref m15, .ref m16])), (m2, .inl (cI, 8, .inl fp)), (m6, .inl (cI, 8, .inl fw)), (m7, .inl (cI, 9, .inl ft))] s.heap.size = A at hD ⊢
  have hA : ∀ q : Nat, s.heap.size ≤ q → A q := fun q h => by rw [← hAe]; exact Or.inr h
  have hS : va_S A s.heap s.heap [] := va_S.rf
  have hiX8 : ∀ w ∈ u_ws RX8 TX8 17, w ∈ wsX8_barred := by decide +kernel
  have hl := lv_entry ([.ref mo, .int p1, .int p2, .int p3, .int p4, .int p5]) (n := 8) (Nat.le_of_ble_eq_true rfl)
  rw [lg_entry_eq]
  generalize (lg_sl ([.ref mo, .int p1, .int p2, .int p3, .int p4, .int p5]) ++ List.replicate (8 - (lg_sl ([.ref mo, .int p1, .int p2, .int p3, .int p4, .int p5])).length) Slot.unset).toArray = ls at hl ⊢
  have hl : lv_has ls 8 [(0, .ref mo), (1, .int p1), (2, .int p2), (3, .int p3), (4, .int p4), (5, .int p5)] := hl
  refine lv_iconst (v := 0) hx hb dX8_barred_0 (by decide +kernel) ?_
  refine lv_istore (lv' := [(6, .int 0), (0, .ref mo), (1, .int p1), (2, .int p2), (3, .int p3), (4, .int p4), (5, .int p5)]) hx hb dX8_barred_1 hl (by decide) rfl (fun ls hl => ?_)
  refine mz_loopU (fun k H locs ls => ∃ (i_3 : Nat), ∃ (fm6_3 : Nat → Int32), ∃ (fm7_3 : Nat → Int32), i_3 ≤ n ∧ va_P (dC, dI) vwCl [(mo, .inr (8, [.int (nI n), .ref m1, .ref m2, .ref m3, .long ka, .long kb, .ref m6, .ref m7, .ref m8, .ref m9, .ref m10, .ref m11, .ref m12, .ref m13, .ref m14, .ref m15, .ref m16])), (m2, .inl (cI, 8, .inl fp)), (m6, .inl (cI, 8, .inl fm6_3)), (m7, .inl (cI, 9, .inl fm7_3))] H ∧ va_D A [(mo, .inr (8, [.int (nI n), .ref m1, .ref m2, .ref m3, .long ka, .long kb, .ref m6, .ref m7, .ref m8, .ref m9, .ref m10, .ref m11, .ref m12, .ref m13, .ref m14, .ref m15, .ref m16])), (m2, .inl (cI, 8, .inl fp)), (m6, .inl (cI, 8, .inl fm6_3)), (m7, .inl (cI, 9, .inl fm7_3))] ∧ va_S A s.heap H locs ∧ lv_has ls 8 [(6, .int (nI i_3)), (0, .ref mo), (1, .int p1), (2, .int p2), (3, .int p3), (4, .int p4), (5, .int p5)] ∧ k = n - i_3) ?_ _ _ _ _ ⟨0, fw, ft, by omega, hP, hD, hS, lv_sub hl [0, 1, 2, 3, 4, 5, 6] rfl, rfl⟩
  intro k_3 H locs ls hI_3 ih_3
  obtain ⟨i_3, fm6_3, fm7_3, hi_3, hP, hD, hS, hl, hk_3⟩ := hI_3
  refine lv_iload hx hb dX8_barred_3 (lv_at hl 0 rfl) ?_
  refine lv_aload_n hx hb dX8_barred_5 rfl (lv_at hl 1 rfl) ?_
  refine va_get (D := (dC, dI)) (ci := 8) (v := .int (nI n)) (C := RX8) (T := TX8) (N := 17) hx hb hts hiX8 hown hK hP 0 rfl rfl 0 (by decide) (hts (.fieldLink RX8 58 "MadeItSoModel" "many" "I") (by decide +kernel)) (fun _ h9 => h9) rfl dX8_barred_6 ?_
  refine lv_icmp_ge (tgt := 74) hx hb dX8_barred_9 (by decide) (fun c_9 => ?_) (fun c_9 => ?_)
  · skip
    have d_9 : n ≤ i_3 := (nI_leI (a := n) (b := i_3) (by omega) (by omega)).mp c_9
    refine lv_iconst (v := 1) hx hb dX8_barred_74 (by decide +kernel) ?_
    have hP9 := hP.sub (ws' := [(mo, .inr (8, [.int (nI n), .ref m1, .ref m2, .ref m3, .long ka, .long kb, .ref m6, .ref m7, .ref m8, .ref m9, .ref m10, .ref m11, .ref m12, .ref m13, .ref m14, .ref m15, .ref m16])), (m2, .inl (cI, 8, .inl fp)), (m6, .inl (cI, 8, .inl fm6_3)), (m7, .inl (cI, 9, .inl fm7_3))]) [0, 1, 2, 3] rfl
    have hD9 := hD.sub (ws' := [(mo, .inr (8, [.int (nI n), .ref m1, .ref m2, .ref m3, .long ka, .long kb, .ref m6, .ref m7, .ref m8, .ref m9, .ref m10, .ref m11, .ref m12, .ref m13, .ref m14, .ref m15, .ref m16])), (m2, .inl (cI, 8, .inl fp)), (m6, .inl (cI, 8, .inl fm6_3)), (m7, .inl (cI, 9, .inl fm7_3))]) [0, 1, 2, 3] (by decide) rfl
    refine W.widen (k := 0) (n := 0) (Nat.le_of_ble_eq_true rfl) (Nat.le_of_ble_eq_true rfl) ?_
    exact W.zret (v := 1) hx hb hr (mz_nz (by decide +kernel)) (fun t ht hW => ⟨⟨1, (), rfl, Or.inr rfl, fm6_3, fm7_3, by rw [ht]; exact hP9, hD9⟩, hS.F ht⟩) hS.2.2 dX8_barred_75
  · skip
    have d_9 : ¬ n ≤ i_3 := fun h => c_9 ((nI_leI (a := n) (b := i_3) (by omega) (by omega)).mpr h)
    refine lv_iconst (v := 0) hx hb dX8_barred_12 (by decide +kernel) ?_
    refine lv_istore (lv' := [(7, .int 0), (6, .int (nI i_3)), (0, .ref mo), (1, .int p1), (2, .int p2), (3, .int p3), (4, .int p4), (5, .int p5)]) hx hb dX8_barred_13 hl (by decide) rfl (fun ls hl => ?_)
    refine mz_loopU (fun k H locs ls => ∃ (i_15 : Nat), ∃ (fm6_15 : Nat → Int32), ∃ (fm7_15 : Nat → Int32), i_15 ≤ n ∧ va_P (dC, dI) vwCl [(mo, .inr (8, [.int (nI n), .ref m1, .ref m2, .ref m3, .long ka, .long kb, .ref m6, .ref m7, .ref m8, .ref m9, .ref m10, .ref m11, .ref m12, .ref m13, .ref m14, .ref m15, .ref m16])), (m2, .inl (cI, 8, .inl fp)), (m6, .inl (cI, 8, .inl fm6_15)), (m7, .inl (cI, 9, .inl fm7_15))] H ∧ va_D A [(mo, .inr (8, [.int (nI n), .ref m1, .ref m2, .ref m3, .long ka, .long kb, .ref m6, .ref m7, .ref m8, .ref m9, .ref m10, .ref m11, .ref m12, .ref m13, .ref m14, .ref m15, .ref m16])), (m2, .inl (cI, 8, .inl fp)), (m6, .inl (cI, 8, .inl fm6_15)), (m7, .inl (cI, 9, .inl fm7_15))] ∧ va_S A s.heap H locs ∧ lv_has ls 8 [(7, .int (nI i_15)), (6, .int (nI i_3)), (0, .ref mo), (1, .int p1), (2, .int p2), (3, .int p3), (4, .int p4), (5, .int p5)] ∧ k = n - i_15) ?_ _ _ _ _ ⟨0, fm6_3, fm7_3, by omega, hP, hD, hS, lv_sub hl [0, 1, 2, 3, 4, 5, 6, 7] rfl, rfl⟩
    intro k_15 H locs ls hI_15 ih_15
    obtain ⟨i_15, fm6_15, fm7_15, hi_15, hP, hD, hS, hl, hk_15⟩ := hI_15
    refine lv_iload hx hb dX8_barred_15 (lv_at hl 0 rfl) ?_
    refine lv_aload_n hx hb dX8_barred_17 rfl (lv_at hl 2 rfl) ?_
    refine va_get (D := (dC, dI)) (ci := 8) (v := .int (nI n)) (C := RX8) (T := TX8) (N := 17) hx hb hts hiX8 hown hK hP 0 rfl rfl 0 (by decide) (hts (.fieldLink RX8 58 "MadeItSoModel" "many" "I") (by decide +kernel)) (fun _ h9 => h9) rfl dX8_barred_18 ?_
    refine lv_icmp_ge (tgt := 68) hx hb dX8_barred_21 (by decide) (fun c_21 => ?_) (fun c_21 => ?_)
    · skip
      have d_21 : n ≤ i_15 := (nI_leI (a := n) (b := i_15) (by omega) (by omega)).mp c_21
      refine lv_iinc (v := (nI (i_3 + 1))) (lv' := [(6, .int (nI (i_3 + 1))), (7, .int (nI i_15)), (0, .ref mo), (1, .int p1), (2, .int p2), (3, .int p3), (4, .int p4), (5, .int p5)]) hx hb dX8_barred_68 hl (k := 1) rfl (nI_1 _) (by decide) rfl (fun ls hl => ?_)
      refine lv_goto (tgt := 3) hx hb dX8_barred_71 (by decide) ?_
      exact ih_3 _ (by omega) _ _ _ ⟨(i_3 + 1), fm6_15, fm7_15, by omega, hP, hD, hS, lv_sub hl [0, 2, 3, 4, 5, 6, 7] rfl, rfl⟩
    · skip
      have d_21 : ¬ n ≤ i_15 := fun h => c_21 ((nI_leI (a := n) (b := i_15) (by omega) (by omega)).mpr h)
      refine lv_iload_n hx hb dX8_barred_24 rfl (lv_at hl 3 rfl) ?_
      refine lv_iload hx hb dX8_barred_25 (lv_at hl 1 rfl) ?_
      refine lv_ishr hx hb dX8_barred_27 ?_
      refine lv_topi (fun v_27 ev_27 => ?_)
      refine lv_iconst (v := 1) hx hb dX8_barred_28 (by decide +kernel) ?_
      refine lv_iand hx hb dX8_barred_29 ?_
      refine lv_topi (fun v_29 ev_29 => ?_)
      refine lv_iconst (v := 1) hx hb dX8_barred_30 (by decide +kernel) ?_
      refine lv_icmp_ne (tgt := 62) hx hb dX8_barred_31 (by decide) (fun c_31 => ?_) (fun c_31 => ?_)
      · skip
        refine lv_iinc (v := (nI (i_15 + 1))) (lv' := [(7, .int (nI (i_15 + 1))), (6, .int (nI i_3)), (0, .ref mo), (1, .int p1), (2, .int p2), (3, .int p3), (4, .int p4), (5, .int p5)]) hx hb dX8_barred_62 hl (k := 0) rfl (nI_1 _) (by decide) rfl (fun ls hl => ?_)
        refine lv_goto (tgt := 15) hx hb dX8_barred_65 (by decide) ?_
        exact ih_15 _ (by omega) _ _ _ ⟨(i_15 + 1), fm6_15, fm7_15, by omega, hP, hD, hS, lv_sub hl [0, 1, 2, 3, 4, 5, 6, 7] rfl, rfl⟩
      · skip
        refine lv_iload_n hx hb dX8_barred_34 rfl (lv_at hl 4 rfl) ?_
        refine lv_iload hx hb dX8_barred_35 (lv_at hl 0 rfl) ?_
        refine lv_ishr hx hb dX8_barred_37 ?_
        refine lv_topi (fun v_37 ev_37 => ?_)
        refine lv_iconst (v := 1) hx hb dX8_barred_38 (by decide +kernel) ?_
        refine lv_iand hx hb dX8_barred_39 ?_
        refine lv_topi (fun v_39 ev_39 => ?_)
        refine lv_iconst (v := 1) hx hb dX8_barred_40 (by decide +kernel) ?_
        refine lv_icmp_ne (tgt := 62) hx hb dX8_barred_41 (by decide) (fun c_41 => ?_) (fun c_41 => ?_)
        · skip
          refine lv_iinc (v := (nI (i_15 + 1))) (lv' := [(7, .int (nI (i_15 + 1))), (6, .int (nI i_3)), (0, .ref mo), (1, .int p1), (2, .int p2), (3, .int p3), (4, .int p4), (5, .int p5)]) hx hb dX8_barred_62 hl (k := 0) rfl (nI_1 _) (by decide) rfl (fun ls hl => ?_)
          refine lv_goto (tgt := 15) hx hb dX8_barred_65 (by decide) ?_
          exact ih_15 _ (by omega) _ _ _ ⟨(i_15 + 1), fm6_15, fm7_15, by omega, hP, hD, hS, lv_sub hl [0, 1, 2, 3, 4, 5, 6, 7] rfl, rfl⟩
        · skip
          refine lv_aload_n hx hb dX8_barred_44 rfl (lv_at hl 2 rfl) ?_
          refine lv_iload hx hb dX8_barred_45 (lv_at hl 1 rfl) ?_
          refine lv_iload hx hb dX8_barred_47 (lv_at hl 0 rfl) ?_
          refine lv_iload_n hx hb dX8_barred_49 rfl (lv_at hl 5 rfl) ?_
          refine lv_iload hx hb dX8_barred_50 (lv_at hl 6 rfl) ?_
          refine lv_iload hx hb dX8_barred_52 (lv_at hl 7 rfl) ?_
          have hPc := hP.sub (ws' := [(mo, .inr (8, [.int (nI n), .ref m1, .ref m2, .ref m3, .long ka, .long kb, .ref m6, .ref m7, .ref m8, .ref m9, .ref m10, .ref m11, .ref m12, .ref m13, .ref m14, .ref m15, .ref m16])), (m2, .inl (cI, 8, .inl fp)), (m6, .inl (cI, 8, .inl fm6_15)), (m7, .inl (cI, 9, .inl fm7_15))]) [0, 1, 2, 3] rfl
          have hDc := hD.sub (ws' := [(mo, .inr (8, [.int (nI n), .ref m1, .ref m2, .ref m3, .long ka, .long kb, .ref m6, .ref m7, .ref m8, .ref m9, .ref m10, .ref m11, .ref m12, .ref m13, .ref m14, .ref m15, .ref m16])), (m2, .inl (cI, 8, .inl fp)), (m6, .inl (cI, 8, .inl fm6_15)), (m7, .inl (cI, 9, .inl fm7_15))]) [0, 1, 2, 3] (by decide) rfl
          have hFc := va_free (wc := [(mo, .inr (8, [.int (nI n), .ref m1, .ref m2, .ref m3, .long ka, .long kb, .ref m6, .ref m7, .ref m8, .ref m9, .ref m10, .ref m11, .ref m12, .ref m13, .ref m14, .ref m15, .ref m16])), (m2, .inl (cI, 8, .inl fp)), (m6, .inl (cI, 8, .inl fm6_15)), (m7, .inl (cI, 9, .inl fm7_15))]) hD hS hA [0, 1, 2, 3] rfl
          refine va_calli (va_runV (As := [.int (nI i_3), .int (nI i_15), .int p3, .int p4, .int p5]) (rest := []) ⟨hx, hb, hml, hown, hts⟩ (mz_m_joins l dC dI cI cJ cZ mo m1 m2 m3 m6 m7 m8 m9 m10 m11 m12 m13 m14 m15 m16 n ka kb fp fm6_15 fm7_15 i_3 (nI i_15) p3 p4 p5 H.size (by first | assumption | omega) (by first | assumption | omega)) (cwV 5 hts gX8_barred_X8_joins rfl rfl rfl (by decide +kernel) ⟨Nat.le_of_ble_eq_true rfl, Nat.le_of_ble_eq_true rfl⟩) ⟨fun a U g mk q => mz_blI q, va_recv hK hPc (ci := 8) (q0 := 0) rfl rfl, fun U hU hW => ⟨rfl, by rw [hU], by rw [hU]; exact hPc, va_K.moved hW.alike hK, hDc.weaken (fun _ _ _ _ => trivial), mz_nw hW hN⟩⟩ rfl rfl hl.1 rfl (lv_room (Nat.le_of_ble_eq_true rfl)) dX8_barred_54 ⟨Nat.le_of_ble_eq_true rfl, Nat.le_of_ble_eq_true rfl⟩) hS (fun q _ h => hFc q h) hFc (fun r_54 u t H1 locs ht hvm hw_54 hB hz1 hk1 hS => ?_)
          obtain ⟨gw_54, gt_54, hP1, hD1⟩ := hB
          rw [ht] at hP1
          obtain ⟨hP, hD⟩ := va_join (wr := []) (w1 := [(mo, .inr (8, [.int (nI n), .ref m1, .ref m2, .ref m3, .long ka, .long kb, .ref m6, .ref m7, .ref m8, .ref m9, .ref m10, .ref m11, .ref m12, .ref m13, .ref m14, .ref m15, .ref m16])), (m2, .inl (cI, 8, .inl fp)), (m6, .inl (cI, 8, .inl gw_54)), (m7, .inl (cI, 9, .inl gt_54))]) hP hD [0, 1, 2, 3] [] rfl rfl (by decide) (by decide) hk1 hFc hP1 hD1
          generalize H1 = H at hP hS ⊢
          have hP : va_P (dC, dI) vwCl [(mo, .inr (8, [.int (nI n), .ref m1, .ref m2, .ref m3, .long ka, .long kb, .ref m6, .ref m7, .ref m8, .ref m9, .ref m10, .ref m11, .ref m12, .ref m13, .ref m14, .ref m15, .ref m16])), (m2, .inl (cI, 8, .inl fp)), (m6, .inl (cI, 8, .inl gw_54)), (m7, .inl (cI, 9, .inl gt_54))] H := hP
          have hD : va_D A [(mo, .inr (8, [.int (nI n), .ref m1, .ref m2, .ref m3, .long ka, .long kb, .ref m6, .ref m7, .ref m8, .ref m9, .ref m10, .ref m11, .ref m12, .ref m13, .ref m14, .ref m15, .ref m16])), (m2, .inl (cI, 8, .inl fp)), (m6, .inl (cI, 8, .inl gw_54)), (m7, .inl (cI, 9, .inl gt_54))] := hD
          refine lv_if_eq (tgt := 62) hx hb dX8_barred_57 (by decide) (fun c_57 => ?_) (fun c_57 => ?_)
          · skip
            refine lv_iinc (v := (nI (i_15 + 1))) (lv' := [(7, .int (nI (i_15 + 1))), (6, .int (nI i_3)), (0, .ref mo), (1, .int p1), (2, .int p2), (3, .int p3), (4, .int p4), (5, .int p5)]) hx hb dX8_barred_62 hl (k := 0) rfl (nI_1 _) (by decide) rfl (fun ls hl => ?_)
            refine lv_goto (tgt := 15) hx hb dX8_barred_65 (by decide) ?_
            exact ih_15 _ (by omega) _ _ _ ⟨(i_15 + 1), gw_54, gt_54, by omega, hP, hD, hS, lv_sub hl [0, 1, 2, 3, 4, 5, 6, 7] rfl, rfl⟩
          · skip
            refine lv_iconst (v := 0) hx hb dX8_barred_60 (by decide +kernel) ?_
            have hP9 := hP.sub (ws' := [(mo, .inr (8, [.int (nI n), .ref m1, .ref m2, .ref m3, .long ka, .long kb, .ref m6, .ref m7, .ref m8, .ref m9, .ref m10, .ref m11, .ref m12, .ref m13, .ref m14, .ref m15, .ref m16])), (m2, .inl (cI, 8, .inl fp)), (m6, .inl (cI, 8, .inl gw_54)), (m7, .inl (cI, 9, .inl gt_54))]) [0, 1, 2, 3] rfl
            have hD9 := hD.sub (ws' := [(mo, .inr (8, [.int (nI n), .ref m1, .ref m2, .ref m3, .long ka, .long kb, .ref m6, .ref m7, .ref m8, .ref m9, .ref m10, .ref m11, .ref m12, .ref m13, .ref m14, .ref m15, .ref m16])), (m2, .inl (cI, 8, .inl fp)), (m6, .inl (cI, 8, .inl gw_54)), (m7, .inl (cI, 9, .inl gt_54))]) [0, 1, 2, 3] (by decide) rfl
            refine W.widen (k := 0) (n := 0) (Nat.le_of_ble_eq_true rfl) (Nat.le_of_ble_eq_true rfl) ?_
            exact W.zret (v := 0) hx hb hr (mz_nz (by decide +kernel)) (fun t ht hW => ⟨⟨0, (), rfl, Or.inl rfl, gw_54, gt_54, by rw [ht]; exact hP9, hD9⟩, hS.F ht⟩) hS.2.2 dX8_barred_61
