/-! the reference: drawings that look alike -/
set_option maxHeartbeats 1000000 in
set_option maxRecDepth 100000 in
theorem mz_m_drawings (l : Launch) (dC : Nat → ClassId) (dI : Nat → Nat → Nat) (cI cJ cZ : ClassId) (mo : Nat) (m1 : Nat) (m2 : Nat) (m3 : Nat) (m6 : Nat) (m7 : Nat) (m8 : Nat) (m9 : Nat) (m10 : Nat) (m11 : Nat) (m12 : Nat) (m13 : Nat) (m14 : Nat) (m15 : Nat) (m16 : Nat) (n : Nat) (ka : Int64) (kb : Int64) (fp : Nat → Int32) (fo : Nat → Int32) (fc : Nat → Int32) (fq : Nat → Int32) (fa : Nat → Int32) (fj : Nat → Int32) (sz : Nat) (hn : n ≤ 8) (hbl : mz_bl fa) : Met l yX8_drawings wsX8_drawings ({ frames := 2, cells := 0, slots := 0, locals := 43 }) (va_Pc [.ref mo] (fun U => U.heap.size = sz ∧ va_P (dC, dI) vwCl [(mo, .inr (8, [.int (nI n), .ref m1, .ref m2, .ref m3, .long ka, .long kb, .ref m6, .ref m7, .ref m8, .ref m9, .ref m10, .ref m11, .ref m12, .ref m13, .ref m14, .ref m15, .ref m16])), (m2, .inl (cI, 8, .inl fp)), (m12, .inl (cI, 8, .inl fo)), (m13, .inl (cI, 9, .inl fc)), (m14, .inl (cI, 8, .inl fq)), (m15, .inl (cZ, 64, .inl fa)), (m16, .inl (cI, 8, .inl fj))] U.heap ∧ va_K (dC, dI) vwCl [(cI, FieldType.int), (cJ, FieldType.long), (cZ, FieldType.boolean)] U ∧ va_D (fun _ => True) [(mo, .inr (8, [.int (nI n), .ref m1, .ref m2, .ref m3, .long ka, .long kb, .ref m6, .ref m7, .ref m8, .ref m9, .ref m10, .ref m11, .ref m12, .ref m13, .ref m14, .ref m15, .ref m16])), (m2, .inl (cI, 8, .inl fp)), (m12, .inl (cI, 8, .inl fo)), (m13, .inl (cI, 9, .inl fc)), (m14, .inl (cI, 8, .inl fq)), (m15, .inl (cZ, 64, .inl fa)), (m16, .inl (cI, 8, .inl fj))] ∧ mz_N U)) (va_Qi (fun (r : Int32) (_ : Unit) => True) (fun _ t => ∃ (go : Nat → Int32), ∃ (gc : Nat → Int32), ∃ (gq : Nat → Int32), ∃ (ga : Nat → Int32), ∃ (gj : Nat → Int32), (mz_bl ga) ∧ va_P (dC, dI) vwCl [(mo, .inr (8, [.int (nI n), .ref m1, .ref m2, .ref m3, .long ka, .long kb, .ref m6, .ref m7, .ref m8, .ref m9, .ref m10, .ref m11, .ref m12, .ref m13, .ref m14, .ref m15, .ref m16])), (m2, .inl (cI, 8, .inl fp)), (m12, .inl (cI, 8, .inl go)), (m13, .inl (cI, 9, .inl gc)), (m14, .inl (cI, 8, .inl gq)), (m15, .inl (cZ, 64, .inl ga)), (m16, .inl (cI, 8, .inl gj))] t.heap ∧ va_D (va_A [(mo, .inr (8, [.int (nI n), .ref m1, .ref m2, .ref m3, .long ka, .long kb, .ref m6, .ref m7, .ref m8, .ref m9, .ref m10, .ref m11, .ref m12, .ref m13, .ref m14, .ref m15, .ref m16])), (m2, .inl (cI, 8, .inl fp)), (m12, .inl (cI, 8, .inl fo)), (m13, .inl (cI, 9, .inl fc)), (m14, .inl (cI, 8, .inl fq)), (m15, .inl (cZ, 64, .inl fa)), (m16, .inl (cI, 8, .inl fj))] sz) [(mo, .inr (8, [.int (nI n), .ref m1, .ref m2, .ref m3, .long ka, .long kb, .ref m6, .ref m7, .ref m8, .ref m9, .ref m10, .ref m11, .ref m12, .ref m13, .ref m14, .ref m15, .ref m16])), (m2, .inl (cI, 8, .inl fp)), (m12, .inl (cI, 8, .inl go)), (m13, .inl (cI, 9, .inl gc)), (m14, .inl (cI, 8, .inl gq)), (m15, .inl (cZ, 64, .inl ga)), (m16, .inl (cI, 8, .inl gj))]) (va_A [(mo, .inr (8, [.int (nI n), .ref m1, .ref m2, .ref m3, .long ka, .long kb, .ref m6, .ref m7, .ref m8, .ref m9, .ref m10, .ref m11, .ref m12, .ref m13, .ref m14, .ref m15, .ref m16])), (m2, .inl (cI, 8, .inl fp)), (m12, .inl (cI, 8, .inl fo)), (m13, .inl (cI, 9, .inl fc)), (m14, .inl (cI, 8, .inl fq)), (m15, .inl (cZ, 64, .inl fa)), (m16, .inl (cI, 8, .inl fj))] sz)) 0 0 (va_A [(mo, .inr (8, [.int (nI n), .ref m1, .ref m2, .ref m3, .long ka, .long kb, .ref m6, .ref m7, .ref m8, .ref m9, .ref m10, .ref m11, .ref m12, .ref m13, .ref m14, .ref m15, .ref m16])), (m2, .inl (cI, 8, .inl fp)), (m12, .inl (cI, 8, .inl fo)), (m13, .inl (cI, 9, .inl fc)), (m14, .inl (cI, 8, .inl fq)), (m15, .inl (cZ, 64, .inl fa)), (m16, .inl (cI, 8, .inl fj))] sz) := by
  refine Met.ofW (cc := cX8_drawings) (maxL := 6) (ret := (some .int)) (by decide) rfl ?_
  intro p e s m args below meth c s₁ B hml hv
  obtain ⟨rfl, hsz, hP, hK, hD0, hN⟩ := hv
  subst hsz
  have hx := B.exec
  have hb := B.bytes
  have hr := B.returns
  have hts := atoms_spec (ws := wsX8_drawings) B.pre
  have hown : s.vm.findClass RX8 = some m.cls := findClass_of_methodNamed B.named
  have hlocks := B.notSynchronized
  have hD := hD0.self (sz := s.heap.size)
  generalize hAe : va_A [(mo, .inr (8, [.int (nI n), .ref m1, .ref m2, .ref m3, .long ka, .long kb, .ref m6, .ref m7, .ref m8, .ref m9, .ref m10, .ref m11, .ref m12, .ref m13, .ref m14, .ref m15, .ref m16])), (m2, .inl (cI, 8, .inl fp)), (m12, .inl (cI, 8, .inl fo)), (m13, .inl (cI, 9, .inl fc)), (m14, .inl (cI, 8, .inl fq)), (m15, .inl (cZ, 64, .inl fa)), (m16, .inl (cI, 8, .inl fj))] s.heap.size = A at hD ⊢
  have hA : ∀ q : Nat, s.heap.size ≤ q → A q := fun q h => by rw [← hAe]; exact Or.inr h
  have hS : va_S A s.heap s.heap [] := va_S.rf
  have hiX8 : ∀ w ∈ u_ws RX8 TX8 17, w ∈ wsX8_drawings := by decide +kernel
  have hl := lv_entry ([.ref mo]) (n := 6) (Nat.le_of_ble_eq_true rfl)
  rw [lg_entry_eq]
  generalize (lg_sl ([.ref mo]) ++ List.replicate (6 - (lg_sl ([.ref mo])).length) Slot.unset).toArray = ls at hl ⊢
  have hl : lv_has ls 6 [(0, .ref mo)] := hl
  refine lv_iconst (v := 0) hx hb dX8_drawings_0 (by decide +kernel) ?_
  refine lv_istore_n (lv' := [(1, .int 0), (0, .ref mo)]) hx hb dX8_drawings_1 rfl hl (by decide) rfl (fun ls hl => ?_)
  refine mz_loopU (fun k H locs ls => ∃ (i_2 : Nat), ∃ (fm16_2 : Nat → Int32), i_2 ≤ n ∧ va_P (dC, dI) vwCl [(mo, .inr (8, [.int (nI n), .ref m1, .ref m2, .ref m3, .long ka, .long kb, .ref m6, .ref m7, .ref m8, .ref m9, .ref m10, .ref m11, .ref m12, .ref m13, .ref m14, .ref m15, .ref m16])), (m2, .inl (cI, 8, .inl fp)), (m12, .inl (cI, 8, .inl fo)), (m13, .inl (cI, 9, .inl fc)), (m14, .inl (cI, 8, .inl fq)), (m15, .inl (cZ, 64, .inl fa)), (m16, .inl (cI, 8, .inl fm16_2))] H ∧ va_D A [(mo, .inr (8, [.int (nI n), .ref m1, .ref m2, .ref m3, .long ka, .long kb, .ref m6, .ref m7, .ref m8, .ref m9, .ref m10, .ref m11, .ref m12, .ref m13, .ref m14, .ref m15, .ref m16])), (m2, .inl (cI, 8, .inl fp)), (m12, .inl (cI, 8, .inl fo)), (m13, .inl (cI, 9, .inl fc)), (m14, .inl (cI, 8, .inl fq)), (m15, .inl (cZ, 64, .inl fa)), (m16, .inl (cI, 8, .inl fm16_2))] ∧ va_S A s.heap H locs ∧ lv_has ls 6 [(1, .int (nI i_2)), (0, .ref mo)] ∧ k = n - i_2) ?_ _ _ _ _ ⟨0, fj, by omega, hP, hD, hS, lv_sub hl [0, 1] rfl, rfl⟩
  intro k_2 H locs ls hI_2 ih_2
  obtain ⟨i_2, fm16_2, hi_2, hP, hD, hS, hl, hk_2⟩ := hI_2
  refine lv_iload_n hx hb dX8_drawings_2 rfl (lv_at hl 0 rfl) ?_
  refine lv_aload_n hx hb dX8_drawings_3 rfl (lv_at hl 1 rfl) ?_
  refine va_get (D := (dC, dI)) (ci := 8) (v := .int (nI n)) (C := RX8) (T := TX8) (N := 17) hx hb hts hiX8 hown hK hP 0 rfl rfl 0 (by decide) (hts (.fieldLink RX8 58 "MadeItSoModel" "many" "I") (by decide +kernel)) (fun _ h9 => h9) rfl dX8_drawings_4 ?_
  refine lv_icmp_ge (tgt := 69) hx hb dX8_drawings_7 (by decide) (fun c_7 => ?_) (fun c_7 => ?_)
  · skip
    have d_7 : n ≤ i_2 := (nI_leI (a := n) (b := i_2) (by omega) (by omega)).mp c_7
    refine lv_iconst (v := 0) hx hb dX8_drawings_69 (by decide +kernel) ?_
    refine lv_istore_n (lv' := [(1, .int 0), (0, .ref mo)]) hx hb dX8_drawings_70 rfl hl (by decide) rfl (fun ls hl => ?_)
    refine mz_loopU (fun k H locs ls => ∃ (i_71 : Nat), ∃ (fm15_71 : Nat → Int32), i_71 ≤ 64 ∧ (mz_bl fm15_71) ∧ va_P (dC, dI) vwCl [(mo, .inr (8, [.int (nI n), .ref m1, .ref m2, .ref m3, .long ka, .long kb, .ref m6, .ref m7, .ref m8, .ref m9, .ref m10, .ref m11, .ref m12, .ref m13, .ref m14, .ref m15, .ref m16])), (m2, .inl (cI, 8, .inl fp)), (m12, .inl (cI, 8, .inl fo)), (m13, .inl (cI, 9, .inl fc)), (m14, .inl (cI, 8, .inl fq)), (m15, .inl (cZ, 64, .inl fm15_71)), (m16, .inl (cI, 8, .inl fm16_2))] H ∧ va_D A [(mo, .inr (8, [.int (nI n), .ref m1, .ref m2, .ref m3, .long ka, .long kb, .ref m6, .ref m7, .ref m8, .ref m9, .ref m10, .ref m11, .ref m12, .ref m13, .ref m14, .ref m15, .ref m16])), (m2, .inl (cI, 8, .inl fp)), (m12, .inl (cI, 8, .inl fo)), (m13, .inl (cI, 9, .inl fc)), (m14, .inl (cI, 8, .inl fq)), (m15, .inl (cZ, 64, .inl fm15_71)), (m16, .inl (cI, 8, .inl fm16_2))] ∧ va_S A s.heap H locs ∧ lv_has ls 6 [(1, .int (nI i_71)), (0, .ref mo)] ∧ k = 64 - i_71) ?_ _ _ _ _ ⟨0, fa, by omega, (by first | assumption | omega), hP, hD, hS, lv_sub hl [0, 1] rfl, rfl⟩
    intro k_71 H locs ls hI_71 ih_71
    obtain ⟨i_71, fm15_71, hi_71, hb_71, hP, hD, hS, hl, hk_71⟩ := hI_71
    refine lv_iload_n hx hb dX8_drawings_71 rfl (lv_at hl 0 rfl) ?_
    refine lv_bipush (v := 64) hx hb dX8_drawings_72 (by decide +kernel) ?_
    refine lv_icmp_ge (tgt := 90) hx hb dX8_drawings_74 (by decide) (fun c_74 => ?_) (fun c_74 => ?_)
    · skip
      have d_74 : 64 ≤ i_71 := (nI_leI (a := 64) (b := i_71) (by omega) (by omega)).mp c_74
      refine lv_iconst (v := 0) hx hb dX8_drawings_90 (by decide +kernel) ?_
      refine lv_istore_n (lv' := [(1, .int 0), (0, .ref mo)]) hx hb dX8_drawings_91 rfl hl (by decide) rfl (fun ls hl => ?_)
      refine lv_iconst (v := 0) hx hb dX8_drawings_92 (by decide +kernel) ?_
      refine lv_istore_n (lv' := [(2, .int 0), (1, .int 0), (0, .ref mo)]) hx hb dX8_drawings_93 rfl hl (by decide) rfl (fun ls hl => ?_)
      refine lv_iconst (v := 0) hx hb dX8_drawings_94 (by decide +kernel) ?_
      refine lv_istore_n (lv' := [(3, .int 0), (2, .int 0), (1, .int 0), (0, .ref mo)]) hx hb dX8_drawings_95 rfl hl (by decide) rfl (fun ls hl => ?_)
      refine lv_aload_n hx hb dX8_drawings_96 rfl (lv_at hl 3 rfl) ?_
      refine va_get (D := (dC, dI)) (ci := 8) (v := .ref m13) (C := RX8) (T := TX8) (N := 17) hx hb hts hiX8 hown hK hP 0 rfl rfl 13 (by decide) (hts (.fieldLink RX8 46 "MadeItSoModel" "choice" "[I") (by decide +kernel)) (fun _ h9 => h9) rfl dX8_drawings_97 ?_
      refine lv_iconst (v := 0) hx hb dX8_drawings_100 (by decide +kernel) ?_
      refine lv_iconst (v := 0) hx hb dX8_drawings_101 (by decide +kernel) ?_
      refine va_iast hx hb hK hP hD hS 3 0 rfl rfl (mz_in (by decide +kernel)) dX8_drawings_102 (fun H locs hP hD hS => ?_)
      have hP : va_P (dC, dI) vwCl [(mo, .inr (8, [.int (nI n), .ref m1, .ref m2, .ref m3, .long ka, .long kb, .ref m6, .ref m7, .ref m8, .ref m9, .ref m10, .ref m11, .ref m12, .ref m13, .ref m14, .ref m15, .ref m16])), (m2, .inl (cI, 8, .inl fp)), (m12, .inl (cI, 8, .inl fo)), (m13, .inl (cI, 9, .inl (upd fc 0 0))), (m14, .inl (cI, 8, .inl fq)), (m15, .inl (cZ, 64, .inl fm15_71)), (m16, .inl (cI, 8, .inl fm16_2))] H := hP
      have hD : va_D A [(mo, .inr (8, [.int (nI n), .ref m1, .ref m2, .ref m3, .long ka, .long kb, .ref m6, .ref m7, .ref m8, .ref m9, .ref m10, .ref m11, .ref m12, .ref m13, .ref m14, .ref m15, .ref m16])), (m2, .inl (cI, 8, .inl fp)), (m12, .inl (cI, 8, .inl fo)), (m13, .inl (cI, 9, .inl (upd fc 0 0))), (m14, .inl (cI, 8, .inl fq)), (m15, .inl (cZ, 64, .inl fm15_71)), (m16, .inl (cI, 8, .inl fm16_2))] := hD
      refine mz_loopU (fun k H locs ls => ∃ (x3_103 : Int32), ∃ (x2_103 : Int32), ∃ (x1_103 : Int32), ∃ (fm12_103 : Nat → Int32), ∃ (fm13_103 : Nat → Int32), ∃ (fm14_103 : Nat → Int32), ∃ (fm15_103 : Nat → Int32), (mz_bl fm15_103) ∧ va_P (dC, dI) vwCl [(mo, .inr (8, [.int (nI n), .ref m1, .ref m2, .ref m3, .long ka, .long kb, .ref m6, .ref m7, .ref m8, .ref m9, .ref m10, .ref m11, .ref m12, .ref m13, .ref m14, .ref m15, .ref m16])), (m2, .inl (cI, 8, .inl fp)), (m12, .inl (cI, 8, .inl fm12_103)), (m13, .inl (cI, 9, .inl fm13_103)), (m14, .inl (cI, 8, .inl fm14_103)), (m15, .inl (cZ, 64, .inl fm15_103)), (m16, .inl (cI, 8, .inl fm16_2))] H ∧ va_D A [(mo, .inr (8, [.int (nI n), .ref m1, .ref m2, .ref m3, .long ka, .long kb, .ref m6, .ref m7, .ref m8, .ref m9, .ref m10, .ref m11, .ref m12, .ref m13, .ref m14, .ref m15, .ref m16])), (m2, .inl (cI, 8, .inl fp)), (m12, .inl (cI, 8, .inl fm12_103)), (m13, .inl (cI, 9, .inl fm13_103)), (m14, .inl (cI, 8, .inl fm14_103)), (m15, .inl (cZ, 64, .inl fm15_103)), (m16, .inl (cI, 8, .inl fm16_2))] ∧ va_S A s.heap H locs ∧ lv_has ls 6 [(3, .int x3_103), (2, .int x2_103), (1, .int x1_103), (0, .ref mo)] ∧ (x2_103 = -1 ∨ ∃ (N : Nat) (T : Nat → Nat), x2_103 = nI N ∧ N ≤ n ∧ (∀ i, i ≤ N → fm13_103 i = nI (T i) ∧ T i ≤ n) ∧ k = mz_ms T n (N + 1))) ?_ (mz_ms (fun _ => 0) n 1) _ _ _ ⟨0, 0, 0, fo, (upd fc 0 0), fq, fm15_71, (by first | assumption | omega), hP, hD, hS, lv_sub hl [0, 1, 2, 3] rfl, Or.inr ⟨0, fun _ => 0, rfl, Nat.zero_le _, mz_ch_0, rfl⟩⟩
      intro k_103 H locs ls hI_103 ih_103
      obtain ⟨x3_103, x2_103, x1_103, fm12_103, fm13_103, fm14_103, fm15_103, hb_103, hP, hD, hS, hl, hk_103⟩ := hI_103
      rcases hk_103 with h_103 | ⟨N_, T_, eN_, hN2_, hT_, hk_⟩
      · subst h_103
        refine lv_iload_n hx hb dX8_drawings_103 rfl (lv_at hl 1 rfl) ?_
        refine lv_if_lt (tgt := 351) hx hb dX8_drawings_104 (by decide) (fun _ => ?_) (fun c_104 => absurd (by decide +kernel) c_104)
        refine lv_iload_n hx hb dX8_drawings_351 rfl (lv_at hl 2 rfl) ?_
        have hP9 := hP.sub (ws' := [(mo, .inr (8, [.int (nI n), .ref m1, .ref m2, .ref m3, .long ka, .long kb, .ref m6, .ref m7, .ref m8, .ref m9, .ref m10, .ref m11, .ref m12, .ref m13, .ref m14, .ref m15, .ref m16])), (m2, .inl (cI, 8, .inl fp)), (m12, .inl (cI, 8, .inl fm12_103)), (m13, .inl (cI, 9, .inl fm13_103)), (m14, .inl (cI, 8, .inl fm14_103)), (m15, .inl (cZ, 64, .inl fm15_103)), (m16, .inl (cI, 8, .inl fm16_2))]) [0, 1, 2, 3, 4, 5, 6] rfl
        have hD9 := hD.sub (ws' := [(mo, .inr (8, [.int (nI n), .ref m1, .ref m2, .ref m3, .long ka, .long kb, .ref m6, .ref m7, .ref m8, .ref m9, .ref m10, .ref m11, .ref m12, .ref m13, .ref m14, .ref m15, .ref m16])), (m2, .inl (cI, 8, .inl fp)), (m12, .inl (cI, 8, .inl fm12_103)), (m13, .inl (cI, 9, .inl fm13_103)), (m14, .inl (cI, 8, .inl fm14_103)), (m15, .inl (cZ, 64, .inl fm15_103)), (m16, .inl (cI, 8, .inl fm16_2))]) [0, 1, 2, 3, 4, 5, 6] (by decide) rfl
        refine W.widen (k := 0) (n := 0) (Nat.le_of_ble_eq_true rfl) (Nat.le_of_ble_eq_true rfl) ?_
        exact W.iret (v := x1_103) hx hb hr (fun t ht hW => ⟨⟨x1_103, (), rfl, trivial, fm12_103, fm13_103, fm14_103, fm15_103, fm16_2, (by first | assumption | omega), by rw [ht]; exact hP9, hD9⟩, hS.F ht⟩) hS.2.2 dX8_drawings_352
      subst eN_
      have hTN_ := hT_ N_ (Nat.le_refl _)
      have hTN2_ := hTN_.2
      refine lv_iload_n hx hb dX8_drawings_103 rfl (lv_at hl 1 rfl) ?_
      refine lv_if_lt (tgt := 351) hx hb dX8_drawings_104 (by decide) (fun c_104 => absurd c_104 (nI_pos (by omega))) (fun _ => ?_)
      refine lv_iload_n hx hb dX8_drawings_107 rfl (lv_at hl 1 rfl) ?_
      refine lv_aload_n hx hb dX8_drawings_108 rfl (lv_at hl 3 rfl) ?_
      refine va_get (D := (dC, dI)) (ci := 8) (v := .int (nI n)) (C := RX8) (T := TX8) (N := 17) hx hb hts hiX8 hown hK hP 0 rfl rfl 0 (by decide) (hts (.fieldLink RX8 58 "MadeItSoModel" "many" "I") (by decide +kernel)) (fun _ h9 => h9) rfl dX8_drawings_109 ?_
      refine lv_icmp_ne (tgt := 204) hx hb dX8_drawings_112 (by decide) (fun c_112 => ?_) (fun c_112 => ?_)
      · skip
        have d_112 : ¬ N_ = n := fun h => c_112 ((nI_eq (a := N_) (b := n) (by omega) (by omega)).mpr h)
        refine lv_iload_n hx hb dX8_drawings_204 rfl (lv_at hl 1 rfl) ?_
        refine lv_aload_n hx hb dX8_drawings_205 rfl (lv_at hl 3 rfl) ?_
        refine va_get (D := (dC, dI)) (ci := 8) (v := .int (nI n)) (C := RX8) (T := TX8) (N := 17) hx hb hts hiX8 hown hK hP 0 rfl rfl 0 (by decide) (hts (.fieldLink RX8 58 "MadeItSoModel" "many" "I") (by decide +kernel)) (fun _ h9 => h9) rfl dX8_drawings_206 ?_
        refine lv_icmp_ne (tgt := 219) hx hb dX8_drawings_209 (by decide) (fun _ => ?_) (fun c_209 => absurd c_209 c_112)
        refine lv_aload_n hx hb dX8_drawings_219 rfl (lv_at hl 3 rfl) ?_
        refine va_get (D := (dC, dI)) (ci := 8) (v := .ref m13) (C := RX8) (T := TX8) (N := 17) hx hb hts hiX8 hown hK hP 0 rfl rfl 13 (by decide) (hts (.fieldLink RX8 46 "MadeItSoModel" "choice" "[I") (by decide +kernel)) (fun _ h9 => h9) rfl dX8_drawings_220 ?_
        refine lv_iload_n hx hb dX8_drawings_223 rfl (lv_at hl 1 rfl) ?_
        refine va_iald hx hb hK hP 3 0 rfl rfl (vp_in_nI (by omega) (by omega)) dX8_drawings_224 ?_
        refine mz_ti (y := (fm13_103 N_)) (by rw [mz_cl (by omega)]) ?_
        refine mz_ti (y := (nI (T_ N_))) hTN_.1 ?_
        refine lv_istore (lv' := [(4, .int (nI (T_ N_))), (3, .int x3_103), (2, .int (nI N_)), (1, .int x1_103), (0, .ref mo)]) hx hb dX8_drawings_225 hl (by decide) rfl (fun ls hl => ?_)
        refine lv_iload hx hb dX8_drawings_227 (lv_at hl 0 rfl) ?_
        refine lv_aload_n hx hb dX8_drawings_229 rfl (lv_at hl 4 rfl) ?_
        refine va_get (D := (dC, dI)) (ci := 8) (v := .int (nI n)) (C := RX8) (T := TX8) (N := 17) hx hb hts hiX8 hown hK hP 0 rfl rfl 0 (by decide) (hts (.fieldLink RX8 58 "MadeItSoModel" "many" "I") (by decide +kernel)) (fun _ h9 => h9) rfl dX8_drawings_230 ?_
        refine lv_icmp_ne (tgt := 259) hx hb dX8_drawings_233 (by decide) (fun c_233 => ?_) (fun c_233 => ?_)
        · skip
          have d_233 : ¬ T_ N_ = n := fun h => c_233 ((nI_eq (a := T_ N_) (b := n) (by omega) (by omega)).mpr h)
          refine lv_aload_n hx hb dX8_drawings_259 rfl (lv_at hl 4 rfl) ?_
          refine va_get (D := (dC, dI)) (ci := 8) (v := .ref m13) (C := RX8) (T := TX8) (N := 17) hx hb hts hiX8 hown hK hP 0 rfl rfl 13 (by decide) (hts (.fieldLink RX8 46 "MadeItSoModel" "choice" "[I") (by decide +kernel)) (fun _ h9 => h9) rfl dX8_drawings_260 ?_
          refine lv_iload_n hx hb dX8_drawings_263 rfl (lv_at hl 2 rfl) ?_
          refine lv_dup2_11 hx hb dX8_drawings_264 rfl rfl ?_
          refine va_iald hx hb hK hP 3 0 rfl rfl (vp_in_nI (by omega) (by omega)) dX8_drawings_265 ?_
          refine mz_ti (y := (fm13_103 N_)) (by rw [mz_cl (by omega)]) ?_
          refine lv_iconst (v := 1) hx hb dX8_drawings_266 (by decide +kernel) ?_
          refine lv_iadd hx hb dX8_drawings_267 ?_
          refine va_iast hx hb hK hP hD hS 3 0 rfl rfl (vp_in_nI (by omega) (by omega)) dX8_drawings_268 (fun H locs hP hD hS => ?_)
          rw [mz_cl (n := N_) (by omega)] at hP hD
          have hP : va_P (dC, dI) vwCl [(mo, .inr (8, [.int (nI n), .ref m1, .ref m2, .ref m3, .long ka, .long kb, .ref m6, .ref m7, .ref m8, .ref m9, .ref m10, .ref m11, .ref m12, .ref m13, .ref m14, .ref m15, .ref m16])), (m2, .inl (cI, 8, .inl fp)), (m12, .inl (cI, 8, .inl fm12_103)), (m13, .inl (cI, 9, .inl (upd fm13_103 N_ ((fm13_103 N_) + 1)))), (m14, .inl (cI, 8, .inl fm14_103)), (m15, .inl (cZ, 64, .inl fm15_103)), (m16, .inl (cI, 8, .inl fm16_2))] H := hP
          have hD : va_D A [(mo, .inr (8, [.int (nI n), .ref m1, .ref m2, .ref m3, .long ka, .long kb, .ref m6, .ref m7, .ref m8, .ref m9, .ref m10, .ref m11, .ref m12, .ref m13, .ref m14, .ref m15, .ref m16])), (m2, .inl (cI, 8, .inl fp)), (m12, .inl (cI, 8, .inl fm12_103)), (m13, .inl (cI, 9, .inl (upd fm13_103 N_ ((fm13_103 N_) + 1)))), (m14, .inl (cI, 8, .inl fm14_103)), (m15, .inl (cZ, 64, .inl fm15_103)), (m16, .inl (cI, 8, .inl fm16_2))] := hD
          refine lv_aload_n hx hb dX8_drawings_269 rfl (lv_at hl 4 rfl) ?_
          refine va_get (D := (dC, dI)) (ci := 8) (v := .ref m16) (C := RX8) (T := TX8) (N := 17) hx hb hts hiX8 hown hK hP 0 rfl rfl 16 (by decide) (hts (.fieldLink RX8 55 "MadeItSoModel" "joined" "[I") (by decide +kernel)) (fun _ h9 => h9) rfl dX8_drawings_270 ?_
          refine lv_iload hx hb dX8_drawings_273 (lv_at hl 0 rfl) ?_
          refine va_iald hx hb hK hP 6 0 rfl rfl (vp_in_nI (by omega) (by omega)) dX8_drawings_275 ?_
          refine mz_ti (y := (fm16_2 (T_ N_))) (by rw [mz_cl (by omega)]) ?_
          refine lv_iload_n hx hb dX8_drawings_276 rfl (lv_at hl 1 rfl) ?_
          refine lv_iand hx hb dX8_drawings_277 ?_
          refine lv_istore (lv' := [(5, .int ((fm16_2 (T_ N_)) &&& x3_103)), (4, .int (nI (T_ N_))), (3, .int x3_103), (2, .int (nI N_)), (1, .int x1_103), (0, .ref mo)]) hx hb dX8_drawings_278 hl (by decide) rfl (fun ls hl => ?_)
          refine lv_iload_n hx hb dX8_drawings_280 rfl (lv_at hl 2 rfl) ?_
          refine lv_iload hx hb dX8_drawings_281 (lv_at hl 1 rfl) ?_
          refine lv_ishr hx hb dX8_drawings_283 ?_
          refine lv_iconst (v := 1) hx hb dX8_drawings_284 (by decide +kernel) ?_
          refine lv_iand hx hb dX8_drawings_285 ?_
          refine lv_iconst (v := 1) hx hb dX8_drawings_286 (by decide +kernel) ?_
          refine lv_icmp_eq (tgt := 103) hx hb dX8_drawings_287 (by decide) (fun c_287 => ?_) (fun c_287 => ?_)
          · skip
            exact ih_103 (mz_ms (mz_up T_ N_ (T_ N_ + 1)) n (N_ + 1)) (by rw [hk_]; exact mz_ms_stay (hT_ N_ (Nat.le_refl _)).2) _ _ _ ⟨x3_103, (nI N_), x1_103, fm12_103, (upd fm13_103 N_ ((fm13_103 N_) + 1)), fm14_103, fm15_103, (by first | assumption | omega), hP, hD, hS, lv_sub hl [2, 3, 4, 5] rfl, Or.inr ⟨N_, mz_up T_ N_ (T_ N_ + 1), rfl, hN2_, mz_ch_inc hT_ (by omega), rfl⟩⟩
          · skip
            refine lv_aload_n hx hb dX8_drawings_290 rfl (lv_at hl 5 rfl) ?_
            refine lv_iload hx hb dX8_drawings_291 (lv_at hl 1 rfl) ?_
            refine lv_iload hx hb dX8_drawings_293 (lv_at hl 0 rfl) ?_
            have hPc := hP.sub (ws' := [(mo, .inr (8, [.int (nI n), .ref m1, .ref m2, .ref m3, .long ka, .long kb, .ref m6, .ref m7, .ref m8, .ref m9, .ref m10, .ref m11, .ref m12, .ref m13, .ref m14, .ref m15, .ref m16])), (m2, .inl (cI, 8, .inl fp)), (m16, .inl (cI, 8, .inl fm16_2))]) [0, 1, 6] rfl
            refine va_calli (va_runV (As := [.int (nI (T_ N_)), .int ((fm16_2 (T_ N_)) &&& x3_103)]) (rest := []) ⟨hx, hb, hml, hown, hts⟩ (mz_m_meetsLike l dC dI cI cJ cZ mo m1 m2 m3 m6 m7 m8 m9 m10 m11 m12 m13 m14 m15 m16 n ka kb fp fm16_2 (T_ N_) ((fm16_2 (T_ N_)) &&& x3_103) H (by first | assumption | omega) (by first | assumption | omega)) (cwV 2 hts gX8_drawings_X8_meetsLike rfl rfl rfl (by decide +kernel) ⟨Nat.le_of_ble_eq_true rfl, Nat.le_of_ble_eq_true rfl⟩) ⟨fun a U g mk q => mz_blP q, va_recv hK hPc (ci := 8) (q0 := 0) rfl rfl, fun U hU hW => ⟨rfl, hU, hPc, va_K.moved hW.alike hK, mz_nw hW hN⟩⟩ rfl rfl hl.1 rfl (lv_room (Nat.le_of_ble_eq_true rfl)) dX8_drawings_295 ⟨Nat.le_of_ble_eq_true rfl, Nat.le_of_ble_eq_true rfl⟩) hS (fun q _ h => h.elim) (fun q h => h.elim) (fun r_295 u t H1 locs ht hvm hw_295 hB hz1 hk1 hS => ?_)
            have hE : H = H1 := hB.symm.trans ht
            subst hE
            refine lv_if_eq (tgt := 103) hx hb dX8_drawings_298 (by decide) (fun c_298 => ?_) (fun c_298 => ?_)
            · skip
              exact ih_103 (mz_ms (mz_up T_ N_ (T_ N_ + 1)) n (N_ + 1)) (by rw [hk_]; exact mz_ms_stay (hT_ N_ (Nat.le_refl _)).2) _ _ _ ⟨x3_103, (nI N_), x1_103, fm12_103, (upd fm13_103 N_ ((fm13_103 N_) + 1)), fm14_103, fm15_103, (by first | assumption | omega), hP, hD, hS, lv_sub hl [2, 3, 4, 5] rfl, Or.inr ⟨N_, mz_up T_ N_ (T_ N_ + 1), rfl, hN2_, mz_ch_inc hT_ (by omega), rfl⟩⟩
            · skip
              refine lv_aload_n hx hb dX8_drawings_301 rfl (lv_at hl 5 rfl) ?_
              refine lv_iload hx hb dX8_drawings_302 (lv_at hl 1 rfl) ?_
              refine lv_iload_n hx hb dX8_drawings_304 rfl (lv_at hl 3 rfl) ?_
              have hPc := hP.sub (ws' := [(mo, .inr (8, [.int (nI n), .ref m1, .ref m2, .ref m3, .long ka, .long kb, .ref m6, .ref m7, .ref m8, .ref m9, .ref m10, .ref m11, .ref m12, .ref m13, .ref m14, .ref m15, .ref m16])), (m12, .inl (cI, 8, .inl fm12_103)), (m16, .inl (cI, 8, .inl fm16_2))]) [0, 2, 6] rfl
              refine va_calli (va_runV (As := [.int (nI (T_ N_)), .int (nI N_)]) (rest := []) ⟨hx, hb, hml, hown, hts⟩ (mz_m_isLeastOrder l dC dI cI cJ cZ mo m1 m2 m3 m6 m7 m8 m9 m10 m11 m12 m13 m14 m15 m16 n ka kb fm12_103 fm16_2 (T_ N_) N_ H (by first | assumption | omega) (by first | assumption | omega)) (cwV 2 hts gX8_drawings_X8_isLeastOrder rfl rfl rfl (by decide +kernel) ⟨Nat.le_of_ble_eq_true rfl, Nat.le_of_ble_eq_true rfl⟩) ⟨fun a U g mk q => mz_blP q, va_recv hK hPc (ci := 8) (q0 := 0) rfl rfl, fun U hU hW => ⟨rfl, hU, hPc, va_K.moved hW.alike hK, mz_nw hW hN⟩⟩ rfl rfl hl.1 rfl (lv_room (Nat.le_of_ble_eq_true rfl)) dX8_drawings_305 ⟨Nat.le_of_ble_eq_true rfl, Nat.le_of_ble_eq_true rfl⟩) hS (fun q _ h => h.elim) (fun q h => h.elim) (fun r_305 u t H1 locs ht hvm hw_305 hB hz1 hk1 hS => ?_)
              have hE : H = H1 := hB.symm.trans ht
              subst hE
              refine lv_if_ne (tgt := 314) hx hb dX8_drawings_308 (by decide) (fun c_308 => ?_) (fun c_308 => ?_)
              · skip
                refine lv_aload_n hx hb dX8_drawings_314 rfl (lv_at hl 5 rfl) ?_
                refine va_get (D := (dC, dI)) (ci := 8) (v := .ref m12) (C := RX8) (T := TX8) (N := 17) hx hb hts hiX8 hown hK hP 0 rfl rfl 12 (by decide) (hts (.fieldLink RX8 43 "MadeItSoModel" "order" "[I") (by decide +kernel)) (fun _ h9 => h9) rfl dX8_drawings_315 ?_
                refine lv_iload_n hx hb dX8_drawings_318 rfl (lv_at hl 3 rfl) ?_
                refine lv_iload hx hb dX8_drawings_319 (lv_at hl 1 rfl) ?_
                refine va_iast hx hb hK hP hD hS 2 0 rfl rfl (vp_in_nI (by omega) (by omega)) dX8_drawings_321 (fun H locs hP hD hS => ?_)
                rw [mz_cl (n := N_) (by omega)] at hP hD
                have hP : va_P (dC, dI) vwCl [(mo, .inr (8, [.int (nI n), .ref m1, .ref m2, .ref m3, .long ka, .long kb, .ref m6, .ref m7, .ref m8, .ref m9, .ref m10, .ref m11, .ref m12, .ref m13, .ref m14, .ref m15, .ref m16])), (m2, .inl (cI, 8, .inl fp)), (m12, .inl (cI, 8, .inl (upd fm12_103 N_ (nI (T_ N_))))), (m13, .inl (cI, 9, .inl (upd fm13_103 N_ ((fm13_103 N_) + 1)))), (m14, .inl (cI, 8, .inl fm14_103)), (m15, .inl (cZ, 64, .inl fm15_103)), (m16, .inl (cI, 8, .inl fm16_2))] H := hP
                have hD : va_D A [(mo, .inr (8, [.int (nI n), .ref m1, .ref m2, .ref m3, .long ka, .long kb, .ref m6, .ref m7, .ref m8, .ref m9, .ref m10, .ref m11, .ref m12, .ref m13, .ref m14, .ref m15, .ref m16])), (m2, .inl (cI, 8, .inl fp)), (m12, .inl (cI, 8, .inl (upd fm12_103 N_ (nI (T_ N_))))), (m13, .inl (cI, 9, .inl (upd fm13_103 N_ ((fm13_103 N_) + 1)))), (m14, .inl (cI, 8, .inl fm14_103)), (m15, .inl (cZ, 64, .inl fm15_103)), (m16, .inl (cI, 8, .inl fm16_2))] := hD
                refine lv_aload_n hx hb dX8_drawings_322 rfl (lv_at hl 5 rfl) ?_
                refine va_get (D := (dC, dI)) (ci := 8) (v := .ref m14) (C := RX8) (T := TX8) (N := 17) hx hb hts hiX8 hown hK hP 0 rfl rfl 14 (by decide) (hts (.fieldLink RX8 49 "MadeItSoModel" "parentsThere" "[I") (by decide +kernel)) (fun _ h9 => h9) rfl dX8_drawings_323 ?_
                refine lv_iload hx hb dX8_drawings_326 (lv_at hl 1 rfl) ?_
                refine lv_iload hx hb dX8_drawings_328 (lv_at hl 0 rfl) ?_
                refine va_iast hx hb hK hP hD hS 4 0 rfl rfl (vp_in_nI (by omega) (by omega)) dX8_drawings_330 (fun H locs hP hD hS => ?_)
                rw [mz_cl (n := T_ N_) (by omega)] at hP hD
                have hP : va_P (dC, dI) vwCl [(mo, .inr (8, [.int (nI n), .ref m1, .ref m2, .ref m3, .long ka, .long kb, .ref m6, .ref m7, .ref m8, .ref m9, .ref m10, .ref m11, .ref m12, .ref m13, .ref m14, .ref m15, .ref m16])), (m2, .inl (cI, 8, .inl fp)), (m12, .inl (cI, 8, .inl (upd fm12_103 N_ (nI (T_ N_))))), (m13, .inl (cI, 9, .inl (upd fm13_103 N_ ((fm13_103 N_) + 1)))), (m14, .inl (cI, 8, .inl (upd fm14_103 (T_ N_) ((fm16_2 (T_ N_)) &&& x3_103)))), (m15, .inl (cZ, 64, .inl fm15_103)), (m16, .inl (cI, 8, .inl fm16_2))] H := hP
                have hD : va_D A [(mo, .inr (8, [.int (nI n), .ref m1, .ref m2, .ref m3, .long ka, .long kb, .ref m6, .ref m7, .ref m8, .ref m9, .ref m10, .ref m11, .ref m12, .ref m13, .ref m14, .ref m15, .ref m16])), (m2, .inl (cI, 8, .inl fp)), (m12, .inl (cI, 8, .inl (upd fm12_103 N_ (nI (T_ N_))))), (m13, .inl (cI, 9, .inl (upd fm13_103 N_ ((fm13_103 N_) + 1)))), (m14, .inl (cI, 8, .inl (upd fm14_103 (T_ N_) ((fm16_2 (T_ N_)) &&& x3_103)))), (m15, .inl (cZ, 64, .inl fm15_103)), (m16, .inl (cI, 8, .inl fm16_2))] := hD
                refine lv_iload_n hx hb dX8_drawings_331 rfl (lv_at hl 2 rfl) ?_
                refine lv_iconst (v := 1) hx hb dX8_drawings_332 (by decide +kernel) ?_
                refine lv_iload hx hb dX8_drawings_333 (lv_at hl 1 rfl) ?_
                refine lv_ishl hx hb dX8_drawings_335 ?_
                refine lv_ior hx hb dX8_drawings_336 ?_
                refine lv_istore_n (lv' := [(3, .int (x3_103 ||| (1 <<< ((nI (T_ N_)) &&& 31)))), (5, .int ((fm16_2 (T_ N_)) &&& x3_103)), (4, .int (nI (T_ N_))), (2, .int (nI N_)), (1, .int x1_103), (0, .ref mo)]) hx hb dX8_drawings_337 rfl hl (by decide) rfl (fun ls hl => ?_)
                refine lv_iinc (v := (nI (N_ + 1))) (lv' := [(2, .int (nI (N_ + 1))), (3, .int (x3_103 ||| (1 <<< ((nI (T_ N_)) &&& 31)))), (5, .int ((fm16_2 (T_ N_)) &&& x3_103)), (4, .int (nI (T_ N_))), (1, .int x1_103), (0, .ref mo)]) hx hb dX8_drawings_338 hl (k := 3) rfl (nI_1 _) (by decide) rfl (fun ls hl => ?_)
                refine lv_aload_n hx hb dX8_drawings_341 rfl (lv_at hl 5 rfl) ?_
                refine va_get (D := (dC, dI)) (ci := 8) (v := .ref m13) (C := RX8) (T := TX8) (N := 17) hx hb hts hiX8 hown hK hP 0 rfl rfl 13 (by decide) (hts (.fieldLink RX8 46 "MadeItSoModel" "choice" "[I") (by decide +kernel)) (fun _ h9 => h9) rfl dX8_drawings_342 ?_
                refine lv_iload_n hx hb dX8_drawings_345 rfl (lv_at hl 0 rfl) ?_
                refine lv_iconst (v := 0) hx hb dX8_drawings_346 (by decide +kernel) ?_
                refine va_iast hx hb hK hP hD hS 3 0 rfl rfl (vp_in_nI (by omega) (by omega)) dX8_drawings_347 (fun H locs hP hD hS => ?_)
                rw [mz_cl (n := N_ + 1) (by omega)] at hP hD
                have hP : va_P (dC, dI) vwCl [(mo, .inr (8, [.int (nI n), .ref m1, .ref m2, .ref m3, .long ka, .long kb, .ref m6, .ref m7, .ref m8, .ref m9, .ref m10, .ref m11, .ref m12, .ref m13, .ref m14, .ref m15, .ref m16])), (m2, .inl (cI, 8, .inl fp)), (m12, .inl (cI, 8, .inl (upd fm12_103 N_ (nI (T_ N_))))), (m13, .inl (cI, 9, .inl (upd (upd fm13_103 N_ ((fm13_103 N_) + 1)) (N_ + 1) 0))), (m14, .inl (cI, 8, .inl (upd fm14_103 (T_ N_) ((fm16_2 (T_ N_)) &&& x3_103)))), (m15, .inl (cZ, 64, .inl fm15_103)), (m16, .inl (cI, 8, .inl fm16_2))] H := hP
                have hD : va_D A [(mo, .inr (8, [.int (nI n), .ref m1, .ref m2, .ref m3, .long ka, .long kb, .ref m6, .ref m7, .ref m8, .ref m9, .ref m10, .ref m11, .ref m12, .ref m13, .ref m14, .ref m15, .ref m16])), (m2, .inl (cI, 8, .inl fp)), (m12, .inl (cI, 8, .inl (upd fm12_103 N_ (nI (T_ N_))))), (m13, .inl (cI, 9, .inl (upd (upd fm13_103 N_ ((fm13_103 N_) + 1)) (N_ + 1) 0))), (m14, .inl (cI, 8, .inl (upd fm14_103 (T_ N_) ((fm16_2 (T_ N_)) &&& x3_103)))), (m15, .inl (cZ, 64, .inl fm15_103)), (m16, .inl (cI, 8, .inl fm16_2))] := hD
                refine lv_goto (tgt := 103) hx hb dX8_drawings_348 (by decide) ?_
                exact ih_103 (mz_ms (mz_up (mz_up T_ N_ (T_ N_ + 1)) (N_ + 1) 0) n (N_ + 2)) (by rw [hk_]; exact mz_ms_push (hT_ N_ (Nat.le_refl _)).2 hn (by omega)) _ _ _ ⟨(x3_103 ||| (1 <<< ((nI (T_ N_)) &&& 31))), (nI (N_ + 1)), x1_103, (upd fm12_103 N_ (nI (T_ N_))), (upd (upd fm13_103 N_ ((fm13_103 N_) + 1)) (N_ + 1) 0), (upd fm14_103 (T_ N_) ((fm16_2 (T_ N_)) &&& x3_103)), fm15_103, (by first | assumption | omega), hP, hD, hS, lv_sub hl [1, 0, 4, 5] rfl, Or.inr ⟨N_ + 1, mz_up (mz_up T_ N_ (T_ N_ + 1)) (N_ + 1) 0, rfl, by omega, mz_ch_push (mz_ch_inc hT_ (by omega)), rfl⟩⟩
              · skip
                refine lv_goto (tgt := 103) hx hb dX8_drawings_311 (by decide) ?_
                exact ih_103 (mz_ms (mz_up T_ N_ (T_ N_ + 1)) n (N_ + 1)) (by rw [hk_]; exact mz_ms_stay (hT_ N_ (Nat.le_refl _)).2) _ _ _ ⟨x3_103, (nI N_), x1_103, fm12_103, (upd fm13_103 N_ ((fm13_103 N_) + 1)), fm14_103, fm15_103, (by first | assumption | omega), hP, hD, hS, lv_sub hl [2, 3, 4, 5] rfl, Or.inr ⟨N_, mz_up T_ N_ (T_ N_ + 1), rfl, hN2_, mz_ch_inc hT_ (by omega), rfl⟩⟩
        · skip
          have d_233 : T_ N_ = n := (nI_eq (a := T_ N_) (b := n) (by omega) (by omega)).mp c_233
          rcases mz_zs N_ with hz_ | ⟨E_, hz_⟩
          · subst hz_
            refine lv_iinc (v := (-1)) (lv' := [(2, .int (-1)), (4, .int (nI (T_ 0))), (3, .int x3_103), (1, .int x1_103), (0, .ref mo)]) hx hb dX8_drawings_236 hl (k := 2) rfl (by decide +kernel) (by decide) rfl (fun ls hl => ?_)
            refine lv_iload_n hx hb dX8_drawings_239 rfl (lv_at hl 0 rfl) ?_
            refine lv_if_lt (tgt := 103) hx hb dX8_drawings_240 (by decide) (fun _ => ?_) (fun c_240 => absurd (by decide +kernel) c_240)
            exact ih_103 0 (by rw [hk_]; exact Nat.lt_of_le_of_lt (Nat.zero_le _) (mz_ms_pop (hT_ _ (Nat.le_refl _)).2)) _ _ _ ⟨x3_103, (-1), x1_103, fm12_103, fm13_103, fm14_103, fm15_103, (by first | assumption | omega), hP, hD, hS, lv_sub hl [2, 0, 3, 4] rfl, Or.inl rfl⟩
          subst hz_
          refine lv_iinc (v := (nI E_)) (lv' := [(2, .int (nI E_)), (4, .int (nI (T_ (E_ + 1)))), (3, .int x3_103), (1, .int x1_103), (0, .ref mo)]) hx hb dX8_drawings_236 hl (k := 2) rfl (pk_m1 _) (by decide) rfl (fun ls hl => ?_)
          refine lv_iload_n hx hb dX8_drawings_239 rfl (lv_at hl 0 rfl) ?_
          refine lv_if_lt (tgt := 103) hx hb dX8_drawings_240 (by decide) (fun c_240 => absurd c_240 (nI_pos (by omega))) (fun _ => ?_)
          refine lv_iload_n hx hb dX8_drawings_243 rfl (lv_at hl 2 rfl) ?_
          refine lv_iconst (v := 1) hx hb dX8_drawings_244 (by decide +kernel) ?_
          refine lv_aload_n hx hb dX8_drawings_245 rfl (lv_at hl 4 rfl) ?_
          refine va_get (D := (dC, dI)) (ci := 8) (v := .ref m12) (C := RX8) (T := TX8) (N := 17) hx hb hts hiX8 hown hK hP 0 rfl rfl 12 (by decide) (hts (.fieldLink RX8 43 "MadeItSoModel" "order" "[I") (by decide +kernel)) (fun _ h9 => h9) rfl dX8_drawings_246 ?_
          refine lv_iload_n hx hb dX8_drawings_249 rfl (lv_at hl 0 rfl) ?_
          refine va_iald hx hb hK hP 2 0 rfl rfl (vp_in_nI (by omega) (by omega)) dX8_drawings_250 ?_
          refine mz_ti (y := (fm12_103 E_)) (by rw [mz_cl (by omega)]) ?_
          refine lv_ishl hx hb dX8_drawings_251 ?_
          refine lv_iconst (v := (-1)) hx hb dX8_drawings_252 (by decide +kernel) ?_
          refine lv_ixor hx hb dX8_drawings_253 ?_
          refine lv_iand hx hb dX8_drawings_254 ?_
          refine lv_istore_n (lv' := [(3, .int (x3_103 &&& ((1 <<< ((fm12_103 E_) &&& 31)) ^^^ (-1)))), (2, .int (nI E_)), (4, .int (nI (T_ (E_ + 1)))), (1, .int x1_103), (0, .ref mo)]) hx hb dX8_drawings_255 rfl hl (by decide) rfl (fun ls hl => ?_)
          refine lv_goto (tgt := 103) hx hb dX8_drawings_256 (by decide) ?_
          exact ih_103 (mz_ms T_ n (E_ + 1)) (by rw [hk_]; exact mz_ms_pop (hT_ (E_ + 1) (Nat.le_refl _)).2) _ _ _ ⟨(x3_103 &&& ((1 <<< ((fm12_103 E_) &&& 31)) ^^^ (-1))), (nI E_), x1_103, fm12_103, fm13_103, fm14_103, fm15_103, (by first | assumption | omega), hP, hD, hS, lv_sub hl [0, 1, 3, 4] rfl, Or.inr ⟨E_, T_, rfl, by omega, fun i hi => hT_ i (by omega), rfl⟩⟩
      · skip
        have d_112 : N_ = n := (nI_eq (a := N_) (b := n) (by omega) (by omega)).mp c_112
        obtain ⟨v_115, ev_115⟩ : ∃ y : Int32, y = x1_103 + Int32.ofInt 1 := ⟨_, rfl⟩
        refine lv_iinc (v := v_115) (lv' := [(1, .int v_115), (3, .int x3_103), (2, .int (nI N_)), (0, .ref mo)]) hx hb dX8_drawings_115 hl (k := 2) rfl ev_115.symm (by decide) rfl (fun ls hl => ?_)
        refine lv_iconst (v := 0) hx hb dX8_drawings_118 (by decide +kernel) ?_
        refine lv_istore (lv' := [(4, .int 0), (1, .int v_115), (3, .int x3_103), (2, .int (nI N_)), (0, .ref mo)]) hx hb dX8_drawings_119 hl (by decide) rfl (fun ls hl => ?_)
        refine mz_loopU (fun k H locs ls => ∃ (i_121 : Nat), ∃ (fm15_121 : Nat → Int32), i_121 ≤ n ∧ (mz_bl fm15_121) ∧ va_P (dC, dI) vwCl [(mo, .inr (8, [.int (nI n), .ref m1, .ref m2, .ref m3, .long ka, .long kb, .ref m6, .ref m7, .ref m8, .ref m9, .ref m10, .ref m11, .ref m12, .ref m13, .ref m14, .ref m15, .ref m16])), (m2, .inl (cI, 8, .inl fp)), (m12, .inl (cI, 8, .inl fm12_103)), (m13, .inl (cI, 9, .inl fm13_103)), (m14, .inl (cI, 8, .inl fm14_103)), (m15, .inl (cZ, 64, .inl fm15_121)), (m16, .inl (cI, 8, .inl fm16_2))] H ∧ va_D A [(mo, .inr (8, [.int (nI n), .ref m1, .ref m2, .ref m3, .long ka, .long kb, .ref m6, .ref m7, .ref m8, .ref m9, .ref m10, .ref m11, .ref m12, .ref m13, .ref m14, .ref m15, .ref m16])), (m2, .inl (cI, 8, .inl fp)), (m12, .inl (cI, 8, .inl fm12_103)), (m13, .inl (cI, 9, .inl fm13_103)), (m14, .inl (cI, 8, .inl fm14_103)), (m15, .inl (cZ, 64, .inl fm15_121)), (m16, .inl (cI, 8, .inl fm16_2))] ∧ va_S A s.heap H locs ∧ lv_has ls 6 [(4, .int (nI i_121)), (1, .int v_115), (3, .int x3_103), (2, .int (nI N_)), (0, .ref mo)] ∧ k = n - i_121) ?_ _ _ _ _ ⟨0, fm15_103, by omega, (by first | assumption | omega), hP, hD, hS, lv_sub hl [0, 1, 2, 3, 4] rfl, rfl⟩
        intro k_121 H locs ls hI_121 ih_121
        obtain ⟨i_121, fm15_121, hi_121, hb_121, hP, hD, hS, hl, hk_121⟩ := hI_121
        refine lv_iload hx hb dX8_drawings_121 (lv_at hl 0 rfl) ?_
        refine lv_aload_n hx hb dX8_drawings_123 rfl (lv_at hl 4 rfl) ?_
        refine va_get (D := (dC, dI)) (ci := 8) (v := .int (nI n)) (C := RX8) (T := TX8) (N := 17) hx hb hts hiX8 hown hK hP 0 rfl rfl 0 (by decide) (hts (.fieldLink RX8 58 "MadeItSoModel" "many" "I") (by decide +kernel)) (fun _ h9 => h9) rfl dX8_drawings_124 ?_
        refine lv_icmp_ge (tgt := 204) hx hb dX8_drawings_127 (by decide) (fun c_127 => ?_) (fun c_127 => ?_)
        · skip
          have d_127 : n ≤ i_121 := (nI_leI (a := n) (b := i_121) (by omega) (by omega)).mp c_127
          refine lv_iload_n hx hb dX8_drawings_204 rfl (lv_at hl 3 rfl) ?_
          refine lv_aload_n hx hb dX8_drawings_205 rfl (lv_at hl 4 rfl) ?_
          refine va_get (D := (dC, dI)) (ci := 8) (v := .int (nI n)) (C := RX8) (T := TX8) (N := 17) hx hb hts hiX8 hown hK hP 0 rfl rfl 0 (by decide) (hts (.fieldLink RX8 58 "MadeItSoModel" "many" "I") (by decide +kernel)) (fun _ h9 => h9) rfl dX8_drawings_206 ?_
          refine lv_icmp_ne (tgt := 219) hx hb dX8_drawings_209 (by decide) (fun c_209 => absurd c_112 c_209) (fun _ => ?_)
          refine lv_aload_n hx hb dX8_drawings_212 rfl (lv_at hl 4 rfl) ?_
          refine va_get (D := (dC, dI)) (ci := 8) (v := .int (nI n)) (C := RX8) (T := TX8) (N := 17) hx hb hts hiX8 hown hK hP 0 rfl rfl 0 (by decide) (hts (.fieldLink RX8 58 "MadeItSoModel" "many" "I") (by decide +kernel)) (fun _ h9 => h9) rfl dX8_drawings_213 ?_
          refine lv_goto (tgt := 225) hx hb dX8_drawings_216 (by decide) ?_
          refine lv_istore (lv' := [(4, .int (nI n)), (1, .int v_115), (3, .int x3_103), (2, .int (nI N_)), (0, .ref mo)]) hx hb dX8_drawings_225 hl (by decide) rfl (fun ls hl => ?_)
          refine lv_iload hx hb dX8_drawings_227 (lv_at hl 0 rfl) ?_
          refine lv_aload_n hx hb dX8_drawings_229 rfl (lv_at hl 4 rfl) ?_
          refine va_get (D := (dC, dI)) (ci := 8) (v := .int (nI n)) (C := RX8) (T := TX8) (N := 17) hx hb hts hiX8 hown hK hP 0 rfl rfl 0 (by decide) (hts (.fieldLink RX8 58 "MadeItSoModel" "many" "I") (by decide +kernel)) (fun _ h9 => h9) rfl dX8_drawings_230 ?_
          refine lv_icmp_ne (tgt := 259) hx hb dX8_drawings_233 (by decide) (fun c_233 => absurd rfl c_233) (fun _ => ?_)
          rcases mz_zs N_ with hz_ | ⟨E_, hz_⟩
          · subst hz_
            refine lv_iinc (v := (-1)) (lv' := [(2, .int (-1)), (4, .int (nI n)), (1, .int v_115), (3, .int x3_103), (0, .ref mo)]) hx hb dX8_drawings_236 hl (k := 3) rfl (by decide +kernel) (by decide) rfl (fun ls hl => ?_)
            refine lv_iload_n hx hb dX8_drawings_239 rfl (lv_at hl 0 rfl) ?_
            refine lv_if_lt (tgt := 103) hx hb dX8_drawings_240 (by decide) (fun _ => ?_) (fun c_240 => absurd (by decide +kernel) c_240)
            exact ih_103 0 (by rw [hk_]; exact Nat.lt_of_le_of_lt (Nat.zero_le _) (mz_ms_pop (hT_ _ (Nat.le_refl _)).2)) _ _ _ ⟨x3_103, (-1), v_115, fm12_103, fm13_103, fm14_103, fm15_121, (by first | assumption | omega), hP, hD, hS, lv_sub hl [3, 0, 2, 4] rfl, Or.inl rfl⟩
          subst hz_
          refine lv_iinc (v := (nI E_)) (lv' := [(2, .int (nI E_)), (4, .int (nI n)), (1, .int v_115), (3, .int x3_103), (0, .ref mo)]) hx hb dX8_drawings_236 hl (k := 3) rfl (pk_m1 _) (by decide) rfl (fun ls hl => ?_)
          refine lv_iload_n hx hb dX8_drawings_239 rfl (lv_at hl 0 rfl) ?_
          refine lv_if_lt (tgt := 103) hx hb dX8_drawings_240 (by decide) (fun c_240 => absurd c_240 (nI_pos (by omega))) (fun _ => ?_)
          refine lv_iload_n hx hb dX8_drawings_243 rfl (lv_at hl 3 rfl) ?_
          refine lv_iconst (v := 1) hx hb dX8_drawings_244 (by decide +kernel) ?_
          refine lv_aload_n hx hb dX8_drawings_245 rfl (lv_at hl 4 rfl) ?_
          refine va_get (D := (dC, dI)) (ci := 8) (v := .ref m12) (C := RX8) (T := TX8) (N := 17) hx hb hts hiX8 hown hK hP 0 rfl rfl 12 (by decide) (hts (.fieldLink RX8 43 "MadeItSoModel" "order" "[I") (by decide +kernel)) (fun _ h9 => h9) rfl dX8_drawings_246 ?_
          refine lv_iload_n hx hb dX8_drawings_249 rfl (lv_at hl 0 rfl) ?_
          refine va_iald hx hb hK hP 2 0 rfl rfl (vp_in_nI (by omega) (by omega)) dX8_drawings_250 ?_
          refine mz_ti (y := (fm12_103 E_)) (by rw [mz_cl (by omega)]) ?_
          refine lv_ishl hx hb dX8_drawings_251 ?_
          refine lv_iconst (v := (-1)) hx hb dX8_drawings_252 (by decide +kernel) ?_
          refine lv_ixor hx hb dX8_drawings_253 ?_
          refine lv_iand hx hb dX8_drawings_254 ?_
          refine lv_istore_n (lv' := [(3, .int (x3_103 &&& ((1 <<< ((fm12_103 E_) &&& 31)) ^^^ (-1)))), (2, .int (nI E_)), (4, .int (nI n)), (1, .int v_115), (0, .ref mo)]) hx hb dX8_drawings_255 rfl hl (by decide) rfl (fun ls hl => ?_)
          refine lv_goto (tgt := 103) hx hb dX8_drawings_256 (by decide) ?_
          exact ih_103 (mz_ms T_ n (E_ + 1)) (by rw [hk_]; exact mz_ms_pop (hT_ (E_ + 1) (Nat.le_refl _)).2) _ _ _ ⟨(x3_103 &&& ((1 <<< ((fm12_103 E_) &&& 31)) ^^^ (-1))), (nI E_), v_115, fm12_103, fm13_103, fm14_103, fm15_121, (by first | assumption | omega), hP, hD, hS, lv_sub hl [0, 1, 3, 4] rfl, Or.inr ⟨E_, T_, rfl, by omega, fun i hi => hT_ i (by omega), rfl⟩⟩
        · skip
          have d_127 : ¬ n ≤ i_121 := fun h => c_127 ((nI_leI (a := n) (b := i_121) (by omega) (by omega)).mpr h)
          refine lv_iconst (v := 0) hx hb dX8_drawings_130 (by decide +kernel) ?_
          refine lv_istore (lv' := [(5, .int 0), (4, .int (nI i_121)), (1, .int v_115), (3, .int x3_103), (2, .int (nI N_)), (0, .ref mo)]) hx hb dX8_drawings_131 hl (by decide) rfl (fun ls hl => ?_)
          refine mz_loopU (fun k H locs ls => ∃ (i_133 : Nat), ∃ (fm15_133 : Nat → Int32), i_133 ≤ n ∧ (mz_bl fm15_133) ∧ va_P (dC, dI) vwCl [(mo, .inr (8, [.int (nI n), .ref m1, .ref m2, .ref m3, .long ka, .long kb, .ref m6, .ref m7, .ref m8, .ref m9, .ref m10, .ref m11, .ref m12, .ref m13, .ref m14, .ref m15, .ref m16])), (m2, .inl (cI, 8, .inl fp)), (m12, .inl (cI, 8, .inl fm12_103)), (m13, .inl (cI, 9, .inl fm13_103)), (m14, .inl (cI, 8, .inl fm14_103)), (m15, .inl (cZ, 64, .inl fm15_133)), (m16, .inl (cI, 8, .inl fm16_2))] H ∧ va_D A [(mo, .inr (8, [.int (nI n), .ref m1, .ref m2, .ref m3, .long ka, .long kb, .ref m6, .ref m7, .ref m8, .ref m9, .ref m10, .ref m11, .ref m12, .ref m13, .ref m14, .ref m15, .ref m16])), (m2, .inl (cI, 8, .inl fp)), (m12, .inl (cI, 8, .inl fm12_103)), (m13, .inl (cI, 9, .inl fm13_103)), (m14, .inl (cI, 8, .inl fm14_103)), (m15, .inl (cZ, 64, .inl fm15_133)), (m16, .inl (cI, 8, .inl fm16_2))] ∧ va_S A s.heap H locs ∧ lv_has ls 6 [(5, .int (nI i_133)), (4, .int (nI i_121)), (1, .int v_115), (3, .int x3_103), (2, .int (nI N_)), (0, .ref mo)] ∧ k = n - i_133) ?_ _ _ _ _ ⟨0, fm15_121, by omega, (by first | assumption | omega), hP, hD, hS, lv_sub hl [0, 1, 2, 3, 4, 5] rfl, rfl⟩
          intro k_133 H locs ls hI_133 ih_133
          obtain ⟨i_133, fm15_133, hi_133, hb_133, hP, hD, hS, hl, hk_133⟩ := hI_133
          refine lv_iload hx hb dX8_drawings_133 (lv_at hl 0 rfl) ?_
          refine lv_aload_n hx hb dX8_drawings_135 rfl (lv_at hl 5 rfl) ?_
          refine va_get (D := (dC, dI)) (ci := 8) (v := .int (nI n)) (C := RX8) (T := TX8) (N := 17) hx hb hts hiX8 hown hK hP 0 rfl rfl 0 (by decide) (hts (.fieldLink RX8 58 "MadeItSoModel" "many" "I") (by decide +kernel)) (fun _ h9 => h9) rfl dX8_drawings_136 ?_
          refine lv_icmp_ge (tgt := 198) hx hb dX8_drawings_139 (by decide) (fun c_139 => ?_) (fun c_139 => ?_)
          · skip
            have d_139 : n ≤ i_133 := (nI_leI (a := n) (b := i_133) (by omega) (by omega)).mp c_139
            refine lv_iinc (v := (nI (i_121 + 1))) (lv' := [(4, .int (nI (i_121 + 1))), (5, .int (nI i_133)), (1, .int v_115), (3, .int x3_103), (2, .int (nI N_)), (0, .ref mo)]) hx hb dX8_drawings_198 hl (k := 1) rfl (nI_1 _) (by decide) rfl (fun ls hl => ?_)
            refine lv_goto (tgt := 121) hx hb dX8_drawings_201 (by decide) ?_
            exact ih_121 _ (by omega) _ _ _ ⟨(i_121 + 1), fm15_133, by omega, (by first | assumption | omega), hP, hD, hS, lv_sub hl [0, 2, 3, 4, 5] rfl, rfl⟩
          · skip
            have d_139 : ¬ n ≤ i_133 := fun h => c_139 ((nI_leI (a := n) (b := i_133) (by omega) (by omega)).mpr h)
            refine lv_aload_n hx hb dX8_drawings_142 rfl (lv_at hl 5 rfl) ?_
            refine va_get (D := (dC, dI)) (ci := 8) (v := .ref m15) (C := RX8) (T := TX8) (N := 17) hx hb hts hiX8 hown hK hP 0 rfl rfl 15 (by decide) (hts (.fieldLink RX8 52 "MadeItSoModel" "isAlways" "[Z") (by decide +kernel)) (fun _ h9 => h9) rfl dX8_drawings_143 ?_
            refine lv_bipush (v := 8) hx hb dX8_drawings_146 (by decide +kernel) ?_
            refine lv_iload hx hb dX8_drawings_148 (lv_at hl 1 rfl) ?_
            refine lv_imul hx hb dX8_drawings_150 ?_
            refine mz_ti (y := (nI (8 * i_121))) (pk_mul _ _) ?_
            refine lv_iload hx hb dX8_drawings_151 (lv_at hl 0 rfl) ?_
            refine lv_iadd hx hb dX8_drawings_153 ?_
            refine mz_ti (y := (nI (8 * i_121 + i_133))) (nI_add _ _) ?_
            refine lv_aload_n hx hb dX8_drawings_154 rfl (lv_at hl 5 rfl) ?_
            refine va_get (D := (dC, dI)) (ci := 8) (v := .ref m15) (C := RX8) (T := TX8) (N := 17) hx hb hts hiX8 hown hK hP 0 rfl rfl 15 (by decide) (hts (.fieldLink RX8 52 "MadeItSoModel" "isAlways" "[Z") (by decide +kernel)) (fun _ h9 => h9) rfl dX8_drawings_155 ?_
            refine lv_bipush (v := 8) hx hb dX8_drawings_158 (by decide +kernel) ?_
            refine lv_iload hx hb dX8_drawings_160 (lv_at hl 1 rfl) ?_
            refine lv_imul hx hb dX8_drawings_162 ?_
            refine mz_ti (y := (nI (8 * i_121))) (pk_mul _ _) ?_
            refine lv_iload hx hb dX8_drawings_163 (lv_at hl 0 rfl) ?_
            refine lv_iadd hx hb dX8_drawings_165 ?_
            refine mz_ti (y := (nI (8 * i_121 + i_133))) (nI_add _ _) ?_
            refine va_zald hx hb hK hP 5 2 rfl rfl (vp_in_nI (by omega) (by omega)) dX8_drawings_166 ?_
            refine mz_ti (y := (fm15_133 (8 * i_121 + i_133))) (by rw [mz_cl (by omega)]) ?_
            refine lv_if_eq (tgt := 190) hx hb dX8_drawings_167 (by decide) (fun c_167 => ?_) (fun c_167 => ?_)
            · skip
              refine lv_iconst (v := 0) hx hb dX8_drawings_190 (by decide +kernel) ?_
              refine va_zast hx hb hK hP hD hS 5 2 rfl rfl (vp_in_nI (by omega) (by omega)) dX8_drawings_191 (fun H locs hP hD hS => ?_)
              rw [mz_cl (n := 8 * i_121 + i_133) (by omega)] at hP hD
              have hP : va_P (dC, dI) vwCl [(mo, .inr (8, [.int (nI n), .ref m1, .ref m2, .ref m3, .long ka, .long kb, .ref m6, .ref m7, .ref m8, .ref m9, .ref m10, .ref m11, .ref m12, .ref m13, .ref m14, .ref m15, .ref m16])), (m2, .inl (cI, 8, .inl fp)), (m12, .inl (cI, 8, .inl fm12_103)), (m13, .inl (cI, 9, .inl fm13_103)), (m14, .inl (cI, 8, .inl fm14_103)), (m15, .inl (cZ, 64, .inl (upd fm15_133 (8 * i_121 + i_133) (vp_nar .boolean 0)))), (m16, .inl (cI, 8, .inl fm16_2))] H := hP
              have hD : va_D A [(mo, .inr (8, [.int (nI n), .ref m1, .ref m2, .ref m3, .long ka, .long kb, .ref m6, .ref m7, .ref m8, .ref m9, .ref m10, .ref m11, .ref m12, .ref m13, .ref m14, .ref m15, .ref m16])), (m2, .inl (cI, 8, .inl fp)), (m12, .inl (cI, 8, .inl fm12_103)), (m13, .inl (cI, 9, .inl fm13_103)), (m14, .inl (cI, 8, .inl fm14_103)), (m15, .inl (cZ, 64, .inl (upd fm15_133 (8 * i_121 + i_133) (vp_nar .boolean 0)))), (m16, .inl (cI, 8, .inl fm16_2))] := hD
              refine lv_iinc (v := (nI (i_133 + 1))) (lv' := [(5, .int (nI (i_133 + 1))), (4, .int (nI i_121)), (1, .int v_115), (3, .int x3_103), (2, .int (nI N_)), (0, .ref mo)]) hx hb dX8_drawings_192 hl (k := 0) rfl (nI_1 _) (by decide) rfl (fun ls hl => ?_)
              refine lv_goto (tgt := 133) hx hb dX8_drawings_195 (by decide) ?_
              exact ih_133 _ (by omega) _ _ _ ⟨(i_133 + 1), (upd fm15_133 (8 * i_121 + i_133) (vp_nar .boolean 0)), by omega, (by first | exact mz_bl_up hb_133 (Or.inr rfl) | exact mz_bl_up hb_133 (Or.inl rfl)), hP, hD, hS, lv_sub hl [0, 1, 2, 3, 4, 5] rfl, rfl⟩
            · skip
              refine lv_aload_n hx hb dX8_drawings_170 rfl (lv_at hl 5 rfl) ?_
              refine va_get (D := (dC, dI)) (ci := 8) (v := .ref m14) (C := RX8) (T := TX8) (N := 17) hx hb hts hiX8 hown hK hP 0 rfl rfl 14 (by decide) (hts (.fieldLink RX8 49 "MadeItSoModel" "parentsThere" "[I") (by decide +kernel)) (fun _ h9 => h9) rfl dX8_drawings_171 ?_
              refine lv_iload hx hb dX8_drawings_174 (lv_at hl 0 rfl) ?_
              refine va_iald hx hb hK hP 4 0 rfl rfl (vp_in_nI (by omega) (by omega)) dX8_drawings_176 ?_
              refine mz_ti (y := (fm14_103 i_133)) (by rw [mz_cl (by omega)]) ?_
              refine lv_iload hx hb dX8_drawings_177 (lv_at hl 1 rfl) ?_
              refine lv_ishr hx hb dX8_drawings_179 ?_
              refine lv_iconst (v := 1) hx hb dX8_drawings_180 (by decide +kernel) ?_
              refine lv_iand hx hb dX8_drawings_181 ?_
              refine lv_iconst (v := 1) hx hb dX8_drawings_182 (by decide +kernel) ?_
              refine lv_icmp_ne (tgt := 190) hx hb dX8_drawings_183 (by decide) (fun c_183 => ?_) (fun c_183 => ?_)
              · skip
                refine lv_iconst (v := 0) hx hb dX8_drawings_190 (by decide +kernel) ?_
                refine va_zast hx hb hK hP hD hS 5 2 rfl rfl (vp_in_nI (by omega) (by omega)) dX8_drawings_191 (fun H locs hP hD hS => ?_)
                rw [mz_cl (n := 8 * i_121 + i_133) (by omega)] at hP hD
                have hP : va_P (dC, dI) vwCl [(mo, .inr (8, [.int (nI n), .ref m1, .ref m2, .ref m3, .long ka, .long kb, .ref m6, .ref m7, .ref m8, .ref m9, .ref m10, .ref m11, .ref m12, .ref m13, .ref m14, .ref m15, .ref m16])), (m2, .inl (cI, 8, .inl fp)), (m12, .inl (cI, 8, .inl fm12_103)), (m13, .inl (cI, 9, .inl fm13_103)), (m14, .inl (cI, 8, .inl fm14_103)), (m15, .inl (cZ, 64, .inl (upd fm15_133 (8 * i_121 + i_133) (vp_nar .boolean 0)))), (m16, .inl (cI, 8, .inl fm16_2))] H := hP
                have hD : va_D A [(mo, .inr (8, [.int (nI n), .ref m1, .ref m2, .ref m3, .long ka, .long kb, .ref m6, .ref m7, .ref m8, .ref m9, .ref m10, .ref m11, .ref m12, .ref m13, .ref m14, .ref m15, .ref m16])), (m2, .inl (cI, 8, .inl fp)), (m12, .inl (cI, 8, .inl fm12_103)), (m13, .inl (cI, 9, .inl fm13_103)), (m14, .inl (cI, 8, .inl fm14_103)), (m15, .inl (cZ, 64, .inl (upd fm15_133 (8 * i_121 + i_133) (vp_nar .boolean 0)))), (m16, .inl (cI, 8, .inl fm16_2))] := hD
                refine lv_iinc (v := (nI (i_133 + 1))) (lv' := [(5, .int (nI (i_133 + 1))), (4, .int (nI i_121)), (1, .int v_115), (3, .int x3_103), (2, .int (nI N_)), (0, .ref mo)]) hx hb dX8_drawings_192 hl (k := 0) rfl (nI_1 _) (by decide) rfl (fun ls hl => ?_)
                refine lv_goto (tgt := 133) hx hb dX8_drawings_195 (by decide) ?_
                exact ih_133 _ (by omega) _ _ _ ⟨(i_133 + 1), (upd fm15_133 (8 * i_121 + i_133) (vp_nar .boolean 0)), by omega, (by first | exact mz_bl_up hb_133 (Or.inr rfl) | exact mz_bl_up hb_133 (Or.inl rfl)), hP, hD, hS, lv_sub hl [0, 1, 2, 3, 4, 5] rfl, rfl⟩
              · skip
                refine lv_iconst (v := 1) hx hb dX8_drawings_186 (by decide +kernel) ?_
                refine lv_goto (tgt := 191) hx hb dX8_drawings_187 (by decide) ?_
                refine va_zast hx hb hK hP hD hS 5 2 rfl rfl (vp_in_nI (by omega) (by omega)) dX8_drawings_191 (fun H locs hP hD hS => ?_)
                rw [mz_cl (n := 8 * i_121 + i_133) (by omega)] at hP hD
                have hP : va_P (dC, dI) vwCl [(mo, .inr (8, [.int (nI n), .ref m1, .ref m2, .ref m3, .long ka, .long kb, .ref m6, .ref m7, .ref m8, .ref m9, .ref m10, .ref m11, .ref m12, .ref m13, .ref m14, .ref m15, .ref m16])), (m2, .inl (cI, 8, .inl fp)), (m12, .inl (cI, 8, .inl fm12_103)), (m13, .inl (cI, 9, .inl fm13_103)), (m14, .inl (cI, 8, .inl fm14_103)), (m15, .inl (cZ, 64, .inl (upd fm15_133 (8 * i_121 + i_133) (vp_nar .boolean 1)))), (m16, .inl (cI, 8, .inl fm16_2))] H := hP
                have hD : va_D A [(mo, .inr (8, [.int (nI n), .ref m1, .ref m2, .ref m3, .long ka, .long kb, .ref m6, .ref m7, .ref m8, .ref m9, .ref m10, .ref m11, .ref m12, .ref m13, .ref m14, .ref m15, .ref m16])), (m2, .inl (cI, 8, .inl fp)), (m12, .inl (cI, 8, .inl fm12_103)), (m13, .inl (cI, 9, .inl fm13_103)), (m14, .inl (cI, 8, .inl fm14_103)), (m15, .inl (cZ, 64, .inl (upd fm15_133 (8 * i_121 + i_133) (vp_nar .boolean 1)))), (m16, .inl (cI, 8, .inl fm16_2))] := hD
                refine lv_iinc (v := (nI (i_133 + 1))) (lv' := [(5, .int (nI (i_133 + 1))), (4, .int (nI i_121)), (1, .int v_115), (3, .int x3_103), (2, .int (nI N_)), (0, .ref mo)]) hx hb dX8_drawings_192 hl (k := 0) rfl (nI_1 _) (by decide) rfl (fun ls hl => ?_)
                refine lv_goto (tgt := 133) hx hb dX8_drawings_195 (by decide) ?_
                exact ih_133 _ (by omega) _ _ _ ⟨(i_133 + 1), (upd fm15_133 (8 * i_121 + i_133) (vp_nar .boolean 1)), by omega, (by first | exact mz_bl_up hb_133 (Or.inr rfl) | exact mz_bl_up hb_133 (Or.inl rfl)), hP, hD, hS, lv_sub hl [0, 1, 2, 3, 4, 5] rfl, rfl⟩
    · skip
      have d_74 : ¬ 64 ≤ i_71 := fun h => c_74 ((nI_leI (a := 64) (b := i_71) (by omega) (by omega)).mpr h)
      refine lv_aload_n hx hb dX8_drawings_77 rfl (lv_at hl 1 rfl) ?_
      refine va_get (D := (dC, dI)) (ci := 8) (v := .ref m15) (C := RX8) (T := TX8) (N := 17) hx hb hts hiX8 hown hK hP 0 rfl rfl 15 (by decide) (hts (.fieldLink RX8 52 "MadeItSoModel" "isAlways" "[Z") (by decide +kernel)) (fun _ h9 => h9) rfl dX8_drawings_78 ?_
      refine lv_iload_n hx hb dX8_drawings_81 rfl (lv_at hl 0 rfl) ?_
      refine lv_iconst (v := 1) hx hb dX8_drawings_82 (by decide +kernel) ?_
      refine va_zast hx hb hK hP hD hS 5 2 rfl rfl (vp_in_nI (by omega) (by omega)) dX8_drawings_83 (fun H locs hP hD hS => ?_)
      rw [mz_cl (n := i_71) (by omega)] at hP hD
      have hP : va_P (dC, dI) vwCl [(mo, .inr (8, [.int (nI n), .ref m1, .ref m2, .ref m3, .long ka, .long kb, .ref m6, .ref m7, .ref m8, .ref m9, .ref m10, .ref m11, .ref m12, .ref m13, .ref m14, .ref m15, .ref m16])), (m2, .inl (cI, 8, .inl fp)), (m12, .inl (cI, 8, .inl fo)), (m13, .inl (cI, 9, .inl fc)), (m14, .inl (cI, 8, .inl fq)), (m15, .inl (cZ, 64, .inl (upd fm15_71 i_71 (vp_nar .boolean 1)))), (m16, .inl (cI, 8, .inl fm16_2))] H := hP
      have hD : va_D A [(mo, .inr (8, [.int (nI n), .ref m1, .ref m2, .ref m3, .long ka, .long kb, .ref m6, .ref m7, .ref m8, .ref m9, .ref m10, .ref m11, .ref m12, .ref m13, .ref m14, .ref m15, .ref m16])), (m2, .inl (cI, 8, .inl fp)), (m12, .inl (cI, 8, .inl fo)), (m13, .inl (cI, 9, .inl fc)), (m14, .inl (cI, 8, .inl fq)), (m15, .inl (cZ, 64, .inl (upd fm15_71 i_71 (vp_nar .boolean 1)))), (m16, .inl (cI, 8, .inl fm16_2))] := hD
      refine lv_iinc (v := (nI (i_71 + 1))) (lv' := [(1, .int (nI (i_71 + 1))), (0, .ref mo)]) hx hb dX8_drawings_84 hl (k := 0) rfl (nI_1 _) (by decide) rfl (fun ls hl => ?_)
      refine lv_goto (tgt := 71) hx hb dX8_drawings_87 (by decide) ?_
      exact ih_71 _ (by omega) _ _ _ ⟨(i_71 + 1), (upd fm15_71 i_71 (vp_nar .boolean 1)), by omega, (mz_bl_up hb_71 (Or.inr rfl)), hP, hD, hS, lv_sub hl [0, 1] rfl, rfl⟩
  · skip
    have d_7 : ¬ n ≤ i_2 := fun h => c_7 ((nI_leI (a := n) (b := i_2) (by omega) (by omega)).mpr h)
    refine lv_aload_n hx hb dX8_drawings_10 rfl (lv_at hl 1 rfl) ?_
    refine va_get (D := (dC, dI)) (ci := 8) (v := .ref m16) (C := RX8) (T := TX8) (N := 17) hx hb hts hiX8 hown hK hP 0 rfl rfl 16 (by decide) (hts (.fieldLink RX8 55 "MadeItSoModel" "joined" "[I") (by decide +kernel)) (fun _ h9 => h9) rfl dX8_drawings_11 ?_
    refine lv_iload_n hx hb dX8_drawings_14 rfl (lv_at hl 0 rfl) ?_
    refine lv_aload_n hx hb dX8_drawings_15 rfl (lv_at hl 1 rfl) ?_
    refine va_get (D := (dC, dI)) (ci := 8) (v := .ref m2) (C := RX8) (T := TX8) (N := 17) hx hb hts hiX8 hown hK hP 0 rfl rfl 2 (by decide) (hts (.fieldLink RX8 13 "MadeItSoModel" "parents" "[I") (by decide +kernel)) (fun _ h9 => h9) rfl dX8_drawings_16 ?_
    refine lv_iload_n hx hb dX8_drawings_19 rfl (lv_at hl 0 rfl) ?_
    refine va_iald hx hb hK hP 1 0 rfl rfl (vp_in_nI (by omega) (by omega)) dX8_drawings_20 ?_
    refine mz_ti (y := (fp i_2)) (by rw [mz_cl (by omega)]) ?_
    refine va_iast hx hb hK hP hD hS 6 0 rfl rfl (vp_in_nI (by omega) (by omega)) dX8_drawings_21 (fun H locs hP hD hS => ?_)
    rw [mz_cl (n := i_2) (by omega)] at hP hD
    have hP : va_P (dC, dI) vwCl [(mo, .inr (8, [.int (nI n), .ref m1, .ref m2, .ref m3, .long ka, .long kb, .ref m6, .ref m7, .ref m8, .ref m9, .ref m10, .ref m11, .ref m12, .ref m13, .ref m14, .ref m15, .ref m16])), (m2, .inl (cI, 8, .inl fp)), (m12, .inl (cI, 8, .inl fo)), (m13, .inl (cI, 9, .inl fc)), (m14, .inl (cI, 8, .inl fq)), (m15, .inl (cZ, 64, .inl fa)), (m16, .inl (cI, 8, .inl (upd fm16_2 i_2 (fp i_2))))] H := hP
    have hD : va_D A [(mo, .inr (8, [.int (nI n), .ref m1, .ref m2, .ref m3, .long ka, .long kb, .ref m6, .ref m7, .ref m8, .ref m9, .ref m10, .ref m11, .ref m12, .ref m13, .ref m14, .ref m15, .ref m16])), (m2, .inl (cI, 8, .inl fp)), (m12, .inl (cI, 8, .inl fo)), (m13, .inl (cI, 9, .inl fc)), (m14, .inl (cI, 8, .inl fq)), (m15, .inl (cZ, 64, .inl fa)), (m16, .inl (cI, 8, .inl (upd fm16_2 i_2 (fp i_2))))] := hD
    refine lv_iconst (v := 0) hx hb dX8_drawings_22 (by decide +kernel) ?_
    refine lv_istore_n (lv' := [(2, .int 0), (1, .int (nI i_2)), (0, .ref mo)]) hx hb dX8_drawings_23 rfl hl (by decide) rfl (fun ls hl => ?_)
    refine mz_loopU (fun k H locs ls => ∃ (i_24 : Nat), ∃ (fm16_24 : Nat → Int32), i_24 ≤ n ∧ va_P (dC, dI) vwCl [(mo, .inr (8, [.int (nI n), .ref m1, .ref m2, .ref m3, .long ka, .long kb, .ref m6, .ref m7, .ref m8, .ref m9, .ref m10, .ref m11, .ref m12, .ref m13, .ref m14, .ref m15, .ref m16])), (m2, .inl (cI, 8, .inl fp)), (m12, .inl (cI, 8, .inl fo)), (m13, .inl (cI, 9, .inl fc)), (m14, .inl (cI, 8, .inl fq)), (m15, .inl (cZ, 64, .inl fa)), (m16, .inl (cI, 8, .inl fm16_24))] H ∧ va_D A [(mo, .inr (8, [.int (nI n), .ref m1, .ref m2, .ref m3, .long ka, .long kb, .ref m6, .ref m7, .ref m8, .ref m9, .ref m10, .ref m11, .ref m12, .ref m13, .ref m14, .ref m15, .ref m16])), (m2, .inl (cI, 8, .inl fp)), (m12, .inl (cI, 8, .inl fo)), (m13, .inl (cI, 9, .inl fc)), (m14, .inl (cI, 8, .inl fq)), (m15, .inl (cZ, 64, .inl fa)), (m16, .inl (cI, 8, .inl fm16_24))] ∧ va_S A s.heap H locs ∧ lv_has ls 6 [(2, .int (nI i_24)), (1, .int (nI i_2)), (0, .ref mo)] ∧ k = n - i_24) ?_ _ _ _ _ ⟨0, (upd fm16_2 i_2 (fp i_2)), by omega, hP, hD, hS, lv_sub hl [0, 1, 2] rfl, rfl⟩
    intro k_24 H locs ls hI_24 ih_24
    obtain ⟨i_24, fm16_24, hi_24, hP, hD, hS, hl, hk_24⟩ := hI_24
    refine lv_iload_n hx hb dX8_drawings_24 rfl (lv_at hl 0 rfl) ?_
    refine lv_aload_n hx hb dX8_drawings_25 rfl (lv_at hl 2 rfl) ?_
    refine va_get (D := (dC, dI)) (ci := 8) (v := .int (nI n)) (C := RX8) (T := TX8) (N := 17) hx hb hts hiX8 hown hK hP 0 rfl rfl 0 (by decide) (hts (.fieldLink RX8 58 "MadeItSoModel" "many" "I") (by decide +kernel)) (fun _ h9 => h9) rfl dX8_drawings_26 ?_
    refine lv_icmp_ge (tgt := 63) hx hb dX8_drawings_29 (by decide) (fun c_29 => ?_) (fun c_29 => ?_)
    · skip
      have d_29 : n ≤ i_24 := (nI_leI (a := n) (b := i_24) (by omega) (by omega)).mp c_29
      refine lv_iinc (v := (nI (i_2 + 1))) (lv' := [(1, .int (nI (i_2 + 1))), (2, .int (nI i_24)), (0, .ref mo)]) hx hb dX8_drawings_63 hl (k := 1) rfl (nI_1 _) (by decide) rfl (fun ls hl => ?_)
      refine lv_goto (tgt := 2) hx hb dX8_drawings_66 (by decide) ?_
      exact ih_2 _ (by omega) _ _ _ ⟨(i_2 + 1), fm16_24, by omega, hP, hD, hS, lv_sub hl [0, 2] rfl, rfl⟩
    · skip
      have d_29 : ¬ n ≤ i_24 := fun h => c_29 ((nI_leI (a := n) (b := i_24) (by omega) (by omega)).mpr h)
      refine lv_aload_n hx hb dX8_drawings_32 rfl (lv_at hl 2 rfl) ?_
      refine va_get (D := (dC, dI)) (ci := 8) (v := .ref m16) (C := RX8) (T := TX8) (N := 17) hx hb hts hiX8 hown hK hP 0 rfl rfl 16 (by decide) (hts (.fieldLink RX8 55 "MadeItSoModel" "joined" "[I") (by decide +kernel)) (fun _ h9 => h9) rfl dX8_drawings_33 ?_
      refine lv_iload_n hx hb dX8_drawings_36 rfl (lv_at hl 1 rfl) ?_
      refine lv_dup2_11 hx hb dX8_drawings_37 rfl rfl ?_
      refine va_iald hx hb hK hP 6 0 rfl rfl (vp_in_nI (by omega) (by omega)) dX8_drawings_38 ?_
      refine mz_ti (y := (fm16_24 i_2)) (by rw [mz_cl (by omega)]) ?_
      refine lv_aload_n hx hb dX8_drawings_39 rfl (lv_at hl 2 rfl) ?_
      refine lv_iload_n hx hb dX8_drawings_40 rfl (lv_at hl 1 rfl) ?_
      refine lv_iload_n hx hb dX8_drawings_41 rfl (lv_at hl 0 rfl) ?_
      have hPc := hP.sub (ws' := [(mo, .inr (8, [.int (nI n), .ref m1, .ref m2, .ref m3, .long ka, .long kb, .ref m6, .ref m7, .ref m8, .ref m9, .ref m10, .ref m11, .ref m12, .ref m13, .ref m14, .ref m15, .ref m16])), (m2, .inl (cI, 8, .inl fp))]) [0, 1] rfl
      refine va_calli (va_runV (As := [.int (nI i_2), .int (nI i_24)]) (rest := [.int (fm16_24 i_2), .int (nI i_2), .ref m16]) ⟨hx, hb, hml, hown, hts⟩ (mz_m_has_in l dC dI cI cJ cZ mo m1 m2 m3 m6 m7 m8 m9 m10 m11 m12 m13 m14 m15 m16 n ka kb fp i_2 i_24 H (by first | assumption | omega) (by first | assumption | omega) (by first | assumption | omega)) (cwV 2 hts gX8_drawings_X8_has rfl rfl rfl (by decide +kernel) ⟨Nat.le_of_ble_eq_true rfl, Nat.le_of_ble_eq_true rfl⟩) ⟨fun a U g mk q => mz_blP q, va_recv hK hPc (ci := 8) (q0 := 0) rfl rfl, fun U hU hW => ⟨rfl, hU, hPc, va_K.moved hW.alike hK, mz_nw hW hN⟩⟩ rfl rfl hl.1 rfl (lv_room (Nat.le_of_ble_eq_true rfl)) dX8_drawings_42 ⟨Nat.le_of_ble_eq_true rfl, Nat.le_of_ble_eq_true rfl⟩) hS (fun q _ h => h.elim) (fun q h => h.elim) (fun r_42 u t H1 locs ht hvm hw_42 hB hz1 hk1 hS => ?_)
      have hE : H = H1 := hB.symm.trans ht
      subst hE
      refine lv_if_eq (tgt := 54) hx hb dX8_drawings_45 (by decide) (fun c_45 => ?_) (fun c_45 => ?_)
      · skip
        refine lv_iconst (v := 0) hx hb dX8_drawings_54 (by decide +kernel) ?_
        refine lv_ior hx hb dX8_drawings_55 ?_
        refine va_iast hx hb hK hP hD hS 6 0 rfl rfl (vp_in_nI (by omega) (by omega)) dX8_drawings_56 (fun H locs hP hD hS => ?_)
        rw [mz_cl (n := i_2) (by omega)] at hP hD
        have hP : va_P (dC, dI) vwCl [(mo, .inr (8, [.int (nI n), .ref m1, .ref m2, .ref m3, .long ka, .long kb, .ref m6, .ref m7, .ref m8, .ref m9, .ref m10, .ref m11, .ref m12, .ref m13, .ref m14, .ref m15, .ref m16])), (m2, .inl (cI, 8, .inl fp)), (m12, .inl (cI, 8, .inl fo)), (m13, .inl (cI, 9, .inl fc)), (m14, .inl (cI, 8, .inl fq)), (m15, .inl (cZ, 64, .inl fa)), (m16, .inl (cI, 8, .inl (upd fm16_24 i_2 ((fm16_24 i_2) ||| 0))))] H := hP
        have hD : va_D A [(mo, .inr (8, [.int (nI n), .ref m1, .ref m2, .ref m3, .long ka, .long kb, .ref m6, .ref m7, .ref m8, .ref m9, .ref m10, .ref m11, .ref m12, .ref m13, .ref m14, .ref m15, .ref m16])), (m2, .inl (cI, 8, .inl fp)), (m12, .inl (cI, 8, .inl fo)), (m13, .inl (cI, 9, .inl fc)), (m14, .inl (cI, 8, .inl fq)), (m15, .inl (cZ, 64, .inl fa)), (m16, .inl (cI, 8, .inl (upd fm16_24 i_2 ((fm16_24 i_2) ||| 0))))] := hD
        refine lv_iinc (v := (nI (i_24 + 1))) (lv' := [(2, .int (nI (i_24 + 1))), (1, .int (nI i_2)), (0, .ref mo)]) hx hb dX8_drawings_57 hl (k := 0) rfl (nI_1 _) (by decide) rfl (fun ls hl => ?_)
        refine lv_goto (tgt := 24) hx hb dX8_drawings_60 (by decide) ?_
        exact ih_24 _ (by omega) _ _ _ ⟨(i_24 + 1), (upd fm16_24 i_2 ((fm16_24 i_2) ||| 0)), by omega, hP, hD, hS, lv_sub hl [0, 1, 2] rfl, rfl⟩
      · skip
        refine lv_iconst (v := 1) hx hb dX8_drawings_48 (by decide +kernel) ?_
        refine lv_iload_n hx hb dX8_drawings_49 rfl (lv_at hl 0 rfl) ?_
        refine lv_ishl hx hb dX8_drawings_50 ?_
        refine lv_goto (tgt := 55) hx hb dX8_drawings_51 (by decide) ?_
        refine lv_ior hx hb dX8_drawings_55 ?_
        refine va_iast hx hb hK hP hD hS 6 0 rfl rfl (vp_in_nI (by omega) (by omega)) dX8_drawings_56 (fun H locs hP hD hS => ?_)
        rw [mz_cl (n := i_2) (by omega)] at hP hD
        have hP : va_P (dC, dI) vwCl [(mo, .inr (8, [.int (nI n), .ref m1, .ref m2, .ref m3, .long ka, .long kb, .ref m6, .ref m7, .ref m8, .ref m9, .ref m10, .ref m11, .ref m12, .ref m13, .ref m14, .ref m15, .ref m16])), (m2, .inl (cI, 8, .inl fp)), (m12, .inl (cI, 8, .inl fo)), (m13, .inl (cI, 9, .inl fc)), (m14, .inl (cI, 8, .inl fq)), (m15, .inl (cZ, 64, .inl fa)), (m16, .inl (cI, 8, .inl (upd fm16_24 i_2 ((fm16_24 i_2) ||| (1 <<< ((nI i_24) &&& 31))))))] H := hP
        have hD : va_D A [(mo, .inr (8, [.int (nI n), .ref m1, .ref m2, .ref m3, .long ka, .long kb, .ref m6, .ref m7, .ref m8, .ref m9, .ref m10, .ref m11, .ref m12, .ref m13, .ref m14, .ref m15, .ref m16])), (m2, .inl (cI, 8, .inl fp)), (m12, .inl (cI, 8, .inl fo)), (m13, .inl (cI, 9, .inl fc)), (m14, .inl (cI, 8, .inl fq)), (m15, .inl (cZ, 64, .inl fa)), (m16, .inl (cI, 8, .inl (upd fm16_24 i_2 ((fm16_24 i_2) ||| (1 <<< ((nI i_24) &&& 31))))))] := hD
        refine lv_iinc (v := (nI (i_24 + 1))) (lv' := [(2, .int (nI (i_24 + 1))), (1, .int (nI i_2)), (0, .ref mo)]) hx hb dX8_drawings_57 hl (k := 0) rfl (nI_1 _) (by decide) rfl (fun ls hl => ?_)
        refine lv_goto (tgt := 24) hx hb dX8_drawings_60 (by decide) ?_
        exact ih_24 _ (by omega) _ _ _ ⟨(i_24 + 1), (upd fm16_24 i_2 ((fm16_24 i_2) ||| (1 <<< ((nI i_24) &&& 31)))), by omega, hP, hD, hS, lv_sub hl [0, 1, 2] rfl, rfl⟩
set_option maxHeartbeats 1000000 in
set_option maxRecDepth 100000 in
theorem mz_m_alike (l : Launch) (dC : Nat → ClassId) (dI : Nat → Nat → Nat) (cI cJ cZ : ClassId) (mo : Nat) (m1 : Nat) (m2 : Nat) (m3 : Nat) (m6 : Nat) (m7 : Nat) (m8 : Nat) (m9 : Nat) (m10 : Nat) (m11 : Nat) (m12 : Nat) (m13 : Nat) (m14 : Nat) (m15 : Nat) (m16 : Nat) (n : Nat) (ka : Int64) (kb : Int64) (fp : Nat → Int32) (fo : Nat → Int32) (fc : Nat → Int32) (fq : Nat → Int32) (fa : Nat → Int32) (fj : Nat → Int32) (sz : Nat) (hn : n ≤ 8) (hbl : mz_bl fa) : Met l yX8_alike wsX8_alike ({ frames := 3, cells := 0, slots := 0, locals := 68 }) (va_Pc [.ref mo] (fun U => U.heap.size = sz ∧ va_P (dC, dI) vwCl [(mo, .inr (8, [.int (nI n), .ref m1, .ref m2, .ref m3, .long ka, .long kb, .ref m6, .ref m7, .ref m8, .ref m9, .ref m10, .ref m11, .ref m12, .ref m13, .ref m14, .ref m15, .ref m16])), (m2, .inl (cI, 8, .inl fp)), (m12, .inl (cI, 8, .inl fo)), (m13, .inl (cI, 9, .inl fc)), (m14, .inl (cI, 8, .inl fq)), (m15, .inl (cZ, 64, .inl fa)), (m16, .inl (cI, 8, .inl fj))] U.heap ∧ va_K (dC, dI) vwCl [(cI, FieldType.int), (cJ, FieldType.long), (cZ, FieldType.boolean)] U ∧ va_D (fun _ => True) [(mo, .inr (8, [.int (nI n), .ref m1, .ref m2, .ref m3, .long ka, .long kb, .ref m6, .ref m7, .ref m8, .ref m9, .ref m10, .ref m11, .ref m12, .ref m13, .ref m14, .ref m15, .ref m16])), (m2, .inl (cI, 8, .inl fp)), (m12, .inl (cI, 8, .inl fo)), (m13, .inl (cI, 9, .inl fc)), (m14, .inl (cI, 8, .inl fq)), (m15, .inl (cZ, 64, .inl fa)), (m16, .inl (cI, 8, .inl fj))] ∧ mz_N U)) (va_Qi (fun (r : Int32) (_ : Unit) => True) (fun _ t => ∃ (go : Nat → Int32), ∃ (gc : Nat → Int32), ∃ (gq : Nat → Int32), ∃ (ga : Nat → Int32), ∃ (gj : Nat → Int32), (mz_bl ga) ∧ va_P (dC, dI) vwCl [(mo, .inr (8, [.int (nI n), .ref m1, .ref m2, .ref m3, .long ka, .long kb, .ref m6, .ref m7, .ref m8, .ref m9, .ref m10, .ref m11, .ref m12, .ref m13, .ref m14, .ref m15, .ref m16])), (m2, .inl (cI, 8, .inl fp)), (m12, .inl (cI, 8, .inl go)), (m13, .inl (cI, 9, .inl gc)), (m14, .inl (cI, 8, .inl gq)), (m15, .inl (cZ, 64, .inl ga)), (m16, .inl (cI, 8, .inl gj))] t.heap ∧ va_D (va_A [(mo, .inr (8, [.int (nI n), .ref m1, .ref m2, .ref m3, .long ka, .long kb, .ref m6, .ref m7, .ref m8, .ref m9, .ref m10, .ref m11, .ref m12, .ref m13, .ref m14, .ref m15, .ref m16])), (m2, .inl (cI, 8, .inl fp)), (m12, .inl (cI, 8, .inl fo)), (m13, .inl (cI, 9, .inl fc)), (m14, .inl (cI, 8, .inl fq)), (m15, .inl (cZ, 64, .inl fa)), (m16, .inl (cI, 8, .inl fj))] sz) [(mo, .inr (8, [.int (nI n), .ref m1, .ref m2, .ref m3, .long ka, .long kb, .ref m6, .ref m7, .ref m8, .ref m9, .ref m10, .ref m11, .ref m12, .ref m13, .ref m14, .ref m15, .ref m16])), (m2, .inl (cI, 8, .inl fp)), (m12, .inl (cI, 8, .inl go)), (m13, .inl (cI, 9, .inl gc)), (m14, .inl (cI, 8, .inl gq)), (m15, .inl (cZ, 64, .inl ga)), (m16, .inl (cI, 8, .inl gj))]) (va_A [(mo, .inr (8, [.int (nI n), .ref m1, .ref m2, .ref m3, .long ka, .long kb, .ref m6, .ref m7, .ref m8, .ref m9, .ref m10, .ref m11, .ref m12, .ref m13, .ref m14, .ref m15, .ref m16])), (m2, .inl (cI, 8, .inl fp)), (m12, .inl (cI, 8, .inl fo)), (m13, .inl (cI, 9, .inl fc)), (m14, .inl (cI, 8, .inl fq)), (m15, .inl (cZ, 64, .inl fa)), (m16, .inl (cI, 8, .inl fj))] sz)) 0 0 (va_A [(mo, .inr (8, [.int (nI n), .ref m1, .ref m2, .ref m3, .long ka, .long kb, .ref m6, .ref m7, .ref m8, .ref m9, .ref m10, .ref m11, .ref m12, .ref m13, .ref m14, .ref m15, .ref m16])), (m2, .inl (cI, 8, .inl fp)), (m12, .inl (cI, 8, .inl fo)), (m13, .inl (cI, 9, .inl fc)), (m14, .inl (cI, 8, .inl fq)), (m15, .inl (cZ, 64, .inl fa)), (m16, .inl (cI, 8, .inl fj))] sz) := by
  refine Met.ofW (cc := cX8_alike) (maxL := 1) (ret := (some .int)) (by decide) rfl ?_
  intro p e s m args below meth c s₁ B hml hv
  obtain ⟨rfl, hsz, hP, hK, hD0, hN⟩ := hv
  subst hsz
  have hx := B.exec
  have hb := B.bytes
  have hr := B.returns
  have hts := atoms_spec (ws := wsX8_alike) B.pre
  have hown : s.vm.findClass RX8 = some m.cls := findClass_of_methodNamed B.named
  have hlocks := B.notSynchronized
  have hD := hD0.self (sz := s.heap.size)
  generalize hAe : va_A [(mo, .inr (8, [.int (nI n), .ref m1, .ref m2, .ref m3, .long ka, .long kb, .ref m6, .ref m7, .ref m8, .ref m9, .ref m10, .ref m11, .ref m12, .ref m13, .ref m14, .ref m15, .ref m16])), (m2, .inl (cI, 8, .inl fp)), (m12, .inl (cI, 8, .inl fo)), (m13, .inl (cI, 9, .inl fc)), (m14, .inl (cI, 8, .inl fq)), (m15, .inl (cZ, 64, .inl fa)), (m16, .inl (cI, 8, .inl fj))] s.heap.size = A at hD ⊢
  have hA : ∀ q : Nat, s.heap.size ≤ q → A q := fun q h => by rw [← hAe]; exact Or.inr h
  have hS : va_S A s.heap s.heap [] := va_S.rf
  have hl := lv_entry ([.ref mo]) (n := 1) (Nat.le_of_ble_eq_true rfl)
  rw [lg_entry_eq]
  generalize (lg_sl ([.ref mo]) ++ List.replicate (1 - (lg_sl ([.ref mo])).length) Slot.unset).toArray = ls at hl ⊢
  have hl : lv_has ls 1 [(0, .ref mo)] := hl
  refine lv_aload_n hx hb dX8_alike_0 rfl (lv_at hl 0 rfl) ?_
  have hPc := hP.sub (ws' := [(mo, .inr (8, [.int (nI n), .ref m1, .ref m2, .ref m3, .long ka, .long kb, .ref m6, .ref m7, .ref m8, .ref m9, .ref m10, .ref m11, .ref m12, .ref m13, .ref m14, .ref m15, .ref m16])), (m2, .inl (cI, 8, .inl fp)), (m12, .inl (cI, 8, .inl fo)), (m13, .inl (cI, 9, .inl fc)), (m14, .inl (cI, 8, .inl fq)), (m15, .inl (cZ, 64, .inl fa)), (m16, .inl (cI, 8, .inl fj))]) [0, 1, 2, 3, 4, 5, 6] rfl
  have hDc := hD.sub (ws' := [(mo, .inr (8, [.int (nI n), .ref m1, .ref m2, .ref m3, .long ka, .long kb, .ref m6, .ref m7, .ref m8, .ref m9, .ref m10, .ref m11, .ref m12, .ref m13, .ref m14, .ref m15, .ref m16])), (m2, .inl (cI, 8, .inl fp)), (m12, .inl (cI, 8, .inl fo)), (m13, .inl (cI, 9, .inl fc)), (m14, .inl (cI, 8, .inl fq)), (m15, .inl (cZ, 64, .inl fa)), (m16, .inl (cI, 8, .inl fj))]) [0, 1, 2, 3, 4, 5, 6] (by decide) rfl
  have hFc := va_free (wc := [(mo, .inr (8, [.int (nI n), .ref m1, .ref m2, .ref m3, .long ka, .long kb, .ref m6, .ref m7, .ref m8, .ref m9, .ref m10, .ref m11, .ref m12, .ref m13, .ref m14, .ref m15, .ref m16])), (m2, .inl (cI, 8, .inl fp)), (m12, .inl (cI, 8, .inl fo)), (m13, .inl (cI, 9, .inl fc)), (m14, .inl (cI, 8, .inl fq)), (m15, .inl (cZ, 64, .inl fa)), (m16, .inl (cI, 8, .inl fj))]) hD hS hA [0, 1, 2, 3, 4, 5, 6] rfl
  refine va_calli (va_runV (As := []) (rest := []) ⟨hx, hb, hml, hown, hts⟩ (mz_m_drawings l dC dI cI cJ cZ mo m1 m2 m3 m6 m7 m8 m9 m10 m11 m12 m13 m14 m15 m16 n ka kb fp fo fc fq fa fj s.heap.size (by first | assumption | omega) (by first | assumption | omega)) (cwV 0 hts gX8_alike_X8_drawings rfl rfl rfl (by decide +kernel) ⟨Nat.le_of_ble_eq_true rfl, Nat.le_of_ble_eq_true rfl⟩) ⟨fun a U g mk q => mz_blI q, va_recv hK hPc (ci := 8) (q0 := 0) rfl rfl, fun U hU hW => ⟨rfl, by rw [hU], by rw [hU]; exact hPc, va_K.moved hW.alike hK, hDc.weaken (fun _ _ _ _ => trivial), mz_nw hW hN⟩⟩ rfl rfl hl.1 rfl (lv_room (Nat.le_of_ble_eq_true rfl)) dX8_alike_1 ⟨Nat.le_of_ble_eq_true rfl, Nat.le_of_ble_eq_true rfl⟩) hS (fun q _ h => hFc q h) hFc (fun r_1 u t H1 locs ht hvm hw_1 hB hz1 hk1 hS => ?_)
  obtain ⟨go_1, gc_1, gq_1, ga_1, gj_1, hx0_1, hP1, hD1⟩ := hB
  rw [ht] at hP1
  obtain ⟨hP, hD⟩ := va_join (wr := []) (w1 := [(mo, .inr (8, [.int (nI n), .ref m1, .ref m2, .ref m3, .long ka, .long kb, .ref m6, .ref m7, .ref m8, .ref m9, .ref m10, .ref m11, .ref m12, .ref m13, .ref m14, .ref m15, .ref m16])), (m2, .inl (cI, 8, .inl fp)), (m12, .inl (cI, 8, .inl go_1)), (m13, .inl (cI, 9, .inl gc_1)), (m14, .inl (cI, 8, .inl gq_1)), (m15, .inl (cZ, 64, .inl ga_1)), (m16, .inl (cI, 8, .inl gj_1))]) hP hD [0, 1, 2, 3, 4, 5, 6] [] rfl rfl (by decide) (by decide) hk1 hFc hP1 hD1
  generalize H1 = H at hP hS ⊢
  have hP : va_P (dC, dI) vwCl [(mo, .inr (8, [.int (nI n), .ref m1, .ref m2, .ref m3, .long ka, .long kb, .ref m6, .ref m7, .ref m8, .ref m9, .ref m10, .ref m11, .ref m12, .ref m13, .ref m14, .ref m15, .ref m16])), (m2, .inl (cI, 8, .inl fp)), (m12, .inl (cI, 8, .inl go_1)), (m13, .inl (cI, 9, .inl gc_1)), (m14, .inl (cI, 8, .inl gq_1)), (m15, .inl (cZ, 64, .inl ga_1)), (m16, .inl (cI, 8, .inl gj_1))] H := hP
  have hD : va_D A [(mo, .inr (8, [.int (nI n), .ref m1, .ref m2, .ref m3, .long ka, .long kb, .ref m6, .ref m7, .ref m8, .ref m9, .ref m10, .ref m11, .ref m12, .ref m13, .ref m14, .ref m15, .ref m16])), (m2, .inl (cI, 8, .inl fp)), (m12, .inl (cI, 8, .inl go_1)), (m13, .inl (cI, 9, .inl gc_1)), (m14, .inl (cI, 8, .inl gq_1)), (m15, .inl (cZ, 64, .inl ga_1)), (m16, .inl (cI, 8, .inl gj_1))] := hD
  have hP9 := hP.sub (ws' := [(mo, .inr (8, [.int (nI n), .ref m1, .ref m2, .ref m3, .long ka, .long kb, .ref m6, .ref m7, .ref m8, .ref m9, .ref m10, .ref m11, .ref m12, .ref m13, .ref m14, .ref m15, .ref m16])), (m2, .inl (cI, 8, .inl fp)), (m12, .inl (cI, 8, .inl go_1)), (m13, .inl (cI, 9, .inl gc_1)), (m14, .inl (cI, 8, .inl gq_1)), (m15, .inl (cZ, 64, .inl ga_1)), (m16, .inl (cI, 8, .inl gj_1))]) [0, 1, 2, 3, 4, 5, 6] rfl
  have hD9 := hD.sub (ws' := [(mo, .inr (8, [.int (nI n), .ref m1, .ref m2, .ref m3, .long ka, .long kb, .ref m6, .ref m7, .ref m8, .ref m9, .ref m10, .ref m11, .ref m12, .ref m13, .ref m14, .ref m15, .ref m16])), (m2, .inl (cI, 8, .inl fp)), (m12, .inl (cI, 8, .inl go_1)), (m13, .inl (cI, 9, .inl gc_1)), (m14, .inl (cI, 8, .inl gq_1)), (m15, .inl (cZ, 64, .inl ga_1)), (m16, .inl (cI, 8, .inl gj_1))]) [0, 1, 2, 3, 4, 5, 6] (by decide) rfl
  refine W.widen (k := 0) (n := 0) (Nat.le_of_ble_eq_true rfl) (Nat.le_of_ble_eq_true rfl) ?_
  exact W.iret (v := r_1) hx hb hr (fun t ht hW => ⟨⟨r_1, (), rfl, trivial, go_1, gc_1, gq_1, ga_1, gj_1, (by first | assumption | omega), by rw [ht]; exact hP9, hD9⟩, hS.F ht⟩) hS.2.2 dX8_alike_4
set_option maxHeartbeats 1000000 in
set_option maxRecDepth 100000 in
theorem mz_m_fixed (l : Launch) (dC : Nat → ClassId) (dI : Nat → Nat → Nat) (cI cJ cZ : ClassId) (mo : Nat) (m1 : Nat) (m2 : Nat) (m3 : Nat) (m6 : Nat) (m7 : Nat) (m8 : Nat) (m9 : Nat) (m10 : Nat) (m11 : Nat) (m12 : Nat) (m13 : Nat) (m14 : Nat) (m15 : Nat) (m16 : Nat) (n : Nat) (ka : Int64) (kb : Int64) (fp : Nat → Int32) (fo : Nat → Int32) (fc : Nat → Int32) (fq : Nat → Int32) (fa : Nat → Int32) (fj : Nat → Int32) (p1 : Int32) (p2 : Int32) (sz : Nat) (hn : n ≤ 8) (hbl : mz_bl fa) : Met l yX8_fixed wsX8_fixed ({ frames := 3, cells := 0, slots := 0, locals := 68 }) (va_Pc [.ref mo, .int p1, .int p2] (fun U => U.heap.size = sz ∧ va_P (dC, dI) vwCl [(mo, .inr (8, [.int (nI n), .ref m1, .ref m2, .ref m3, .long ka, .long kb, .ref m6, .ref m7, .ref m8, .ref m9, .ref m10, .ref m11, .ref m12, .ref m13, .ref m14, .ref m15, .ref m16])), (m2, .inl (cI, 8, .inl fp)), (m12, .inl (cI, 8, .inl fo)), (m13, .inl (cI, 9, .inl fc)), (m14, .inl (cI, 8, .inl fq)), (m15, .inl (cZ, 64, .inl fa)), (m16, .inl (cI, 8, .inl fj))] U.heap ∧ va_K (dC, dI) vwCl [(cI, FieldType.int), (cJ, FieldType.long), (cZ, FieldType.boolean)] U ∧ va_D (fun _ => True) [(mo, .inr (8, [.int (nI n), .ref m1, .ref m2, .ref m3, .long ka, .long kb, .ref m6, .ref m7, .ref m8, .ref m9, .ref m10, .ref m11, .ref m12, .ref m13, .ref m14, .ref m15, .ref m16])), (m2, .inl (cI, 8, .inl fp)), (m12, .inl (cI, 8, .inl fo)), (m13, .inl (cI, 9, .inl fc)), (m14, .inl (cI, 8, .inl fq)), (m15, .inl (cZ, 64, .inl fa)), (m16, .inl (cI, 8, .inl fj))] ∧ mz_N U)) (va_Qi (fun (r : Int32) (_ : Unit) => r = 0 ∨ r = 1) (fun _ t => ∃ (go : Nat → Int32), ∃ (gc : Nat → Int32), ∃ (gq : Nat → Int32), ∃ (ga : Nat → Int32), ∃ (gj : Nat → Int32), (mz_bl ga) ∧ va_P (dC, dI) vwCl [(mo, .inr (8, [.int (nI n), .ref m1, .ref m2, .ref m3, .long ka, .long kb, .ref m6, .ref m7, .ref m8, .ref m9, .ref m10, .ref m11, .ref m12, .ref m13, .ref m14, .ref m15, .ref m16])), (m2, .inl (cI, 8, .inl fp)), (m12, .inl (cI, 8, .inl go)), (m13, .inl (cI, 9, .inl gc)), (m14, .inl (cI, 8, .inl gq)), (m15, .inl (cZ, 64, .inl ga)), (m16, .inl (cI, 8, .inl gj))] t.heap ∧ va_D (va_A [(mo, .inr (8, [.int (nI n), .ref m1, .ref m2, .ref m3, .long ka, .long kb, .ref m6, .ref m7, .ref m8, .ref m9, .ref m10, .ref m11, .ref m12, .ref m13, .ref m14, .ref m15, .ref m16])), (m2, .inl (cI, 8, .inl fp)), (m12, .inl (cI, 8, .inl fo)), (m13, .inl (cI, 9, .inl fc)), (m14, .inl (cI, 8, .inl fq)), (m15, .inl (cZ, 64, .inl fa)), (m16, .inl (cI, 8, .inl fj))] sz) [(mo, .inr (8, [.int (nI n), .ref m1, .ref m2, .ref m3, .long ka, .long kb, .ref m6, .ref m7, .ref m8, .ref m9, .ref m10, .ref m11, .ref m12, .ref m13, .ref m14, .ref m15, .ref m16])), (m2, .inl (cI, 8, .inl fp)), (m12, .inl (cI, 8, .inl go)), (m13, .inl (cI, 9, .inl gc)), (m14, .inl (cI, 8, .inl gq)), (m15, .inl (cZ, 64, .inl ga)), (m16, .inl (cI, 8, .inl gj))]) (va_A [(mo, .inr (8, [.int (nI n), .ref m1, .ref m2, .ref m3, .long ka, .long kb, .ref m6, .ref m7, .ref m8, .ref m9, .ref m10, .ref m11, .ref m12, .ref m13, .ref m14, .ref m15, .ref m16])), (m2, .inl (cI, 8, .inl fp)), (m12, .inl (cI, 8, .inl fo)), (m13, .inl (cI, 9, .inl fc)), (m14, .inl (cI, 8, .inl fq)), (m15, .inl (cZ, 64, .inl fa)), (m16, .inl (cI, 8, .inl fj))] sz)) 0 0 (va_A [(mo, .inr (8, [.int (nI n), .ref m1, .ref m2, .ref m3, .long ka, .long kb, .ref m6, .ref m7, .ref m8, .ref m9, .ref m10, .ref m11, .ref m12, .ref m13, .ref m14, .ref m15, .ref m16])), (m2, .inl (cI, 8, .inl fp)), (m12, .inl (cI, 8, .inl fo)), (m13, .inl (cI, 9, .inl fc)), (m14, .inl (cI, 8, .inl fq)), (m15, .inl (cZ, 64, .inl fa)), (m16, .inl (cI, 8, .inl fj))] sz) := by
  refine Met.ofW (cc := cX8_fixed) (maxL := 3) (ret := (some .boolean)) (by decide) rfl ?_
  intro p e s m args below meth c s₁ B hml hv
  obtain ⟨rfl, hsz, hP, hK, hD0, hN⟩ := hv
  subst hsz
  have hx := B.exec
  have hb := B.bytes
  have hr := B.returns
  have hts := atoms_spec (ws := wsX8_fixed) B.pre
  have hown : s.vm.findClass RX8 = some m.cls := findClass_of_methodNamed B.named
  have hlocks := B.notSynchronized
  have hD := hD0.self (sz := s.heap.size)
  generalize hAe : va_A [(mo, .inr (8, [.int (nI n), .ref m1, .ref m2, .ref m3, .long ka, .long kb, .ref m6, .ref m7, .ref m8, .ref m9, .ref m10, .ref m11, .ref m12, .ref m13, .ref m14, .ref m15, .ref m16])), (m2, .inl (cI, 8, .inl fp)), (m12, .inl (cI, 8, .inl fo)), (m13, .inl (cI, 9, .inl fc)), (m14, .inl (cI, 8, .inl fq)), (m15, .inl (cZ, 64, .inl fa)), (m16, .inl (cI, 8, .inl fj))] s.heap.size = A at hD ⊢
  have hA : ∀ q : Nat, s.heap.size ≤ q → A q := fun q h => by rw [← hAe]; exact Or.inr h
  have hS : va_S A s.heap s.heap [] := va_S.rf
  have hiX8 : ∀ w ∈ u_ws RX8 TX8 17, w ∈ wsX8_fixed := by decide +kernel
  have hl := lv_entry ([.ref mo, .int p1, .int p2]) (n := 3) (Nat.le_of_ble_eq_true rfl)
  rw [lg_entry_eq]
  generalize (lg_sl ([.ref mo, .int p1, .int p2]) ++ List.replicate (3 - (lg_sl ([.ref mo, .int p1, .int p2])).length) Slot.unset).toArray = ls at hl ⊢
  have hl : lv_has ls 3 [(0, .ref mo), (1, .int p1), (2, .int p2)] := hl
  refine lv_aload_n hx hb dX8_fixed_0 rfl (lv_at hl 0 rfl) ?_
  refine lv_iload_n hx hb dX8_fixed_1 rfl (lv_at hl 1 rfl) ?_
  refine lv_iload_n hx hb dX8_fixed_2 rfl (lv_at hl 2 rfl) ?_
  have hPc := hP.sub (ws' := [(mo, .inr (8, [.int (nI n), .ref m1, .ref m2, .ref m3, .long ka, .long kb, .ref m6, .ref m7, .ref m8, .ref m9, .ref m10, .ref m11, .ref m12, .ref m13, .ref m14, .ref m15, .ref m16])), (m2, .inl (cI, 8, .inl fp))]) [0, 1] rfl
  refine va_calli (va_runV (As := [.int p1, .int p2]) (rest := []) ⟨hx, hb, hml, hown, hts⟩ (mz_m_has l dC dI cI cJ cZ mo m1 m2 m3 m6 m7 m8 m9 m10 m11 m12 m13 m14 m15 m16 n ka kb fp p1 p2 s.heap (by first | assumption | omega)) (cwV 2 hts gX8_fixed_X8_has rfl rfl rfl (by decide +kernel) ⟨Nat.le_of_ble_eq_true rfl, Nat.le_of_ble_eq_true rfl⟩) ⟨fun a U g mk q => mz_blP q, va_recv hK hPc (ci := 8) (q0 := 0) rfl rfl, fun U hU hW => ⟨rfl, hU, hPc, va_K.moved hW.alike hK, mz_nw hW hN⟩⟩ rfl rfl hl.1 rfl (lv_room (Nat.le_of_ble_eq_true rfl)) dX8_fixed_3 ⟨Nat.le_of_ble_eq_true rfl, Nat.le_of_ble_eq_true rfl⟩) hS (fun q _ h => h.elim) (fun q h => h.elim) (fun r_3 u t H1 locs ht hvm hw_3 hB hz1 hk1 hS => ?_)
  have hE : s.heap = H1 := hB.symm.trans ht
  subst hE
  rcases (show (r_3 = 1 ∧ ∃ i j : Nat, i < n ∧ j < n ∧ p1 = nI i ∧ p2 = nI j ∧ ((fp j) >>> (nI i &&& 31)) &&& 1 = 1) ∨ r_3 = 0 from hw_3) with ⟨rfl, i_3, j_3, hi_3, hj_3, he_3, hf_3, hb_3⟩ | rfl
  · skip
    subst he_3
    subst hf_3
    refine lv_if_ne (tgt := 11) hx hb dX8_fixed_6 (by decide) (fun _ => ?_) (fun c_6 => absurd c_6 (by decide +kernel))
    refine lv_aload_n hx hb dX8_fixed_11 rfl (lv_at hl 0 rfl) ?_
    have hPc := hP.sub (ws' := [(mo, .inr (8, [.int (nI n), .ref m1, .ref m2, .ref m3, .long ka, .long kb, .ref m6, .ref m7, .ref m8, .ref m9, .ref m10, .ref m11, .ref m12, .ref m13, .ref m14, .ref m15, .ref m16])), (m2, .inl (cI, 8, .inl fp)), (m12, .inl (cI, 8, .inl fo)), (m13, .inl (cI, 9, .inl fc)), (m14, .inl (cI, 8, .inl fq)), (m15, .inl (cZ, 64, .inl fa)), (m16, .inl (cI, 8, .inl fj))]) [0, 1, 2, 3, 4, 5, 6] rfl
    have hDc := hD.sub (ws' := [(mo, .inr (8, [.int (nI n), .ref m1, .ref m2, .ref m3, .long ka, .long kb, .ref m6, .ref m7, .ref m8, .ref m9, .ref m10, .ref m11, .ref m12, .ref m13, .ref m14, .ref m15, .ref m16])), (m2, .inl (cI, 8, .inl fp)), (m12, .inl (cI, 8, .inl fo)), (m13, .inl (cI, 9, .inl fc)), (m14, .inl (cI, 8, .inl fq)), (m15, .inl (cZ, 64, .inl fa)), (m16, .inl (cI, 8, .inl fj))]) [0, 1, 2, 3, 4, 5, 6] (by decide) rfl
    have hFc := va_free (wc := [(mo, .inr (8, [.int (nI n), .ref m1, .ref m2, .ref m3, .long ka, .long kb, .ref m6, .ref m7, .ref m8, .ref m9, .ref m10, .ref m11, .ref m12, .ref m13, .ref m14, .ref m15, .ref m16])), (m2, .inl (cI, 8, .inl fp)), (m12, .inl (cI, 8, .inl fo)), (m13, .inl (cI, 9, .inl fc)), (m14, .inl (cI, 8, .inl fq)), (m15, .inl (cZ, 64, .inl fa)), (m16, .inl (cI, 8, .inl fj))]) hD hS hA [0, 1, 2, 3, 4, 5, 6] rfl
    refine va_calli (va_runV (As := []) (rest := []) ⟨hx, hb, hml, hown, hts⟩ (mz_m_drawings l dC dI cI cJ cZ mo m1 m2 m3 m6 m7 m8 m9 m10 m11 m12 m13 m14 m15 m16 n ka kb fp fo fc fq fa fj s.heap.size (by first | assumption | omega) (by first | assumption | omega)) (cwV 0 hts gX8_fixed_X8_drawings rfl rfl rfl (by decide +kernel) ⟨Nat.le_of_ble_eq_true rfl, Nat.le_of_ble_eq_true rfl⟩) ⟨fun a U g mk q => mz_blI q, va_recv hK hPc (ci := 8) (q0 := 0) rfl rfl, fun U hU hW => ⟨rfl, by rw [hU], by rw [hU]; exact hPc, va_K.moved hW.alike hK, hDc.weaken (fun _ _ _ _ => trivial), mz_nw hW hN⟩⟩ rfl rfl hl.1 rfl (lv_room (Nat.le_of_ble_eq_true rfl)) dX8_fixed_12 ⟨Nat.le_of_ble_eq_true rfl, Nat.le_of_ble_eq_true rfl⟩) hS (fun q _ h => hFc q h) hFc (fun r_12 u t H1 locs ht hvm hw_12 hB hz1 hk1 hS => ?_)
    obtain ⟨go_12, gc_12, gq_12, ga_12, gj_12, hx0_12, hP1, hD1⟩ := hB
    rw [ht] at hP1
    obtain ⟨hP, hD⟩ := va_join (wr := []) (w1 := [(mo, .inr (8, [.int (nI n), .ref m1, .ref m2, .ref m3, .long ka, .long kb, .ref m6, .ref m7, .ref m8, .ref m9, .ref m10, .ref m11, .ref m12, .ref m13, .ref m14, .ref m15, .ref m16])), (m2, .inl (cI, 8, .inl fp)), (m12, .inl (cI, 8, .inl go_12)), (m13, .inl (cI, 9, .inl gc_12)), (m14, .inl (cI, 8, .inl gq_12)), (m15, .inl (cZ, 64, .inl ga_12)), (m16, .inl (cI, 8, .inl gj_12))]) hP hD [0, 1, 2, 3, 4, 5, 6] [] rfl rfl (by decide) (by decide) hk1 hFc hP1 hD1
    generalize H1 = H at hP hS ⊢
    have hP : va_P (dC, dI) vwCl [(mo, .inr (8, [.int (nI n), .ref m1, .ref m2, .ref m3, .long ka, .long kb, .ref m6, .ref m7, .ref m8, .ref m9, .ref m10, .ref m11, .ref m12, .ref m13, .ref m14, .ref m15, .ref m16])), (m2, .inl (cI, 8, .inl fp)), (m12, .inl (cI, 8, .inl go_12)), (m13, .inl (cI, 9, .inl gc_12)), (m14, .inl (cI, 8, .inl gq_12)), (m15, .inl (cZ, 64, .inl ga_12)), (m16, .inl (cI, 8, .inl gj_12))] H := hP
    have hD : va_D A [(mo, .inr (8, [.int (nI n), .ref m1, .ref m2, .ref m3, .long ka, .long kb, .ref m6, .ref m7, .ref m8, .ref m9, .ref m10, .ref m11, .ref m12, .ref m13, .ref m14, .ref m15, .ref m16])), (m2, .inl (cI, 8, .inl fp)), (m12, .inl (cI, 8, .inl go_12)), (m13, .inl (cI, 9, .inl gc_12)), (m14, .inl (cI, 8, .inl gq_12)), (m15, .inl (cZ, 64, .inl ga_12)), (m16, .inl (cI, 8, .inl gj_12))] := hD
    refine lv_pop hx hb dX8_fixed_15 rfl ?_
    refine lv_aload_n hx hb dX8_fixed_16 rfl (lv_at hl 0 rfl) ?_
    refine va_get (D := (dC, dI)) (ci := 8) (v := .ref m15) (C := RX8) (T := TX8) (N := 17) hx hb hts hiX8 hown hK hP 0 rfl rfl 15 (by decide) (hts (.fieldLink RX8 52 "MadeItSoModel" "isAlways" "[Z") (by decide +kernel)) (fun _ h9 => h9) rfl dX8_fixed_17 ?_
    refine lv_bipush (v := 8) hx hb dX8_fixed_20 (by decide +kernel) ?_
    refine lv_iload_n hx hb dX8_fixed_22 rfl (lv_at hl 1 rfl) ?_
    refine lv_imul hx hb dX8_fixed_23 ?_
    refine mz_ti (y := (nI (8 * i_3))) (pk_mul _ _) ?_
    refine lv_iload_n hx hb dX8_fixed_24 rfl (lv_at hl 2 rfl) ?_
    refine lv_iadd hx hb dX8_fixed_25 ?_
    refine mz_ti (y := (nI (8 * i_3 + j_3))) (nI_add _ _) ?_
    refine va_zald hx hb hK hP 5 2 rfl rfl (vp_in_nI (by omega) (by omega)) dX8_fixed_26 ?_
    refine lv_topi (fun v_26 ev_26 => ?_)
    have hv_ := mz_blr hx0_12 ev_26
    have hP9 := hP.sub (ws' := [(mo, .inr (8, [.int (nI n), .ref m1, .ref m2, .ref m3, .long ka, .long kb, .ref m6, .ref m7, .ref m8, .ref m9, .ref m10, .ref m11, .ref m12, .ref m13, .ref m14, .ref m15, .ref m16])), (m2, .inl (cI, 8, .inl fp)), (m12, .inl (cI, 8, .inl go_12)), (m13, .inl (cI, 9, .inl gc_12)), (m14, .inl (cI, 8, .inl gq_12)), (m15, .inl (cZ, 64, .inl ga_12)), (m16, .inl (cI, 8, .inl gj_12))]) [0, 1, 2, 3, 4, 5, 6] rfl
    have hD9 := hD.sub (ws' := [(mo, .inr (8, [.int (nI n), .ref m1, .ref m2, .ref m3, .long ka, .long kb, .ref m6, .ref m7, .ref m8, .ref m9, .ref m10, .ref m11, .ref m12, .ref m13, .ref m14, .ref m15, .ref m16])), (m2, .inl (cI, 8, .inl fp)), (m12, .inl (cI, 8, .inl go_12)), (m13, .inl (cI, 9, .inl gc_12)), (m14, .inl (cI, 8, .inl gq_12)), (m15, .inl (cZ, 64, .inl ga_12)), (m16, .inl (cI, 8, .inl gj_12))]) [0, 1, 2, 3, 4, 5, 6] (by decide) rfl
    refine W.widen (k := 0) (n := 0) (Nat.le_of_ble_eq_true rfl) (Nat.le_of_ble_eq_true rfl) ?_
    exact W.zret (v := v_26) hx hb hr (mz_nzo (by first | assumption | omega)) (fun t ht hW => ⟨⟨v_26, (), rfl, (by first | assumption | omega), go_12, gc_12, gq_12, ga_12, gj_12, (by first | assumption | omega), by rw [ht]; exact hP9, hD9⟩, hS.F ht⟩) hS.2.2 dX8_fixed_27
  · skip
    refine lv_if_ne (tgt := 11) hx hb dX8_fixed_6 (by decide) (fun c_6 => absurd (by decide +kernel) c_6) (fun _ => ?_)
    refine lv_iconst (v := 0) hx hb dX8_fixed_9 (by decide +kernel) ?_
    have hP9 := hP.sub (ws' := [(mo, .inr (8, [.int (nI n), .ref m1, .ref m2, .ref m3, .long ka, .long kb, .ref m6, .ref m7, .ref m8, .ref m9, .ref m10, .ref m11, .ref m12, .ref m13, .ref m14, .ref m15, .ref m16])), (m2, .inl (cI, 8, .inl fp)), (m12, .inl (cI, 8, .inl fo)), (m13, .inl (cI, 9, .inl fc)), (m14, .inl (cI, 8, .inl fq)), (m15, .inl (cZ, 64, .inl fa)), (m16, .inl (cI, 8, .inl fj))]) [0, 1, 2, 3, 4, 5, 6] rfl
    have hD9 := hD.sub (ws' := [(mo, .inr (8, [.int (nI n), .ref m1, .ref m2, .ref m3, .long ka, .long kb, .ref m6, .ref m7, .ref m8, .ref m9, .ref m10, .ref m11, .ref m12, .ref m13, .ref m14, .ref m15, .ref m16])), (m2, .inl (cI, 8, .inl fp)), (m12, .inl (cI, 8, .inl fo)), (m13, .inl (cI, 9, .inl fc)), (m14, .inl (cI, 8, .inl fq)), (m15, .inl (cZ, 64, .inl fa)), (m16, .inl (cI, 8, .inl fj))]) [0, 1, 2, 3, 4, 5, 6] (by decide) rfl
    refine W.widen (k := 0) (n := 0) (Nat.le_of_ble_eq_true rfl) (Nat.le_of_ble_eq_true rfl) ?_
    exact W.zret (v := 0) hx hb hr (mz_nz (by decide +kernel)) (fun t ht hW => ⟨⟨0, (), rfl, Or.inl rfl, fo, fc, fq, fa, fj, (by first | assumption | omega), by rw [ht]; exact hP9, hD9⟩, hS.F ht⟩) hS.2.2 dX8_fixed_10
