/-! the face of MadeItSo: any state -/
set_option maxHeartbeats 1000000 in
set_option maxRecDepth 100000 in
theorem mz_x_thing_full (l : Launch) (dC : Nat → ClassId) (dI : Nat → Nat → Nat) (cI cJ cZ : ClassId) (mx : Nat) (dr : Nat) (th : Nat) (bk : Nat) (wt : Nat) (tt : Nat) (lh : Nat) (la : Nat) (sh : Int32) (ab : Int64) (be : Int64) (dp : Nat) (dc : Nat) (p1 : Int32) (sz : Nat)  : Met l yX7_thing wsX7_thing ({ frames := 1, cells := 0, slots := 0, locals := 20 }) (va_Pc [.ref mx, .int p1] (fun U => U.heap.size = sz ∧ va_P (dC, dI) vwCl [(mx, .inr (7, [.ref dr, .ref th, .ref bk, .ref wt, .ref tt, .ref lh, .ref la, .int sh, .long ab, .long be])), (dr, .inr (2, [.ref dp, .ref dc, .int 8]))] U.heap ∧ va_K (dC, dI) vwCl [(cI, FieldType.int), (cJ, FieldType.long), (cZ, FieldType.boolean)] U ∧ va_D (fun _ => True) [(mx, .inr (7, [.ref dr, .ref th, .ref bk, .ref wt, .ref tt, .ref lh, .ref la, .int sh, .long ab, .long be])), (dr, .inr (2, [.ref dp, .ref dc, .int 8]))] ∧ mz_N U)) (va_Qi (fun (r : Int32) (_ : Unit) => r = (-1)) (fun _ t => va_P (dC, dI) vwCl [(mx, .inr (7, [.ref dr, .ref th, .ref bk, .ref wt, .ref tt, .ref lh, .ref la, .int sh, .long ab, .long be])), (dr, .inr (2, [.ref dp, .ref dc, .int 8]))] t.heap ∧ va_D (va_A [(mx, .inr (7, [.ref dr, .ref th, .ref bk, .ref wt, .ref tt, .ref lh, .ref la, .int sh, .long ab, .long be])), (dr, .inr (2, [.ref dp, .ref dc, .int 8]))] sz) [(mx, .inr (7, [.ref dr, .ref th, .ref bk, .ref wt, .ref tt, .ref lh, .ref la, .int sh, .long ab, .long be])), (dr, .inr (2, [.ref dp, .ref dc, .int 8]))]) (va_A [(mx, .inr (7, [.ref dr, .ref th, .ref bk, .ref wt, .ref tt, .ref lh, .ref la, .int sh, .long ab, .long be])), (dr, .inr (2, [.ref dp, .ref dc, .int 8]))] sz)) 0 0 (va_A [(mx, .inr (7, [.ref dr, .ref th, .ref bk, .ref wt, .ref tt, .ref lh, .ref la, .int sh, .long ab, .long be])), (dr, .inr (2, [.ref dp, .ref dc, .int 8]))] sz) := by
  refine Met.ofW (cc := cX7_thing) (maxL := 3) (ret := (some .int)) (by decide) rfl ?_
  intro p e s m args below meth c s₁ B hml hv
  obtain ⟨rfl, hsz, hP, hK, hD0, hN⟩ := hv
  subst hsz
  have hx := B.exec
  have hb := B.bytes
  have hr := B.returns
  have hts := atoms_spec (ws := wsX7_thing) B.pre
  have hown : s.vm.findClass RX7 = some m.cls := findClass_of_methodNamed B.named
  have hlocks := B.notSynchronized
  have hD := hD0.self (sz := s.heap.size)
  generalize hAe : va_A [(mx, .inr (7, [.ref dr, .ref th, .ref bk, .ref wt, .ref tt, .ref lh, .ref la, .int sh, .long ab, .long be])), (dr, .inr (2, [.ref dp, .ref dc, .int 8]))] s.heap.size = A at hD ⊢
  have hA : ∀ q : Nat, s.heap.size ≤ q → A q := fun q h => by rw [← hAe]; exact Or.inr h
  have hS : va_S A s.heap s.heap [] := va_S.rf
  have hiX7 : ∀ w ∈ u_ws RX7 TX7 10, w ∈ wsX7_thing := by decide +kernel
  have hl := lv_entry ([.ref mx, .int p1]) (n := 3) (Nat.le_of_ble_eq_true rfl)
  rw [lg_entry_eq]
  generalize (lg_sl ([.ref mx, .int p1]) ++ List.replicate (3 - (lg_sl ([.ref mx, .int p1])).length) Slot.unset).toArray = ls at hl ⊢
  have hl : lv_has ls 3 [(0, .ref mx), (1, .int p1)] := hl
  refine lv_aload_n hx hb dX7_thing_0 rfl (lv_at hl 0 rfl) ?_
  refine va_get (D := (dC, dI)) (ci := 7) (v := .ref dr) (C := RX7) (T := TX7) (N := 10) hx hb hts hiX7 hown hK hP 0 rfl rfl 0 (by decide) (hts (.fieldLink RX7 12 "MadeItSo" "drawing" "LMadeItSo$Drawing;") (by decide +kernel)) (fun _ h9 => h9) rfl dX7_thing_1 ?_
  have hPc := hP.sub (ws' := [(dr, .inr (2, [.ref dp, .ref dc, .int 8]))]) [1] rfl
  have hDc := hD.sub (ws' := [(dr, .inr (2, [.ref dp, .ref dc, .int 8]))]) [1] (by decide) rfl
  have hFc := va_free (wc := [(dr, .inr (2, [.ref dp, .ref dc, .int 8]))]) hD hS hA [1] rfl
  refine va_calli (va_runV (As := []) (rest := []) ⟨hx, hb, hml, hown, hts⟩ (mz_d_grow_full l dC dI cI cJ cZ dr dp dc s.heap.size ) (cwV 0 hts gX7_thing_X2_grow rfl rfl rfl (by decide +kernel) ⟨Nat.le_of_ble_eq_true rfl, Nat.le_of_ble_eq_true rfl⟩) ⟨fun a U g mk q => mz_blI q, va_recv hK hPc (ci := 2) (q0 := 0) rfl rfl, fun U hU hW => ⟨rfl, by rw [hU], by rw [hU]; exact hPc, va_K.moved hW.alike hK, hDc.weaken (fun _ _ _ _ => trivial), mz_nw hW hN⟩⟩ rfl rfl hl.1 rfl (lv_room (Nat.le_of_ble_eq_true rfl)) dX7_thing_4 ⟨Nat.le_of_ble_eq_true rfl, Nat.le_of_ble_eq_true rfl⟩) hS (fun q _ h => hFc q h) hFc (fun r_4 u t H1 locs ht hvm hw_4 hB hz1 hk1 hS => ?_)
  obtain ⟨hP1, hD1⟩ := hB
  rw [ht] at hP1
  obtain ⟨hP, hD⟩ := va_join (wr := [(mx, .inr (7, [.ref dr, .ref th, .ref bk, .ref wt, .ref tt, .ref lh, .ref la, .int sh, .long ab, .long be]))]) (w1 := [(dr, .inr (2, [.ref dp, .ref dc, .int 8]))]) hP hD [1] [0] rfl rfl (by decide) (by decide) hk1 hFc hP1 hD1
  generalize H1 = H at hP hS ⊢
  have hP : va_P (dC, dI) vwCl [(mx, .inr (7, [.ref dr, .ref th, .ref bk, .ref wt, .ref tt, .ref lh, .ref la, .int sh, .long ab, .long be])), (dr, .inr (2, [.ref dp, .ref dc, .int 8]))] H := hP
  have hD : va_D A [(mx, .inr (7, [.ref dr, .ref th, .ref bk, .ref wt, .ref tt, .ref lh, .ref la, .int sh, .long ab, .long be])), (dr, .inr (2, [.ref dp, .ref dc, .int 8]))] := hD
  obtain rfl : r_4 = (-1) := hw_4
  refine lv_istore_n (lv' := [(2, .int (-1)), (0, .ref mx), (1, .int p1)]) hx hb dX7_thing_7 rfl hl (by decide) rfl (fun ls hl => ?_)
  refine lv_iload_n hx hb dX7_thing_8 rfl (lv_at hl 0 rfl) ?_
  refine lv_iconst (v := (-1)) hx hb dX7_thing_9 (by decide +kernel) ?_
  refine lv_icmp_ne (tgt := 15) hx hb dX7_thing_10 (by decide) (fun c_10 => absurd (by decide +kernel) c_10) (fun _ => ?_)
  refine lv_iconst (v := (-1)) hx hb dX7_thing_13 (by decide +kernel) ?_
  have hP9 := hP.sub (ws' := [(mx, .inr (7, [.ref dr, .ref th, .ref bk, .ref wt, .ref tt, .ref lh, .ref la, .int sh, .long ab, .long be])), (dr, .inr (2, [.ref dp, .ref dc, .int 8]))]) [0, 1] rfl
  have hD9 := hD.sub (ws' := [(mx, .inr (7, [.ref dr, .ref th, .ref bk, .ref wt, .ref tt, .ref lh, .ref la, .int sh, .long ab, .long be])), (dr, .inr (2, [.ref dp, .ref dc, .int 8]))]) [0, 1] (by decide) rfl
  refine W.widen (k := 0) (n := 0) (Nat.le_of_ble_eq_true rfl) (Nat.le_of_ble_eq_true rfl) ?_
  exact W.iret (v := (-1)) hx hb hr (fun t ht hW => ⟨⟨(-1), (), rfl, rfl, by rw [ht]; exact hP9, hD9⟩, hS.F ht⟩) hS.2.2 dX7_thing_14
set_option maxHeartbeats 1000000 in
set_option maxRecDepth 100000 in
theorem mz_x_thing_more (l : Launch) (dC : Nat → ClassId) (dI : Nat → Nat → Nat) (cI cJ cZ : ClassId) (mx : Nat) (dr : Nat) (th : Nat) (bk : Nat) (wt : Nat) (tt : Nat) (lh : Nat) (la : Nat) (sh : Int32) (ab : Int64) (be : Int64) (dp : Nat) (dc : Nat) (n : Nat) (bp : Nat) (fb : Nat → Int32) (p1 : Int32) (sz : Nat) (hn8 : n < 8) : Met l yX7_thing wsX7_thing ({ frames := 1, cells := 0, slots := 0, locals := 22 }) (va_Pc [.ref mx, .int p1] (fun U => U.heap.size = sz ∧ va_P (dC, dI) vwCl [(mx, .inr (7, [.ref dr, .ref th, .ref bk, .ref wt, .ref tt, .ref lh, .ref la, .int sh, .long ab, .long be])), (dr, .inr (2, [.ref dp, .ref dc, .int (nI n)])), (bk, .inr (1, [.ref bp])), (bp, .inl (cI, 1024, .inl fb))] U.heap ∧ va_K (dC, dI) vwCl [(cI, FieldType.int), (cJ, FieldType.long), (cZ, FieldType.boolean)] U ∧ va_D (fun _ => True) [(mx, .inr (7, [.ref dr, .ref th, .ref bk, .ref wt, .ref tt, .ref lh, .ref la, .int sh, .long ab, .long be])), (dr, .inr (2, [.ref dp, .ref dc, .int (nI n)])), (bk, .inr (1, [.ref bp])), (bp, .inl (cI, 1024, .inl fb))] ∧ mz_N U)) (va_Qi (fun (r : Int32) (_ : Unit) => r = (nI n)) (fun _ t => ∃ (gsh : Int32), ∃ (gb : Nat → Int32), va_P (dC, dI) vwCl [(mx, .inr (7, [.ref dr, .ref th, .ref bk, .ref wt, .ref tt, .ref lh, .ref la, .int gsh, .long ab, .long be])), (dr, .inr (2, [.ref dp, .ref dc, .int (nI ((n + 1)))])), (bk, .inr (1, [.ref bp])), (bp, .inl (cI, 1024, .inl gb))] t.heap ∧ va_D (va_A [(mx, .inr (7, [.ref dr, .ref th, .ref bk, .ref wt, .ref tt, .ref lh, .ref la, .int sh, .long ab, .long be])), (dr, .inr (2, [.ref dp, .ref dc, .int (nI n)])), (bk, .inr (1, [.ref bp])), (bp, .inl (cI, 1024, .inl fb))] sz) [(mx, .inr (7, [.ref dr, .ref th, .ref bk, .ref wt, .ref tt, .ref lh, .ref la, .int gsh, .long ab, .long be])), (dr, .inr (2, [.ref dp, .ref dc, .int (nI ((n + 1)))])), (bk, .inr (1, [.ref bp])), (bp, .inl (cI, 1024, .inl gb))]) (va_A [(mx, .inr (7, [.ref dr, .ref th, .ref bk, .ref wt, .ref tt, .ref lh, .ref la, .int sh, .long ab, .long be])), (dr, .inr (2, [.ref dp, .ref dc, .int (nI n)])), (bk, .inr (1, [.ref bp])), (bp, .inl (cI, 1024, .inl fb))] sz)) 0 0 (va_A [(mx, .inr (7, [.ref dr, .ref th, .ref bk, .ref wt, .ref tt, .ref lh, .ref la, .int sh, .long ab, .long be])), (dr, .inr (2, [.ref dp, .ref dc, .int (nI n)])), (bk, .inr (1, [.ref bp])), (bp, .inl (cI, 1024, .inl fb))] sz) := by
  refine Met.ofW (cc := cX7_thing) (maxL := 3) (ret := (some .int)) (by decide) rfl ?_
  intro p e s m args below meth c s₁ B hml hv
  obtain ⟨rfl, hsz, hP, hK, hD0, hN⟩ := hv
  subst hsz
  have hx := B.exec
  have hb := B.bytes
  have hr := B.returns
  have hts := atoms_spec (ws := wsX7_thing) B.pre
  have hown : s.vm.findClass RX7 = some m.cls := findClass_of_methodNamed B.named
  have hlocks := B.notSynchronized
  have hD := hD0.self (sz := s.heap.size)
  generalize hAe : va_A [(mx, .inr (7, [.ref dr, .ref th, .ref bk, .ref wt, .ref tt, .ref lh, .ref la, .int sh, .long ab, .long be])), (dr, .inr (2, [.ref dp, .ref dc, .int (nI n)])), (bk, .inr (1, [.ref bp])), (bp, .inl (cI, 1024, .inl fb))] s.heap.size = A at hD ⊢
  have hA : ∀ q : Nat, s.heap.size ≤ q → A q := fun q h => by rw [← hAe]; exact Or.inr h
  have hS : va_S A s.heap s.heap [] := va_S.rf
  have hiX7 : ∀ w ∈ u_ws RX7 TX7 10, w ∈ wsX7_thing := by decide +kernel
  have hl := lv_entry ([.ref mx, .int p1]) (n := 3) (Nat.le_of_ble_eq_true rfl)
  rw [lg_entry_eq]
  generalize (lg_sl ([.ref mx, .int p1]) ++ List.replicate (3 - (lg_sl ([.ref mx, .int p1])).length) Slot.unset).toArray = ls at hl ⊢
  have hl : lv_has ls 3 [(0, .ref mx), (1, .int p1)] := hl
  refine lv_aload_n hx hb dX7_thing_0 rfl (lv_at hl 0 rfl) ?_
  refine va_get (D := (dC, dI)) (ci := 7) (v := .ref dr) (C := RX7) (T := TX7) (N := 10) hx hb hts hiX7 hown hK hP 0 rfl rfl 0 (by decide) (hts (.fieldLink RX7 12 "MadeItSo" "drawing" "LMadeItSo$Drawing;") (by decide +kernel)) (fun _ h9 => h9) rfl dX7_thing_1 ?_
  have hPc := hP.sub (ws' := [(dr, .inr (2, [.ref dp, .ref dc, .int (nI n)]))]) [1] rfl
  have hDc := hD.sub (ws' := [(dr, .inr (2, [.ref dp, .ref dc, .int (nI n)]))]) [1] (by decide) rfl
  have hFc := va_free (wc := [(dr, .inr (2, [.ref dp, .ref dc, .int (nI n)]))]) hD hS hA [1] rfl
  refine va_calli (va_runV (As := []) (rest := []) ⟨hx, hb, hml, hown, hts⟩ (mz_d_grow_more l dC dI cI cJ cZ dr dp dc n s.heap.size (by first | assumption | omega)) (cwV 0 hts gX7_thing_X2_grow rfl rfl rfl (by decide +kernel) ⟨Nat.le_of_ble_eq_true rfl, Nat.le_of_ble_eq_true rfl⟩) ⟨fun a U g mk q => mz_blI q, va_recv hK hPc (ci := 2) (q0 := 0) rfl rfl, fun U hU hW => ⟨rfl, by rw [hU], by rw [hU]; exact hPc, va_K.moved hW.alike hK, hDc.weaken (fun _ _ _ _ => trivial), mz_nw hW hN⟩⟩ rfl rfl hl.1 rfl (lv_room (Nat.le_of_ble_eq_true rfl)) dX7_thing_4 ⟨Nat.le_of_ble_eq_true rfl, Nat.le_of_ble_eq_true rfl⟩) hS (fun q _ h => hFc q h) hFc (fun r_4 u t H1 locs ht hvm hw_4 hB hz1 hk1 hS => ?_)
  obtain ⟨hP1, hD1⟩ := hB
  rw [ht] at hP1
  obtain ⟨hP, hD⟩ := va_join (wr := [(mx, .inr (7, [.ref dr, .ref th, .ref bk, .ref wt, .ref tt, .ref lh, .ref la, .int sh, .long ab, .long be])), (bk, .inr (1, [.ref bp])), (bp, .inl (cI, 1024, .inl fb))]) (w1 := [(dr, .inr (2, [.ref dp, .ref dc, .int (nI ((n + 1)))]))]) hP hD [1] [0, 2, 3] rfl rfl (by decide) (by decide) hk1 hFc hP1 hD1
  generalize H1 = H at hP hS ⊢
  have hP : va_P (dC, dI) vwCl [(mx, .inr (7, [.ref dr, .ref th, .ref bk, .ref wt, .ref tt, .ref lh, .ref la, .int sh, .long ab, .long be])), (bk, .inr (1, [.ref bp])), (bp, .inl (cI, 1024, .inl fb)), (dr, .inr (2, [.ref dp, .ref dc, .int (nI ((n + 1)))]))] H := hP
  have hD : va_D A [(mx, .inr (7, [.ref dr, .ref th, .ref bk, .ref wt, .ref tt, .ref lh, .ref la, .int sh, .long ab, .long be])), (bk, .inr (1, [.ref bp])), (bp, .inl (cI, 1024, .inl fb)), (dr, .inr (2, [.ref dp, .ref dc, .int (nI ((n + 1)))]))] := hD
  obtain rfl : r_4 = (nI n) := hw_4
  refine lv_istore_n (lv' := [(2, .int (nI n)), (0, .ref mx), (1, .int p1)]) hx hb dX7_thing_7 rfl hl (by decide) rfl (fun ls hl => ?_)
  refine lv_iload_n hx hb dX7_thing_8 rfl (lv_at hl 0 rfl) ?_
  refine lv_iconst (v := (-1)) hx hb dX7_thing_9 (by decide +kernel) ?_
  refine lv_icmp_ne (tgt := 15) hx hb dX7_thing_10 (by decide) (fun _ => ?_) (fun c_10 => absurd c_10 (mz_ne1 (by omega)))
  refine lv_aload_n hx hb dX7_thing_15 rfl (lv_at hl 1 rfl) ?_
  refine va_get (D := (dC, dI)) (ci := 7) (v := .ref bk) (C := RX7) (T := TX7) (N := 10) hx hb hts hiX7 hown hK hP 0 rfl rfl 2 (by decide) (hts (.fieldLink RX7 22 "MadeItSo" "books" "LMadeItSo$Books;") (by decide +kernel)) (fun _ h9 => h9) rfl dX7_thing_16 ?_
  refine lv_iload_n hx hb dX7_thing_19 rfl (lv_at hl 0 rfl) ?_
  have hPc := hP.sub (ws' := [(bk, .inr (1, [.ref bp])), (bp, .inl (cI, 1024, .inl fb))]) [1, 2] rfl
  have hDc := hD.sub (ws' := [(bk, .inr (1, [.ref bp])), (bp, .inl (cI, 1024, .inl fb))]) [1, 2] (by decide) rfl
  have hFc := va_free (wc := [(bk, .inr (1, [.ref bp])), (bp, .inl (cI, 1024, .inl fb))]) hD hS hA [1, 2] rfl
  refine va_callv (va_runV (As := [.int (nI n)]) (rest := []) ⟨hx, hb, hml, hown, hts⟩ (mz_b_blank l dC dI cI cJ cZ bk bp fb (nI n) H.size ) (cwV 1 hts gX7_thing_X1_blank rfl rfl rfl (by decide +kernel) ⟨Nat.le_of_ble_eq_true rfl, Nat.le_of_ble_eq_true rfl⟩) ⟨fun a U g mk q => mz_blI q, va_recv hK hPc (ci := 1) (q0 := 0) rfl rfl, fun U hU hW => ⟨rfl, by rw [hU], by rw [hU]; exact hPc, va_K.moved hW.alike hK, hDc.weaken (fun _ _ _ _ => trivial), mz_nw hW hN⟩⟩ rfl rfl hl.1 rfl (lv_room (Nat.le_of_ble_eq_true rfl)) dX7_thing_20 ⟨Nat.le_of_ble_eq_true rfl, Nat.le_of_ble_eq_true rfl⟩) hS (fun q _ h => hFc q h) hFc (fun u t H1 locs ht hvm hw_20 hB hz1 hk1 hS => ?_)
  obtain ⟨gb_20, hP1, hD1⟩ := hB
  rw [ht] at hP1
  obtain ⟨hP, hD⟩ := va_join (wr := [(mx, .inr (7, [.ref dr, .ref th, .ref bk, .ref wt, .ref tt, .ref lh, .ref la, .int sh, .long ab, .long be])), (dr, .inr (2, [.ref dp, .ref dc, .int (nI ((n + 1)))]))]) (w1 := [(bk, .inr (1, [.ref bp])), (bp, .inl (cI, 1024, .inl gb_20))]) hP hD [1, 2] [0, 3] rfl rfl (by decide) (by decide) hk1 hFc hP1 hD1
  generalize H1 = H at hP hS ⊢
  have hP : va_P (dC, dI) vwCl [(mx, .inr (7, [.ref dr, .ref th, .ref bk, .ref wt, .ref tt, .ref lh, .ref la, .int sh, .long ab, .long be])), (dr, .inr (2, [.ref dp, .ref dc, .int (nI ((n + 1)))])), (bk, .inr (1, [.ref bp])), (bp, .inl (cI, 1024, .inl gb_20))] H := hP
  have hD : va_D A [(mx, .inr (7, [.ref dr, .ref th, .ref bk, .ref wt, .ref tt, .ref lh, .ref la, .int sh, .long ab, .long be])), (dr, .inr (2, [.ref dp, .ref dc, .int (nI ((n + 1)))])), (bk, .inr (1, [.ref bp])), (bp, .inl (cI, 1024, .inl gb_20))] := hD
  refine lv_iload_n hx hb dX7_thing_23 rfl (lv_at hl 2 rfl) ?_
  refine lv_if_eq (tgt := 40) hx hb dX7_thing_24 (by decide) (fun c_24 => ?_) (fun c_24 => ?_)
  · skip
    refine lv_iload_n hx hb dX7_thing_40 rfl (lv_at hl 0 rfl) ?_
    have hP9 := hP.sub (ws' := [(mx, .inr (7, [.ref dr, .ref th, .ref bk, .ref wt, .ref tt, .ref lh, .ref la, .int sh, .long ab, .long be])), (dr, .inr (2, [.ref dp, .ref dc, .int (nI ((n + 1)))])), (bk, .inr (1, [.ref bp])), (bp, .inl (cI, 1024, .inl gb_20))]) [0, 1, 2, 3] rfl
    have hD9 := hD.sub (ws' := [(mx, .inr (7, [.ref dr, .ref th, .ref bk, .ref wt, .ref tt, .ref lh, .ref la, .int sh, .long ab, .long be])), (dr, .inr (2, [.ref dp, .ref dc, .int (nI ((n + 1)))])), (bk, .inr (1, [.ref bp])), (bp, .inl (cI, 1024, .inl gb_20))]) [0, 1, 2, 3] (by decide) rfl
    refine W.widen (k := 0) (n := 0) (Nat.le_of_ble_eq_true rfl) (Nat.le_of_ble_eq_true rfl) ?_
    exact W.iret (v := (nI n)) hx hb hr (fun t ht hW => ⟨⟨(nI n), (), rfl, rfl, sh, gb_20, by rw [ht]; exact hP9, hD9⟩, hS.F ht⟩) hS.2.2 dX7_thing_41
  · skip
    refine lv_aload_n hx hb dX7_thing_27 rfl (lv_at hl 1 rfl) ?_
    refine lv_dup hx hb dX7_thing_28 rfl ?_
    refine va_get (D := (dC, dI)) (ci := 7) (v := .int sh) (C := RX7) (T := TX7) (N := 10) hx hb hts hiX7 hown hK hP 0 rfl rfl 7 (by decide) (hts (.fieldLink RX7 54 "MadeItSo" "seenHeap" "I") (by decide +kernel)) (fun _ h9 => h9) rfl dX7_thing_29 ?_
    refine lv_iload_n hx hb dX7_thing_32 rfl (lv_at hl 0 rfl) ?_
    have hPc := hP.sub (ws' := []) [] rfl
    refine va_calli (va_runS (As := [.int (nI n)]) (rest := [.int sh, .ref mx]) ⟨hx, hb, hml, hown, hts⟩ (mz_g_bit l dC dI cI cJ cZ (nI n) H ) (va_cwS 1 hts gX7_thing_X7_bit rfl rfl rfl (by decide +kernel) ⟨Nat.le_of_ble_eq_true rfl, Nat.le_of_ble_eq_true rfl⟩) ⟨fun a U g mk q => mz_blP q, fun U hU hW => ⟨rfl, hU, hPc, va_K.moved hW.alike hK, mz_nw hW hN⟩⟩ rfl rfl hl.1 rfl (lv_room (Nat.le_of_ble_eq_true rfl)) dX7_thing_33 ⟨Nat.le_of_ble_eq_true rfl, Nat.le_of_ble_eq_true rfl⟩) hS (fun q _ h => h.elim) (fun q h => h.elim) (fun r_33 u t H1 locs ht hvm hw_33 hB hz1 hk1 hS => ?_)
    have hE : H = H1 := hB.symm.trans ht
    subst hE
    obtain rfl : r_33 = (1 <<< ((nI n) &&& 31)) := hw_33
    refine lv_ior hx hb dX7_thing_36 ?_
    refine lv_topi (fun v_36 ev_36 => ?_)
    refine va_put (D := (dC, dI)) (ci := 7) (v := .int v_36) (ty := .int) (C := RX7) (T := TX7) (N := 10) hx hb hts hiX7 tyX7 tyX7_ok nmX7 hown hK hP hD hS 0 rfl rfl 7 (by decide) (hts (.fieldLink RX7 54 "MadeItSo" "seenHeap" "I") (by decide +kernel)) (fun _ h9 => h9) rfl (by decide +kernel) rfl rfl (Nat.le_of_ble_eq_true rfl) dX7_thing_37 (fun H locs hP hD hS => ?_)
    have hP : va_P (dC, dI) vwCl [(mx, .inr (7, [.ref dr, .ref th, .ref bk, .ref wt, .ref tt, .ref lh, .ref la, .int v_36, .long ab, .long be])), (dr, .inr (2, [.ref dp, .ref dc, .int (nI ((n + 1)))])), (bk, .inr (1, [.ref bp])), (bp, .inl (cI, 1024, .inl gb_20))] H := hP
    have hD : va_D A [(mx, .inr (7, [.ref dr, .ref th, .ref bk, .ref wt, .ref tt, .ref lh, .ref la, .int v_36, .long ab, .long be])), (dr, .inr (2, [.ref dp, .ref dc, .int (nI ((n + 1)))])), (bk, .inr (1, [.ref bp])), (bp, .inl (cI, 1024, .inl gb_20))] := hD
    refine lv_iload_n hx hb dX7_thing_40 rfl (lv_at hl 0 rfl) ?_
    have hP9 := hP.sub (ws' := [(mx, .inr (7, [.ref dr, .ref th, .ref bk, .ref wt, .ref tt, .ref lh, .ref la, .int v_36, .long ab, .long be])), (dr, .inr (2, [.ref dp, .ref dc, .int (nI ((n + 1)))])), (bk, .inr (1, [.ref bp])), (bp, .inl (cI, 1024, .inl gb_20))]) [0, 1, 2, 3] rfl
    have hD9 := hD.sub (ws' := [(mx, .inr (7, [.ref dr, .ref th, .ref bk, .ref wt, .ref tt, .ref lh, .ref la, .int v_36, .long ab, .long be])), (dr, .inr (2, [.ref dp, .ref dc, .int (nI ((n + 1)))])), (bk, .inr (1, [.ref bp])), (bp, .inl (cI, 1024, .inl gb_20))]) [0, 1, 2, 3] (by decide) rfl
    refine W.widen (k := 0) (n := 0) (Nat.le_of_ble_eq_true rfl) (Nat.le_of_ble_eq_true rfl) ?_
    exact W.iret (v := (nI n)) hx hb hr (fun t ht hW => ⟨⟨(nI n), (), rfl, rfl, v_36, gb_20, by rw [ht]; exact hP9, hD9⟩, hS.F ht⟩) hS.2.2 dX7_thing_41
set_option maxHeartbeats 1000000 in
set_option maxRecDepth 100000 in
theorem mz_x_arrow (l : Launch) (dC : Nat → ClassId) (dI : Nat → Nat → Nat) (cI cJ cZ : ClassId) (mx : Nat) (dr : Nat) (th : Nat) (bk : Nat) (wt : Nat) (tt : Nat) (lh : Nat) (la : Nat) (sh : Int32) (ab : Int64) (be : Int64) (dp : Nat) (dc : Nat) (n : Nat) (fp : Nat → Int32) (fc : Nat → Int32) (bp : Nat) (fb : Nat → Int32) (p1 : Int32) (p2 : Int32) (sz : Nat) (hn : n ≤ 8) : Met l yX7_arrow wsX7_arrow ({ frames := 6, cells := 0, slots := 0, locals := 133 }) (va_Pc [.ref mx, .int p1, .int p2] (fun U => U.heap.size = sz ∧ va_P (dC, dI) vwCl [(mx, .inr (7, [.ref dr, .ref th, .ref bk, .ref wt, .ref tt, .ref lh, .ref la, .int sh, .long ab, .long be])), (dr, .inr (2, [.ref dp, .ref dc, .int (nI n)])), (dp, .inl (cI, 8, .inl fp)), (dc, .inl (cI, 8, .inl fc)), (bk, .inr (1, [.ref bp])), (bp, .inl (cI, 1024, .inl fb))] U.heap ∧ va_K (dC, dI) vwCl [(cI, FieldType.int), (cJ, FieldType.long), (cZ, FieldType.boolean)] U ∧ va_D (fun _ => True) [(mx, .inr (7, [.ref dr, .ref th, .ref bk, .ref wt, .ref tt, .ref lh, .ref la, .int sh, .long ab, .long be])), (dr, .inr (2, [.ref dp, .ref dc, .int (nI n)])), (dp, .inl (cI, 8, .inl fp)), (dc, .inl (cI, 8, .inl fc)), (bk, .inr (1, [.ref bp])), (bp, .inl (cI, 1024, .inl fb))] ∧ mz_N U)) (va_Qi (fun (r : Int32) (_ : Unit) => r = 0 ∨ r = 1) (fun _ t => ∃ (gp : Nat → Int32), ∃ (gc : Nat → Int32), ∃ (gb : Nat → Int32), va_P (dC, dI) vwCl [(mx, .inr (7, [.ref dr, .ref th, .ref bk, .ref wt, .ref tt, .ref lh, .ref la, .int sh, .long ab, .long be])), (dr, .inr (2, [.ref dp, .ref dc, .int (nI n)])), (dp, .inl (cI, 8, .inl gp)), (dc, .inl (cI, 8, .inl gc)), (bk, .inr (1, [.ref bp])), (bp, .inl (cI, 1024, .inl gb))] t.heap ∧ va_D (va_A [(mx, .inr (7, [.ref dr, .ref th, .ref bk, .ref wt, .ref tt, .ref lh, .ref la, .int sh, .long ab, .long be])), (dr, .inr (2, [.ref dp, .ref dc, .int (nI n)])), (dp, .inl (cI, 8, .inl fp)), (dc, .inl (cI, 8, .inl fc)), (bk, .inr (1, [.ref bp])), (bp, .inl (cI, 1024, .inl fb))] sz) [(mx, .inr (7, [.ref dr, .ref th, .ref bk, .ref wt, .ref tt, .ref lh, .ref la, .int sh, .long ab, .long be])), (dr, .inr (2, [.ref dp, .ref dc, .int (nI n)])), (dp, .inl (cI, 8, .inl gp)), (dc, .inl (cI, 8, .inl gc)), (bk, .inr (1, [.ref bp])), (bp, .inl (cI, 1024, .inl gb))]) (va_A [(mx, .inr (7, [.ref dr, .ref th, .ref bk, .ref wt, .ref tt, .ref lh, .ref la, .int sh, .long ab, .long be])), (dr, .inr (2, [.ref dp, .ref dc, .int (nI n)])), (dp, .inl (cI, 8, .inl fp)), (dc, .inl (cI, 8, .inl fc)), (bk, .inr (1, [.ref bp])), (bp, .inl (cI, 1024, .inl fb))] sz)) 0 0 (va_A [(mx, .inr (7, [.ref dr, .ref th, .ref bk, .ref wt, .ref tt, .ref lh, .ref la, .int sh, .long ab, .long be])), (dr, .inr (2, [.ref dp, .ref dc, .int (nI n)])), (dp, .inl (cI, 8, .inl fp)), (dc, .inl (cI, 8, .inl fc)), (bk, .inr (1, [.ref bp])), (bp, .inl (cI, 1024, .inl fb))] sz) := by
  refine Met.ofW (cc := cX7_arrow) (maxL := 3) (ret := (some .boolean)) (by decide) rfl ?_
  intro p e s m args below meth c s₁ B hml hv
  obtain ⟨rfl, hsz, hP, hK, hD0, hN⟩ := hv
  subst hsz
  have hx := B.exec
  have hb := B.bytes
  have hr := B.returns
  have hts := atoms_spec (ws := wsX7_arrow) B.pre
  have hown : s.vm.findClass RX7 = some m.cls := findClass_of_methodNamed B.named
  have hlocks := B.notSynchronized
  have hD := hD0.self (sz := s.heap.size)
  generalize hAe : va_A [(mx, .inr (7, [.ref dr, .ref th, .ref bk, .ref wt, .ref tt, .ref lh, .ref la, .int sh, .long ab, .long be])), (dr, .inr (2, [.ref dp, .ref dc, .int (nI n)])), (dp, .inl (cI, 8, .inl fp)), (dc, .inl (cI, 8, .inl fc)), (bk, .inr (1, [.ref bp])), (bp, .inl (cI, 1024, .inl fb))] s.heap.size = A at hD ⊢
  have hA : ∀ q : Nat, s.heap.size ≤ q → A q := fun q h => by rw [← hAe]; exact Or.inr h
  have hS : va_S A s.heap s.heap [] := va_S.rf
  have hiX7 : ∀ w ∈ u_ws RX7 TX7 10, w ∈ wsX7_arrow := by decide +kernel
  have hl := lv_entry ([.ref mx, .int p1, .int p2]) (n := 3) (Nat.le_of_ble_eq_true rfl)
  rw [lg_entry_eq]
  generalize (lg_sl ([.ref mx, .int p1, .int p2]) ++ List.replicate (3 - (lg_sl ([.ref mx, .int p1, .int p2])).length) Slot.unset).toArray = ls at hl ⊢
  have hl : lv_has ls 3 [(0, .ref mx), (1, .int p1), (2, .int p2)] := hl
  refine lv_aload_n hx hb dX7_arrow_0 rfl (lv_at hl 0 rfl) ?_
  refine va_get (D := (dC, dI)) (ci := 7) (v := .ref dr) (C := RX7) (T := TX7) (N := 10) hx hb hts hiX7 hown hK hP 0 rfl rfl 0 (by decide) (hts (.fieldLink RX7 12 "MadeItSo" "drawing" "LMadeItSo$Drawing;") (by decide +kernel)) (fun _ h9 => h9) rfl dX7_arrow_1 ?_
  refine lv_iload_n hx hb dX7_arrow_4 rfl (lv_at hl 1 rfl) ?_
  have hPc := hP.sub (ws' := [(dr, .inr (2, [.ref dp, .ref dc, .int (nI n)]))]) [1] rfl
  refine va_calli (va_runV (As := [.int p1]) (rest := []) ⟨hx, hb, hml, hown, hts⟩ (mz_d_has l dC dI cI cJ cZ dr dp dc n p1 s.heap (by first | assumption | omega)) (cwV 1 hts gX7_arrow_X2_has rfl rfl rfl (by decide +kernel) ⟨Nat.le_of_ble_eq_true rfl, Nat.le_of_ble_eq_true rfl⟩) ⟨fun a U g mk q => mz_blP q, va_recv hK hPc (ci := 2) (q0 := 0) rfl rfl, fun U hU hW => ⟨rfl, hU, hPc, va_K.moved hW.alike hK, mz_nw hW hN⟩⟩ rfl rfl hl.1 rfl (lv_room (Nat.le_of_ble_eq_true rfl)) dX7_arrow_5 ⟨Nat.le_of_ble_eq_true rfl, Nat.le_of_ble_eq_true rfl⟩) hS (fun q _ h => h.elim) (fun q h => h.elim) (fun r_5 u t H1 locs ht hvm hw_5 hB hz1 hk1 hS => ?_)
  have hE : s.heap = H1 := hB.symm.trans ht
  subst hE
  rcases (show (r_5 = 1 ∧ ∃ j : Nat, j < n ∧ p1 = nI j) ∨ r_5 = 0 from hw_5) with ⟨rfl, j_5, hj_5, he_5⟩ | rfl
  · skip
    subst he_5
    refine lv_if_eq (tgt := 34) hx hb dX7_arrow_8 (by decide) (fun c_8 => absurd c_8 (by decide +kernel)) (fun _ => ?_)
    refine lv_aload_n hx hb dX7_arrow_11 rfl (lv_at hl 0 rfl) ?_
    refine va_get (D := (dC, dI)) (ci := 7) (v := .ref dr) (C := RX7) (T := TX7) (N := 10) hx hb hts hiX7 hown hK hP 0 rfl rfl 0 (by decide) (hts (.fieldLink RX7 12 "MadeItSo" "drawing" "LMadeItSo$Drawing;") (by decide +kernel)) (fun _ h9 => h9) rfl dX7_arrow_12 ?_
    refine lv_iload_n hx hb dX7_arrow_15 rfl (lv_at hl 2 rfl) ?_
    have hPc := hP.sub (ws' := [(dr, .inr (2, [.ref dp, .ref dc, .int (nI n)]))]) [1] rfl
    refine va_calli (va_runV (As := [.int p2]) (rest := []) ⟨hx, hb, hml, hown, hts⟩ (mz_d_has l dC dI cI cJ cZ dr dp dc n p2 s.heap (by first | assumption | omega)) (cwV 1 hts gX7_arrow_X2_has rfl rfl rfl (by decide +kernel) ⟨Nat.le_of_ble_eq_true rfl, Nat.le_of_ble_eq_true rfl⟩) ⟨fun a U g mk q => mz_blP q, va_recv hK hPc (ci := 2) (q0 := 0) rfl rfl, fun U hU hW => ⟨rfl, hU, hPc, va_K.moved hW.alike hK, mz_nw hW hN⟩⟩ rfl rfl hl.1 rfl (lv_room (Nat.le_of_ble_eq_true rfl)) dX7_arrow_16 ⟨Nat.le_of_ble_eq_true rfl, Nat.le_of_ble_eq_true rfl⟩) hS (fun q _ h => h.elim) (fun q h => h.elim) (fun r_16 u t H1 locs ht hvm hw_16 hB hz1 hk1 hS => ?_)
    have hE : s.heap = H1 := hB.symm.trans ht
    subst hE
    rcases (show (r_16 = 1 ∧ ∃ j : Nat, j < n ∧ p2 = nI j) ∨ r_16 = 0 from hw_16) with ⟨rfl, j_16, hj_16, he_16⟩ | rfl
    · skip
      subst he_16
      refine lv_if_eq (tgt := 34) hx hb dX7_arrow_19 (by decide) (fun c_19 => absurd c_19 (by decide +kernel)) (fun _ => ?_)
      refine lv_aload_n hx hb dX7_arrow_22 rfl (lv_at hl 0 rfl) ?_
      refine va_get (D := (dC, dI)) (ci := 7) (v := .ref dr) (C := RX7) (T := TX7) (N := 10) hx hb hts hiX7 hown hK hP 0 rfl rfl 0 (by decide) (hts (.fieldLink RX7 12 "MadeItSo" "drawing" "LMadeItSo$Drawing;") (by decide +kernel)) (fun _ h9 => h9) rfl dX7_arrow_23 ?_
      refine lv_iload_n hx hb dX7_arrow_26 rfl (lv_at hl 1 rfl) ?_
      refine lv_iload_n hx hb dX7_arrow_27 rfl (lv_at hl 2 rfl) ?_
      have hPc := hP.sub (ws' := [(dr, .inr (2, [.ref dp, .ref dc, .int (nI n)])), (dp, .inl (cI, 8, .inl fp)), (dc, .inl (cI, 8, .inl fc))]) [1, 2, 3] rfl
      refine va_calli (va_runV (As := [.int (nI j_5), .int (nI j_16)]) (rest := []) ⟨hx, hb, hml, hown, hts⟩ (mz_d_canJoin l dC dI cI cJ cZ dr dp dc n fp fc (nI j_5) (nI j_16) s.heap (by first | assumption | omega)) (cwV 2 hts gX7_arrow_X2_canJoin rfl rfl rfl (by decide +kernel) ⟨Nat.le_of_ble_eq_true rfl, Nat.le_of_ble_eq_true rfl⟩) ⟨fun a U g mk q => mz_blP q, va_recv hK hPc (ci := 2) (q0 := 0) rfl rfl, fun U hU hW => ⟨rfl, hU, hPc, va_K.moved hW.alike hK, mz_nw hW hN⟩⟩ rfl rfl hl.1 rfl (lv_room (Nat.le_of_ble_eq_true rfl)) dX7_arrow_28 ⟨Nat.le_of_ble_eq_true rfl, Nat.le_of_ble_eq_true rfl⟩) hS (fun q _ h => h.elim) (fun q h => h.elim) (fun r_28 u t H1 locs ht hvm hw_28 hB hz1 hk1 hS => ?_)
      have hE : s.heap = H1 := hB.symm.trans ht
      subst hE
      refine lv_if_ne (tgt := 36) hx hb dX7_arrow_31 (by decide) (fun c_31 => ?_) (fun c_31 => ?_)
      · skip
        refine lv_aload_n hx hb dX7_arrow_36 rfl (lv_at hl 0 rfl) ?_
        refine va_get (D := (dC, dI)) (ci := 7) (v := .ref dr) (C := RX7) (T := TX7) (N := 10) hx hb hts hiX7 hown hK hP 0 rfl rfl 0 (by decide) (hts (.fieldLink RX7 12 "MadeItSo" "drawing" "LMadeItSo$Drawing;") (by decide +kernel)) (fun _ h9 => h9) rfl dX7_arrow_37 ?_
        refine lv_iload_n hx hb dX7_arrow_40 rfl (lv_at hl 1 rfl) ?_
        refine lv_iload_n hx hb dX7_arrow_41 rfl (lv_at hl 2 rfl) ?_
        have hPc := hP.sub (ws' := [(dr, .inr (2, [.ref dp, .ref dc, .int (nI n)])), (dp, .inl (cI, 8, .inl fp)), (dc, .inl (cI, 8, .inl fc))]) [1, 2, 3] rfl
        have hDc := hD.sub (ws' := [(dr, .inr (2, [.ref dp, .ref dc, .int (nI n)])), (dp, .inl (cI, 8, .inl fp)), (dc, .inl (cI, 8, .inl fc))]) [1, 2, 3] (by decide) rfl
        have hFc := va_free (wc := [(dr, .inr (2, [.ref dp, .ref dc, .int (nI n)])), (dp, .inl (cI, 8, .inl fp)), (dc, .inl (cI, 8, .inl fc))]) hD hS hA [1, 2, 3] rfl
        refine va_callv (va_runV (As := [.int (nI j_5), .int (nI j_16)]) (rest := []) ⟨hx, hb, hml, hown, hts⟩ (mz_d_join l dC dI cI cJ cZ dr dp dc n fp fc (nI j_5) (nI j_16) s.heap.size (by first | assumption | omega)) (cwV 2 hts gX7_arrow_X2_join rfl rfl rfl (by decide +kernel) ⟨Nat.le_of_ble_eq_true rfl, Nat.le_of_ble_eq_true rfl⟩) ⟨fun a U g mk q => mz_blI q, va_recv hK hPc (ci := 2) (q0 := 0) rfl rfl, fun U hU hW => ⟨rfl, by rw [hU], by rw [hU]; exact hPc, va_K.moved hW.alike hK, hDc.weaken (fun _ _ _ _ => trivial), mz_nw hW hN⟩⟩ rfl rfl hl.1 rfl (lv_room (Nat.le_of_ble_eq_true rfl)) dX7_arrow_42 ⟨Nat.le_of_ble_eq_true rfl, Nat.le_of_ble_eq_true rfl⟩) hS (fun q _ h => hFc q h) hFc (fun u t H1 locs ht hvm hw_42 hB hz1 hk1 hS => ?_)
        obtain ⟨gp_42, gc_42, hP1, hD1⟩ := hB
        rw [ht] at hP1
        obtain ⟨hP, hD⟩ := va_join (wr := [(mx, .inr (7, [.ref dr, .ref th, .ref bk, .ref wt, .ref tt, .ref lh, .ref la, .int sh, .long ab, .long be])), (bk, .inr (1, [.ref bp])), (bp, .inl (cI, 1024, .inl fb))]) (w1 := [(dr, .inr (2, [.ref dp, .ref dc, .int (nI n)])), (dp, .inl (cI, 8, .inl gp_42)), (dc, .inl (cI, 8, .inl gc_42))]) hP hD [1, 2, 3] [0, 4, 5] rfl rfl (by decide) (by decide) hk1 hFc hP1 hD1
        generalize H1 = H at hP hS ⊢
        have hP : va_P (dC, dI) vwCl [(mx, .inr (7, [.ref dr, .ref th, .ref bk, .ref wt, .ref tt, .ref lh, .ref la, .int sh, .long ab, .long be])), (bk, .inr (1, [.ref bp])), (bp, .inl (cI, 1024, .inl fb)), (dr, .inr (2, [.ref dp, .ref dc, .int (nI n)])), (dp, .inl (cI, 8, .inl gp_42)), (dc, .inl (cI, 8, .inl gc_42))] H := hP
        have hD : va_D A [(mx, .inr (7, [.ref dr, .ref th, .ref bk, .ref wt, .ref tt, .ref lh, .ref la, .int sh, .long ab, .long be])), (bk, .inr (1, [.ref bp])), (bp, .inl (cI, 1024, .inl fb)), (dr, .inr (2, [.ref dp, .ref dc, .int (nI n)])), (dp, .inl (cI, 8, .inl gp_42)), (dc, .inl (cI, 8, .inl gc_42))] := hD
        refine lv_aload_n hx hb dX7_arrow_45 rfl (lv_at hl 0 rfl) ?_
        refine va_get (D := (dC, dI)) (ci := 7) (v := .ref bk) (C := RX7) (T := TX7) (N := 10) hx hb hts hiX7 hown hK hP 0 rfl rfl 2 (by decide) (hts (.fieldLink RX7 22 "MadeItSo" "books" "LMadeItSo$Books;") (by decide +kernel)) (fun _ h9 => h9) rfl dX7_arrow_46 ?_
        refine lv_iload_n hx hb dX7_arrow_49 rfl (lv_at hl 2 rfl) ?_
        have hPc := hP.sub (ws' := [(bk, .inr (1, [.ref bp])), (bp, .inl (cI, 1024, .inl fb))]) [1, 2] rfl
        have hDc := hD.sub (ws' := [(bk, .inr (1, [.ref bp])), (bp, .inl (cI, 1024, .inl fb))]) [1, 2] (by decide) rfl
        have hFc := va_free (wc := [(bk, .inr (1, [.ref bp])), (bp, .inl (cI, 1024, .inl fb))]) hD hS hA [1, 2] rfl
        refine va_callv (va_runV (As := [.int (nI j_16)]) (rest := []) ⟨hx, hb, hml, hown, hts⟩ (mz_b_blank l dC dI cI cJ cZ bk bp fb (nI j_16) H.size ) (cwV 1 hts gX7_arrow_X1_blank rfl rfl rfl (by decide +kernel) ⟨Nat.le_of_ble_eq_true rfl, Nat.le_of_ble_eq_true rfl⟩) ⟨fun a U g mk q => mz_blI q, va_recv hK hPc (ci := 1) (q0 := 0) rfl rfl, fun U hU hW => ⟨rfl, by rw [hU], by rw [hU]; exact hPc, va_K.moved hW.alike hK, hDc.weaken (fun _ _ _ _ => trivial), mz_nw hW hN⟩⟩ rfl rfl hl.1 rfl (lv_room (Nat.le_of_ble_eq_true rfl)) dX7_arrow_50 ⟨Nat.le_of_ble_eq_true rfl, Nat.le_of_ble_eq_true rfl⟩) hS (fun q _ h => hFc q h) hFc (fun u t H1 locs ht hvm hw_50 hB hz1 hk1 hS => ?_)
        obtain ⟨gb_50, hP1, hD1⟩ := hB
        rw [ht] at hP1
        obtain ⟨hP, hD⟩ := va_join (wr := [(mx, .inr (7, [.ref dr, .ref th, .ref bk, .ref wt, .ref tt, .ref lh, .ref la, .int sh, .long ab, .long be])), (dr, .inr (2, [.ref dp, .ref dc, .int (nI n)])), (dp, .inl (cI, 8, .inl gp_42)), (dc, .inl (cI, 8, .inl gc_42))]) (w1 := [(bk, .inr (1, [.ref bp])), (bp, .inl (cI, 1024, .inl gb_50))]) hP hD [1, 2] [0, 3, 4, 5] rfl rfl (by decide) (by decide) hk1 hFc hP1 hD1
        generalize H1 = H at hP hS ⊢
        have hP : va_P (dC, dI) vwCl [(mx, .inr (7, [.ref dr, .ref th, .ref bk, .ref wt, .ref tt, .ref lh, .ref la, .int sh, .long ab, .long be])), (dr, .inr (2, [.ref dp, .ref dc, .int (nI n)])), (dp, .inl (cI, 8, .inl gp_42)), (dc, .inl (cI, 8, .inl gc_42)), (bk, .inr (1, [.ref bp])), (bp, .inl (cI, 1024, .inl gb_50))] H := hP
        have hD : va_D A [(mx, .inr (7, [.ref dr, .ref th, .ref bk, .ref wt, .ref tt, .ref lh, .ref la, .int sh, .long ab, .long be])), (dr, .inr (2, [.ref dp, .ref dc, .int (nI n)])), (dp, .inl (cI, 8, .inl gp_42)), (dc, .inl (cI, 8, .inl gc_42)), (bk, .inr (1, [.ref bp])), (bp, .inl (cI, 1024, .inl gb_50))] := hD
        refine lv_iconst (v := 1) hx hb dX7_arrow_53 (by decide +kernel) ?_
        have hP9 := hP.sub (ws' := [(mx, .inr (7, [.ref dr, .ref th, .ref bk, .ref wt, .ref tt, .ref lh, .ref la, .int sh, .long ab, .long be])), (dr, .inr (2, [.ref dp, .ref dc, .int (nI n)])), (dp, .inl (cI, 8, .inl gp_42)), (dc, .inl (cI, 8, .inl gc_42)), (bk, .inr (1, [.ref bp])), (bp, .inl (cI, 1024, .inl gb_50))]) [0, 1, 2, 3, 4, 5] rfl
        have hD9 := hD.sub (ws' := [(mx, .inr (7, [.ref dr, .ref th, .ref bk, .ref wt, .ref tt, .ref lh, .ref la, .int sh, .long ab, .long be])), (dr, .inr (2, [.ref dp, .ref dc, .int (nI n)])), (dp, .inl (cI, 8, .inl gp_42)), (dc, .inl (cI, 8, .inl gc_42)), (bk, .inr (1, [.ref bp])), (bp, .inl (cI, 1024, .inl gb_50))]) [0, 1, 2, 3, 4, 5] (by decide) rfl
        refine W.widen (k := 0) (n := 0) (Nat.le_of_ble_eq_true rfl) (Nat.le_of_ble_eq_true rfl) ?_
        exact W.zret (v := 1) hx hb hr (mz_nz (by decide +kernel)) (fun t ht hW => ⟨⟨1, (), rfl, Or.inr rfl, gp_42, gc_42, gb_50, by rw [ht]; exact hP9, hD9⟩, hS.F ht⟩) hS.2.2 dX7_arrow_54
      · skip
        refine lv_iconst (v := 0) hx hb dX7_arrow_34 (by decide +kernel) ?_
        have hP9 := hP.sub (ws' := [(mx, .inr (7, [.ref dr, .ref th, .ref bk, .ref wt, .ref tt, .ref lh, .ref la, .int sh, .long ab, .long be])), (dr, .inr (2, [.ref dp, .ref dc, .int (nI n)])), (dp, .inl (cI, 8, .inl fp)), (dc, .inl (cI, 8, .inl fc)), (bk, .inr (1, [.ref bp])), (bp, .inl (cI, 1024, .inl fb))]) [0, 1, 2, 3, 4, 5] rfl
        have hD9 := hD.sub (ws' := [(mx, .inr (7, [.ref dr, .ref th, .ref bk, .ref wt, .ref tt, .ref lh, .ref la, .int sh, .long ab, .long be])), (dr, .inr (2, [.ref dp, .ref dc, .int (nI n)])), (dp, .inl (cI, 8, .inl fp)), (dc, .inl (cI, 8, .inl fc)), (bk, .inr (1, [.ref bp])), (bp, .inl (cI, 1024, .inl fb))]) [0, 1, 2, 3, 4, 5] (by decide) rfl
        refine W.widen (k := 0) (n := 0) (Nat.le_of_ble_eq_true rfl) (Nat.le_of_ble_eq_true rfl) ?_
        exact W.zret (v := 0) hx hb hr (mz_nz (by decide +kernel)) (fun t ht hW => ⟨⟨0, (), rfl, Or.inl rfl, fp, fc, fb, by rw [ht]; exact hP9, hD9⟩, hS.F ht⟩) hS.2.2 dX7_arrow_35
    · skip
      refine lv_if_eq (tgt := 34) hx hb dX7_arrow_19 (by decide) (fun _ => ?_) (fun c_19 => absurd (by decide +kernel) c_19)
      refine lv_iconst (v := 0) hx hb dX7_arrow_34 (by decide +kernel) ?_
      have hP9 := hP.sub (ws' := [(mx, .inr (7, [.ref dr, .ref th, .ref bk, .ref wt, .ref tt, .ref lh, .ref la, .int sh, .long ab, .long be])), (dr, .inr (2, [.ref dp, .ref dc, .int (nI n)])), (dp, .inl (cI, 8, .inl fp)), (dc, .inl (cI, 8, .inl fc)), (bk, .inr (1, [.ref bp])), (bp, .inl (cI, 1024, .inl fb))]) [0, 1, 2, 3, 4, 5] rfl
      have hD9 := hD.sub (ws' := [(mx, .inr (7, [.ref dr, .ref th, .ref bk, .ref wt, .ref tt, .ref lh, .ref la, .int sh, .long ab, .long be])), (dr, .inr (2, [.ref dp, .ref dc, .int (nI n)])), (dp, .inl (cI, 8, .inl fp)), (dc, .inl (cI, 8, .inl fc)), (bk, .inr (1, [.ref bp])), (bp, .inl (cI, 1024, .inl fb))]) [0, 1, 2, 3, 4, 5] (by decide) rfl
      refine W.widen (k := 0) (n := 0) (Nat.le_of_ble_eq_true rfl) (Nat.le_of_ble_eq_true rfl) ?_
      exact W.zret (v := 0) hx hb hr (mz_nz (by decide +kernel)) (fun t ht hW => ⟨⟨0, (), rfl, Or.inl rfl, fp, fc, fb, by rw [ht]; exact hP9, hD9⟩, hS.F ht⟩) hS.2.2 dX7_arrow_35
  · skip
    refine lv_if_eq (tgt := 34) hx hb dX7_arrow_8 (by decide) (fun _ => ?_) (fun c_8 => absurd (by decide +kernel) c_8)
    refine lv_iconst (v := 0) hx hb dX7_arrow_34 (by decide +kernel) ?_
    have hP9 := hP.sub (ws' := [(mx, .inr (7, [.ref dr, .ref th, .ref bk, .ref wt, .ref tt, .ref lh, .ref la, .int sh, .long ab, .long be])), (dr, .inr (2, [.ref dp, .ref dc, .int (nI n)])), (dp, .inl (cI, 8, .inl fp)), (dc, .inl (cI, 8, .inl fc)), (bk, .inr (1, [.ref bp])), (bp, .inl (cI, 1024, .inl fb))]) [0, 1, 2, 3, 4, 5] rfl
    have hD9 := hD.sub (ws' := [(mx, .inr (7, [.ref dr, .ref th, .ref bk, .ref wt, .ref tt, .ref lh, .ref la, .int sh, .long ab, .long be])), (dr, .inr (2, [.ref dp, .ref dc, .int (nI n)])), (dp, .inl (cI, 8, .inl fp)), (dc, .inl (cI, 8, .inl fc)), (bk, .inr (1, [.ref bp])), (bp, .inl (cI, 1024, .inl fb))]) [0, 1, 2, 3, 4, 5] (by decide) rfl
    refine W.widen (k := 0) (n := 0) (Nat.le_of_ble_eq_true rfl) (Nat.le_of_ble_eq_true rfl) ?_
    exact W.zret (v := 0) hx hb hr (mz_nz (by decide +kernel)) (fun t ht hW => ⟨⟨0, (), rfl, Or.inl rfl, fp, fc, fb, by rw [ht]; exact hP9, hD9⟩, hS.F ht⟩) hS.2.2 dX7_arrow_35
set_option maxHeartbeats 1000000 in
set_option maxRecDepth 100000 in
theorem mz_x_cut (l : Launch) (dC : Nat → ClassId) (dI : Nat → Nat → Nat) (cI cJ cZ : ClassId) (mx : Nat) (dr : Nat) (th : Nat) (bk : Nat) (wt : Nat) (tt : Nat) (lh : Nat) (la : Nat) (sh : Int32) (ab : Int64) (be : Int64) (dp : Nat) (dc : Nat) (n : Nat) (fp : Nat → Int32) (fc : Nat → Int32) (bp : Nat) (fb : Nat → Int32) (p1 : Int32) (p2 : Int32) (sz : Nat) (hn : n ≤ 8) : Met l yX7_cut wsX7_cut ({ frames := 2, cells := 0, slots := 0, locals := 43 }) (va_Pc [.ref mx, .int p1, .int p2] (fun U => U.heap.size = sz ∧ va_P (dC, dI) vwCl [(mx, .inr (7, [.ref dr, .ref th, .ref bk, .ref wt, .ref tt, .ref lh, .ref la, .int sh, .long ab, .long be])), (dr, .inr (2, [.ref dp, .ref dc, .int (nI n)])), (dp, .inl (cI, 8, .inl fp)), (dc, .inl (cI, 8, .inl fc)), (bk, .inr (1, [.ref bp])), (bp, .inl (cI, 1024, .inl fb))] U.heap ∧ va_K (dC, dI) vwCl [(cI, FieldType.int), (cJ, FieldType.long), (cZ, FieldType.boolean)] U ∧ va_D (fun _ => True) [(mx, .inr (7, [.ref dr, .ref th, .ref bk, .ref wt, .ref tt, .ref lh, .ref la, .int sh, .long ab, .long be])), (dr, .inr (2, [.ref dp, .ref dc, .int (nI n)])), (dp, .inl (cI, 8, .inl fp)), (dc, .inl (cI, 8, .inl fc)), (bk, .inr (1, [.ref bp])), (bp, .inl (cI, 1024, .inl fb))] ∧ mz_N U)) (va_Qi (fun (r : Int32) (_ : Unit) => r = 0 ∨ r = 1) (fun _ t => ∃ (gp : Nat → Int32), ∃ (gc : Nat → Int32), ∃ (gb : Nat → Int32), va_P (dC, dI) vwCl [(mx, .inr (7, [.ref dr, .ref th, .ref bk, .ref wt, .ref tt, .ref lh, .ref la, .int sh, .long ab, .long be])), (dr, .inr (2, [.ref dp, .ref dc, .int (nI n)])), (dp, .inl (cI, 8, .inl gp)), (dc, .inl (cI, 8, .inl gc)), (bk, .inr (1, [.ref bp])), (bp, .inl (cI, 1024, .inl gb))] t.heap ∧ va_D (va_A [(mx, .inr (7, [.ref dr, .ref th, .ref bk, .ref wt, .ref tt, .ref lh, .ref la, .int sh, .long ab, .long be])), (dr, .inr (2, [.ref dp, .ref dc, .int (nI n)])), (dp, .inl (cI, 8, .inl fp)), (dc, .inl (cI, 8, .inl fc)), (bk, .inr (1, [.ref bp])), (bp, .inl (cI, 1024, .inl fb))] sz) [(mx, .inr (7, [.ref dr, .ref th, .ref bk, .ref wt, .ref tt, .ref lh, .ref la, .int sh, .long ab, .long be])), (dr, .inr (2, [.ref dp, .ref dc, .int (nI n)])), (dp, .inl (cI, 8, .inl gp)), (dc, .inl (cI, 8, .inl gc)), (bk, .inr (1, [.ref bp])), (bp, .inl (cI, 1024, .inl gb))]) (va_A [(mx, .inr (7, [.ref dr, .ref th, .ref bk, .ref wt, .ref tt, .ref lh, .ref la, .int sh, .long ab, .long be])), (dr, .inr (2, [.ref dp, .ref dc, .int (nI n)])), (dp, .inl (cI, 8, .inl fp)), (dc, .inl (cI, 8, .inl fc)), (bk, .inr (1, [.ref bp])), (bp, .inl (cI, 1024, .inl fb))] sz)) 0 0 (va_A [(mx, .inr (7, [.ref dr, .ref th, .ref bk, .ref wt, .ref tt, .ref lh, .ref la, .int sh, .long ab, .long be])), (dr, .inr (2, [.ref dp, .ref dc, .int (nI n)])), (dp, .inl (cI, 8, .inl fp)), (dc, .inl (cI, 8, .inl fc)), (bk, .inr (1, [.ref bp])), (bp, .inl (cI, 1024, .inl fb))] sz) := by
  refine Met.ofW (cc := cX7_cut) (maxL := 3) (ret := (some .boolean)) (by decide) rfl ?_
  intro p e s m args below meth c s₁ B hml hv
  obtain ⟨rfl, hsz, hP, hK, hD0, hN⟩ := hv
  subst hsz
  have hx := B.exec
  have hb := B.bytes
  have hr := B.returns
  have hts := atoms_spec (ws := wsX7_cut) B.pre
  have hown : s.vm.findClass RX7 = some m.cls := findClass_of_methodNamed B.named
  have hlocks := B.notSynchronized
  have hD := hD0.self (sz := s.heap.size)
  generalize hAe : va_A [(mx, .inr (7, [.ref dr, .ref th, .ref bk, .ref wt, .ref tt, .ref lh, .ref la, .int sh, .long ab, .long be])), (dr, .inr (2, [.ref dp, .ref dc, .int (nI n)])), (dp, .inl (cI, 8, .inl fp)), (dc, .inl (cI, 8, .inl fc)), (bk, .inr (1, [.ref bp])), (bp, .inl (cI, 1024, .inl fb))] s.heap.size = A at hD ⊢
  have hA : ∀ q : Nat, s.heap.size ≤ q → A q := fun q h => by rw [← hAe]; exact Or.inr h
  have hS : va_S A s.heap s.heap [] := va_S.rf
  have hiX7 : ∀ w ∈ u_ws RX7 TX7 10, w ∈ wsX7_cut := by decide +kernel
  have hl := lv_entry ([.ref mx, .int p1, .int p2]) (n := 3) (Nat.le_of_ble_eq_true rfl)
  rw [lg_entry_eq]
  generalize (lg_sl ([.ref mx, .int p1, .int p2]) ++ List.replicate (3 - (lg_sl ([.ref mx, .int p1, .int p2])).length) Slot.unset).toArray = ls at hl ⊢
  have hl : lv_has ls 3 [(0, .ref mx), (1, .int p1), (2, .int p2)] := hl
  refine lv_aload_n hx hb dX7_cut_0 rfl (lv_at hl 0 rfl) ?_
  refine va_get (D := (dC, dI)) (ci := 7) (v := .ref dr) (C := RX7) (T := TX7) (N := 10) hx hb hts hiX7 hown hK hP 0 rfl rfl 0 (by decide) (hts (.fieldLink RX7 12 "MadeItSo" "drawing" "LMadeItSo$Drawing;") (by decide +kernel)) (fun _ h9 => h9) rfl dX7_cut_1 ?_
  refine lv_iload_n hx hb dX7_cut_4 rfl (lv_at hl 1 rfl) ?_
  refine lv_iload_n hx hb dX7_cut_5 rfl (lv_at hl 2 rfl) ?_
  have hPc := hP.sub (ws' := [(dr, .inr (2, [.ref dp, .ref dc, .int (nI n)])), (dc, .inl (cI, 8, .inl fc))]) [1, 3] rfl
  refine va_calli (va_runV (As := [.int p1, .int p2]) (rest := []) ⟨hx, hb, hml, hown, hts⟩ (mz_d_leads l dC dI cI cJ cZ dr dp dc n fc p1 p2 s.heap (by first | assumption | omega)) (cwV 2 hts gX7_cut_X2_leads rfl rfl rfl (by decide +kernel) ⟨Nat.le_of_ble_eq_true rfl, Nat.le_of_ble_eq_true rfl⟩) ⟨fun a U g mk q => mz_blP q, va_recv hK hPc (ci := 2) (q0 := 0) rfl rfl, fun U hU hW => ⟨rfl, hU, hPc, va_K.moved hW.alike hK, mz_nw hW hN⟩⟩ rfl rfl hl.1 rfl (lv_room (Nat.le_of_ble_eq_true rfl)) dX7_cut_6 ⟨Nat.le_of_ble_eq_true rfl, Nat.le_of_ble_eq_true rfl⟩) hS (fun q _ h => h.elim) (fun q h => h.elim) (fun r_6 u t H1 locs ht hvm hw_6 hB hz1 hk1 hS => ?_)
  have hE : s.heap = H1 := hB.symm.trans ht
  subst hE
  refine lv_if_ne (tgt := 14) hx hb dX7_cut_9 (by decide) (fun c_9 => ?_) (fun c_9 => ?_)
  · skip
    refine lv_aload_n hx hb dX7_cut_14 rfl (lv_at hl 0 rfl) ?_
    refine va_get (D := (dC, dI)) (ci := 7) (v := .ref dr) (C := RX7) (T := TX7) (N := 10) hx hb hts hiX7 hown hK hP 0 rfl rfl 0 (by decide) (hts (.fieldLink RX7 12 "MadeItSo" "drawing" "LMadeItSo$Drawing;") (by decide +kernel)) (fun _ h9 => h9) rfl dX7_cut_15 ?_
    refine lv_iload_n hx hb dX7_cut_18 rfl (lv_at hl 1 rfl) ?_
    refine lv_iload_n hx hb dX7_cut_19 rfl (lv_at hl 2 rfl) ?_
    have hPc := hP.sub (ws' := [(dr, .inr (2, [.ref dp, .ref dc, .int (nI n)])), (dp, .inl (cI, 8, .inl fp)), (dc, .inl (cI, 8, .inl fc))]) [1, 2, 3] rfl
    have hDc := hD.sub (ws' := [(dr, .inr (2, [.ref dp, .ref dc, .int (nI n)])), (dp, .inl (cI, 8, .inl fp)), (dc, .inl (cI, 8, .inl fc))]) [1, 2, 3] (by decide) rfl
    have hFc := va_free (wc := [(dr, .inr (2, [.ref dp, .ref dc, .int (nI n)])), (dp, .inl (cI, 8, .inl fp)), (dc, .inl (cI, 8, .inl fc))]) hD hS hA [1, 2, 3] rfl
    refine va_callv (va_runV (As := [.int p1, .int p2]) (rest := []) ⟨hx, hb, hml, hown, hts⟩ (mz_d_part l dC dI cI cJ cZ dr dp dc n fp fc p1 p2 s.heap.size (by first | assumption | omega)) (cwV 2 hts gX7_cut_X2_part rfl rfl rfl (by decide +kernel) ⟨Nat.le_of_ble_eq_true rfl, Nat.le_of_ble_eq_true rfl⟩) ⟨fun a U g mk q => mz_blI q, va_recv hK hPc (ci := 2) (q0 := 0) rfl rfl, fun U hU hW => ⟨rfl, by rw [hU], by rw [hU]; exact hPc, va_K.moved hW.alike hK, hDc.weaken (fun _ _ _ _ => trivial), mz_nw hW hN⟩⟩ rfl rfl hl.1 rfl (lv_room (Nat.le_of_ble_eq_true rfl)) dX7_cut_20 ⟨Nat.le_of_ble_eq_true rfl, Nat.le_of_ble_eq_true rfl⟩) hS (fun q _ h => hFc q h) hFc (fun u t H1 locs ht hvm hw_20 hB hz1 hk1 hS => ?_)
    obtain ⟨gp_20, gc_20, hP1, hD1⟩ := hB
    rw [ht] at hP1
    obtain ⟨hP, hD⟩ := va_join (wr := [(mx, .inr (7, [.ref dr, .ref th, .ref bk, .ref wt, .ref tt, .ref lh, .ref la, .int sh, .long ab, .long be])), (bk, .inr (1, [.ref bp])), (bp, .inl (cI, 1024, .inl fb))]) (w1 := [(dr, .inr (2, [.ref dp, .ref dc, .int (nI n)])), (dp, .inl (cI, 8, .inl gp_20)), (dc, .inl (cI, 8, .inl gc_20))]) hP hD [1, 2, 3] [0, 4, 5] rfl rfl (by decide) (by decide) hk1 hFc hP1 hD1
    generalize H1 = H at hP hS ⊢
    have hP : va_P (dC, dI) vwCl [(mx, .inr (7, [.ref dr, .ref th, .ref bk, .ref wt, .ref tt, .ref lh, .ref la, .int sh, .long ab, .long be])), (bk, .inr (1, [.ref bp])), (bp, .inl (cI, 1024, .inl fb)), (dr, .inr (2, [.ref dp, .ref dc, .int (nI n)])), (dp, .inl (cI, 8, .inl gp_20)), (dc, .inl (cI, 8, .inl gc_20))] H := hP
    have hD : va_D A [(mx, .inr (7, [.ref dr, .ref th, .ref bk, .ref wt, .ref tt, .ref lh, .ref la, .int sh, .long ab, .long be])), (bk, .inr (1, [.ref bp])), (bp, .inl (cI, 1024, .inl fb)), (dr, .inr (2, [.ref dp, .ref dc, .int (nI n)])), (dp, .inl (cI, 8, .inl gp_20)), (dc, .inl (cI, 8, .inl gc_20))] := hD
    refine lv_aload_n hx hb dX7_cut_23 rfl (lv_at hl 0 rfl) ?_
    refine va_get (D := (dC, dI)) (ci := 7) (v := .ref bk) (C := RX7) (T := TX7) (N := 10) hx hb hts hiX7 hown hK hP 0 rfl rfl 2 (by decide) (hts (.fieldLink RX7 22 "MadeItSo" "books" "LMadeItSo$Books;") (by decide +kernel)) (fun _ h9 => h9) rfl dX7_cut_24 ?_
    refine lv_iload_n hx hb dX7_cut_27 rfl (lv_at hl 2 rfl) ?_
    have hPc := hP.sub (ws' := [(bk, .inr (1, [.ref bp])), (bp, .inl (cI, 1024, .inl fb))]) [1, 2] rfl
    have hDc := hD.sub (ws' := [(bk, .inr (1, [.ref bp])), (bp, .inl (cI, 1024, .inl fb))]) [1, 2] (by decide) rfl
    have hFc := va_free (wc := [(bk, .inr (1, [.ref bp])), (bp, .inl (cI, 1024, .inl fb))]) hD hS hA [1, 2] rfl
    refine va_callv (va_runV (As := [.int p2]) (rest := []) ⟨hx, hb, hml, hown, hts⟩ (mz_b_blank l dC dI cI cJ cZ bk bp fb p2 H.size ) (cwV 1 hts gX7_cut_X1_blank rfl rfl rfl (by decide +kernel) ⟨Nat.le_of_ble_eq_true rfl, Nat.le_of_ble_eq_true rfl⟩) ⟨fun a U g mk q => mz_blI q, va_recv hK hPc (ci := 1) (q0 := 0) rfl rfl, fun U hU hW => ⟨rfl, by rw [hU], by rw [hU]; exact hPc, va_K.moved hW.alike hK, hDc.weaken (fun _ _ _ _ => trivial), mz_nw hW hN⟩⟩ rfl rfl hl.1 rfl (lv_room (Nat.le_of_ble_eq_true rfl)) dX7_cut_28 ⟨Nat.le_of_ble_eq_true rfl, Nat.le_of_ble_eq_true rfl⟩) hS (fun q _ h => hFc q h) hFc (fun u t H1 locs ht hvm hw_28 hB hz1 hk1 hS => ?_)
    obtain ⟨gb_28, hP1, hD1⟩ := hB
    rw [ht] at hP1
    obtain ⟨hP, hD⟩ := va_join (wr := [(mx, .inr (7, [.ref dr, .ref th, .ref bk, .ref wt, .ref tt, .ref lh, .ref la, .int sh, .long ab, .long be])), (dr, .inr (2, [.ref dp, .ref dc, .int (nI n)])), (dp, .inl (cI, 8, .inl gp_20)), (dc, .inl (cI, 8, .inl gc_20))]) (w1 := [(bk, .inr (1, [.ref bp])), (bp, .inl (cI, 1024, .inl gb_28))]) hP hD [1, 2] [0, 3, 4, 5] rfl rfl (by decide) (by decide) hk1 hFc hP1 hD1
    generalize H1 = H at hP hS ⊢
    have hP : va_P (dC, dI) vwCl [(mx, .inr (7, [.ref dr, .ref th, .ref bk, .ref wt, .ref tt, .ref lh, .ref la, .int sh, .long ab, .long be])), (dr, .inr (2, [.ref dp, .ref dc, .int (nI n)])), (dp, .inl (cI, 8, .inl gp_20)), (dc, .inl (cI, 8, .inl gc_20)), (bk, .inr (1, [.ref bp])), (bp, .inl (cI, 1024, .inl gb_28))] H := hP
    have hD : va_D A [(mx, .inr (7, [.ref dr, .ref th, .ref bk, .ref wt, .ref tt, .ref lh, .ref la, .int sh, .long ab, .long be])), (dr, .inr (2, [.ref dp, .ref dc, .int (nI n)])), (dp, .inl (cI, 8, .inl gp_20)), (dc, .inl (cI, 8, .inl gc_20)), (bk, .inr (1, [.ref bp])), (bp, .inl (cI, 1024, .inl gb_28))] := hD
    refine lv_iconst (v := 1) hx hb dX7_cut_31 (by decide +kernel) ?_
    have hP9 := hP.sub (ws' := [(mx, .inr (7, [.ref dr, .ref th, .ref bk, .ref wt, .ref tt, .ref lh, .ref la, .int sh, .long ab, .long be])), (dr, .inr (2, [.ref dp, .ref dc, .int (nI n)])), (dp, .inl (cI, 8, .inl gp_20)), (dc, .inl (cI, 8, .inl gc_20)), (bk, .inr (1, [.ref bp])), (bp, .inl (cI, 1024, .inl gb_28))]) [0, 1, 2, 3, 4, 5] rfl
    have hD9 := hD.sub (ws' := [(mx, .inr (7, [.ref dr, .ref th, .ref bk, .ref wt, .ref tt, .ref lh, .ref la, .int sh, .long ab, .long be])), (dr, .inr (2, [.ref dp, .ref dc, .int (nI n)])), (dp, .inl (cI, 8, .inl gp_20)), (dc, .inl (cI, 8, .inl gc_20)), (bk, .inr (1, [.ref bp])), (bp, .inl (cI, 1024, .inl gb_28))]) [0, 1, 2, 3, 4, 5] (by decide) rfl
    refine W.widen (k := 0) (n := 0) (Nat.le_of_ble_eq_true rfl) (Nat.le_of_ble_eq_true rfl) ?_
    exact W.zret (v := 1) hx hb hr (mz_nz (by decide +kernel)) (fun t ht hW => ⟨⟨1, (), rfl, Or.inr rfl, gp_20, gc_20, gb_28, by rw [ht]; exact hP9, hD9⟩, hS.F ht⟩) hS.2.2 dX7_cut_32
  · skip
    refine lv_iconst (v := 0) hx hb dX7_cut_12 (by decide +kernel) ?_
    have hP9 := hP.sub (ws' := [(mx, .inr (7, [.ref dr, .ref th, .ref bk, .ref wt, .ref tt, .ref lh, .ref la, .int sh, .long ab, .long be])), (dr, .inr (2, [.ref dp, .ref dc, .int (nI n)])), (dp, .inl (cI, 8, .inl fp)), (dc, .inl (cI, 8, .inl fc)), (bk, .inr (1, [.ref bp])), (bp, .inl (cI, 1024, .inl fb))]) [0, 1, 2, 3, 4, 5] rfl
    have hD9 := hD.sub (ws' := [(mx, .inr (7, [.ref dr, .ref th, .ref bk, .ref wt, .ref tt, .ref lh, .ref la, .int sh, .long ab, .long be])), (dr, .inr (2, [.ref dp, .ref dc, .int (nI n)])), (dp, .inl (cI, 8, .inl fp)), (dc, .inl (cI, 8, .inl fc)), (bk, .inr (1, [.ref bp])), (bp, .inl (cI, 1024, .inl fb))]) [0, 1, 2, 3, 4, 5] (by decide) rfl
    refine W.widen (k := 0) (n := 0) (Nat.le_of_ble_eq_true rfl) (Nat.le_of_ble_eq_true rfl) ?_
    exact W.zret (v := 0) hx hb hr (mz_nz (by decide +kernel)) (fun t ht hW => ⟨⟨0, (), rfl, Or.inl rfl, fp, fc, fb, by rw [ht]; exact hP9, hD9⟩, hS.F ht⟩) hS.2.2 dX7_cut_13
set_option maxHeartbeats 1000000 in
set_option maxRecDepth 100000 in
theorem mz_x_turn (l : Launch) (dC : Nat → ClassId) (dI : Nat → Nat → Nat) (cI cJ cZ : ClassId) (mx : Nat) (dr : Nat) (th : Nat) (bk : Nat) (wt : Nat) (tt : Nat) (lh : Nat) (la : Nat) (sh : Int32) (ab : Int64) (be : Int64) (dp : Nat) (dc : Nat) (n : Nat) (fp : Nat → Int32) (fc : Nat → Int32) (bp : Nat) (fb : Nat → Int32) (p1 : Int32) (p2 : Int32) (sz : Nat) (hn : n ≤ 8) : Met l yX7_turn wsX7_turn ({ frames := 6, cells := 0, slots := 0, locals := 133 }) (va_Pc [.ref mx, .int p1, .int p2] (fun U => U.heap.size = sz ∧ va_P (dC, dI) vwCl [(mx, .inr (7, [.ref dr, .ref th, .ref bk, .ref wt, .ref tt, .ref lh, .ref la, .int sh, .long ab, .long be])), (dr, .inr (2, [.ref dp, .ref dc, .int (nI n)])), (dp, .inl (cI, 8, .inl fp)), (dc, .inl (cI, 8, .inl fc)), (bk, .inr (1, [.ref bp])), (bp, .inl (cI, 1024, .inl fb))] U.heap ∧ va_K (dC, dI) vwCl [(cI, FieldType.int), (cJ, FieldType.long), (cZ, FieldType.boolean)] U ∧ va_D (fun _ => True) [(mx, .inr (7, [.ref dr, .ref th, .ref bk, .ref wt, .ref tt, .ref lh, .ref la, .int sh, .long ab, .long be])), (dr, .inr (2, [.ref dp, .ref dc, .int (nI n)])), (dp, .inl (cI, 8, .inl fp)), (dc, .inl (cI, 8, .inl fc)), (bk, .inr (1, [.ref bp])), (bp, .inl (cI, 1024, .inl fb))] ∧ mz_N U)) (va_Qi (fun (r : Int32) (_ : Unit) => r = 0 ∨ r = 1) (fun _ t => ∃ (gp : Nat → Int32), ∃ (gc : Nat → Int32), ∃ (gb : Nat → Int32), va_P (dC, dI) vwCl [(mx, .inr (7, [.ref dr, .ref th, .ref bk, .ref wt, .ref tt, .ref lh, .ref la, .int sh, .long ab, .long be])), (dr, .inr (2, [.ref dp, .ref dc, .int (nI n)])), (dp, .inl (cI, 8, .inl gp)), (dc, .inl (cI, 8, .inl gc)), (bk, .inr (1, [.ref bp])), (bp, .inl (cI, 1024, .inl gb))] t.heap ∧ va_D (va_A [(mx, .inr (7, [.ref dr, .ref th, .ref bk, .ref wt, .ref tt, .ref lh, .ref la, .int sh, .long ab, .long be])), (dr, .inr (2, [.ref dp, .ref dc, .int (nI n)])), (dp, .inl (cI, 8, .inl fp)), (dc, .inl (cI, 8, .inl fc)), (bk, .inr (1, [.ref bp])), (bp, .inl (cI, 1024, .inl fb))] sz) [(mx, .inr (7, [.ref dr, .ref th, .ref bk, .ref wt, .ref tt, .ref lh, .ref la, .int sh, .long ab, .long be])), (dr, .inr (2, [.ref dp, .ref dc, .int (nI n)])), (dp, .inl (cI, 8, .inl gp)), (dc, .inl (cI, 8, .inl gc)), (bk, .inr (1, [.ref bp])), (bp, .inl (cI, 1024, .inl gb))]) (va_A [(mx, .inr (7, [.ref dr, .ref th, .ref bk, .ref wt, .ref tt, .ref lh, .ref la, .int sh, .long ab, .long be])), (dr, .inr (2, [.ref dp, .ref dc, .int (nI n)])), (dp, .inl (cI, 8, .inl fp)), (dc, .inl (cI, 8, .inl fc)), (bk, .inr (1, [.ref bp])), (bp, .inl (cI, 1024, .inl fb))] sz)) 0 0 (va_A [(mx, .inr (7, [.ref dr, .ref th, .ref bk, .ref wt, .ref tt, .ref lh, .ref la, .int sh, .long ab, .long be])), (dr, .inr (2, [.ref dp, .ref dc, .int (nI n)])), (dp, .inl (cI, 8, .inl fp)), (dc, .inl (cI, 8, .inl fc)), (bk, .inr (1, [.ref bp])), (bp, .inl (cI, 1024, .inl fb))] sz) := by
  refine Met.ofW (cc := cX7_turn) (maxL := 3) (ret := (some .boolean)) (by decide) rfl ?_
  intro p e s m args below meth c s₁ B hml hv
  obtain ⟨rfl, hsz, hP, hK, hD0, hN⟩ := hv
  subst hsz
  have hx := B.exec
  have hb := B.bytes
  have hr := B.returns
  have hts := atoms_spec (ws := wsX7_turn) B.pre
  have hown : s.vm.findClass RX7 = some m.cls := findClass_of_methodNamed B.named
  have hlocks := B.notSynchronized
  have hD := hD0.self (sz := s.heap.size)
  generalize hAe : va_A [(mx, .inr (7, [.ref dr, .ref th, .ref bk, .ref wt, .ref tt, .ref lh, .ref la, .int sh, .long ab, .long be])), (dr, .inr (2, [.ref dp, .ref dc, .int (nI n)])), (dp, .inl (cI, 8, .inl fp)), (dc, .inl (cI, 8, .inl fc)), (bk, .inr (1, [.ref bp])), (bp, .inl (cI, 1024, .inl fb))] s.heap.size = A at hD ⊢
  have hA : ∀ q : Nat, s.heap.size ≤ q → A q := fun q h => by rw [← hAe]; exact Or.inr h
  have hS : va_S A s.heap s.heap [] := va_S.rf
  have hiX7 : ∀ w ∈ u_ws RX7 TX7 10, w ∈ wsX7_turn := by decide +kernel
  have hl := lv_entry ([.ref mx, .int p1, .int p2]) (n := 3) (Nat.le_of_ble_eq_true rfl)
  rw [lg_entry_eq]
  generalize (lg_sl ([.ref mx, .int p1, .int p2]) ++ List.replicate (3 - (lg_sl ([.ref mx, .int p1, .int p2])).length) Slot.unset).toArray = ls at hl ⊢
  have hl : lv_has ls 3 [(0, .ref mx), (1, .int p1), (2, .int p2)] := hl
  refine lv_aload_n hx hb dX7_turn_0 rfl (lv_at hl 0 rfl) ?_
  refine va_get (D := (dC, dI)) (ci := 7) (v := .ref dr) (C := RX7) (T := TX7) (N := 10) hx hb hts hiX7 hown hK hP 0 rfl rfl 0 (by decide) (hts (.fieldLink RX7 12 "MadeItSo" "drawing" "LMadeItSo$Drawing;") (by decide +kernel)) (fun _ h9 => h9) rfl dX7_turn_1 ?_
  refine lv_iload_n hx hb dX7_turn_4 rfl (lv_at hl 1 rfl) ?_
  refine lv_iload_n hx hb dX7_turn_5 rfl (lv_at hl 2 rfl) ?_
  have hPc := hP.sub (ws' := [(dr, .inr (2, [.ref dp, .ref dc, .int (nI n)])), (dc, .inl (cI, 8, .inl fc))]) [1, 3] rfl
  refine va_calli (va_runV (As := [.int p1, .int p2]) (rest := []) ⟨hx, hb, hml, hown, hts⟩ (mz_d_leads l dC dI cI cJ cZ dr dp dc n fc p1 p2 s.heap (by first | assumption | omega)) (cwV 2 hts gX7_turn_X2_leads rfl rfl rfl (by decide +kernel) ⟨Nat.le_of_ble_eq_true rfl, Nat.le_of_ble_eq_true rfl⟩) ⟨fun a U g mk q => mz_blP q, va_recv hK hPc (ci := 2) (q0 := 0) rfl rfl, fun U hU hW => ⟨rfl, hU, hPc, va_K.moved hW.alike hK, mz_nw hW hN⟩⟩ rfl rfl hl.1 rfl (lv_room (Nat.le_of_ble_eq_true rfl)) dX7_turn_6 ⟨Nat.le_of_ble_eq_true rfl, Nat.le_of_ble_eq_true rfl⟩) hS (fun q _ h => h.elim) (fun q h => h.elim) (fun r_6 u t H1 locs ht hvm hw_6 hB hz1 hk1 hS => ?_)
  have hE : s.heap = H1 := hB.symm.trans ht
  subst hE
  refine lv_if_ne (tgt := 14) hx hb dX7_turn_9 (by decide) (fun c_9 => ?_) (fun c_9 => ?_)
  · skip
    refine lv_aload_n hx hb dX7_turn_14 rfl (lv_at hl 0 rfl) ?_
    refine va_get (D := (dC, dI)) (ci := 7) (v := .ref dr) (C := RX7) (T := TX7) (N := 10) hx hb hts hiX7 hown hK hP 0 rfl rfl 0 (by decide) (hts (.fieldLink RX7 12 "MadeItSo" "drawing" "LMadeItSo$Drawing;") (by decide +kernel)) (fun _ h9 => h9) rfl dX7_turn_15 ?_
    refine lv_iload_n hx hb dX7_turn_18 rfl (lv_at hl 1 rfl) ?_
    refine lv_iload_n hx hb dX7_turn_19 rfl (lv_at hl 2 rfl) ?_
    have hPc := hP.sub (ws' := [(dr, .inr (2, [.ref dp, .ref dc, .int (nI n)])), (dp, .inl (cI, 8, .inl fp)), (dc, .inl (cI, 8, .inl fc))]) [1, 2, 3] rfl
    have hDc := hD.sub (ws' := [(dr, .inr (2, [.ref dp, .ref dc, .int (nI n)])), (dp, .inl (cI, 8, .inl fp)), (dc, .inl (cI, 8, .inl fc))]) [1, 2, 3] (by decide) rfl
    have hFc := va_free (wc := [(dr, .inr (2, [.ref dp, .ref dc, .int (nI n)])), (dp, .inl (cI, 8, .inl fp)), (dc, .inl (cI, 8, .inl fc))]) hD hS hA [1, 2, 3] rfl
    refine va_callv (va_runV (As := [.int p1, .int p2]) (rest := []) ⟨hx, hb, hml, hown, hts⟩ (mz_d_part l dC dI cI cJ cZ dr dp dc n fp fc p1 p2 s.heap.size (by first | assumption | omega)) (cwV 2 hts gX7_turn_X2_part rfl rfl rfl (by decide +kernel) ⟨Nat.le_of_ble_eq_true rfl, Nat.le_of_ble_eq_true rfl⟩) ⟨fun a U g mk q => mz_blI q, va_recv hK hPc (ci := 2) (q0 := 0) rfl rfl, fun U hU hW => ⟨rfl, by rw [hU], by rw [hU]; exact hPc, va_K.moved hW.alike hK, hDc.weaken (fun _ _ _ _ => trivial), mz_nw hW hN⟩⟩ rfl rfl hl.1 rfl (lv_room (Nat.le_of_ble_eq_true rfl)) dX7_turn_20 ⟨Nat.le_of_ble_eq_true rfl, Nat.le_of_ble_eq_true rfl⟩) hS (fun q _ h => hFc q h) hFc (fun u t H1 locs ht hvm hw_20 hB hz1 hk1 hS => ?_)
    obtain ⟨gp_20, gc_20, hP1, hD1⟩ := hB
    rw [ht] at hP1
    obtain ⟨hP, hD⟩ := va_join (wr := [(mx, .inr (7, [.ref dr, .ref th, .ref bk, .ref wt, .ref tt, .ref lh, .ref la, .int sh, .long ab, .long be])), (bk, .inr (1, [.ref bp])), (bp, .inl (cI, 1024, .inl fb))]) (w1 := [(dr, .inr (2, [.ref dp, .ref dc, .int (nI n)])), (dp, .inl (cI, 8, .inl gp_20)), (dc, .inl (cI, 8, .inl gc_20))]) hP hD [1, 2, 3] [0, 4, 5] rfl rfl (by decide) (by decide) hk1 hFc hP1 hD1
    generalize H1 = H at hP hS ⊢
    have hP : va_P (dC, dI) vwCl [(mx, .inr (7, [.ref dr, .ref th, .ref bk, .ref wt, .ref tt, .ref lh, .ref la, .int sh, .long ab, .long be])), (bk, .inr (1, [.ref bp])), (bp, .inl (cI, 1024, .inl fb)), (dr, .inr (2, [.ref dp, .ref dc, .int (nI n)])), (dp, .inl (cI, 8, .inl gp_20)), (dc, .inl (cI, 8, .inl gc_20))] H := hP
    have hD : va_D A [(mx, .inr (7, [.ref dr, .ref th, .ref bk, .ref wt, .ref tt, .ref lh, .ref la, .int sh, .long ab, .long be])), (bk, .inr (1, [.ref bp])), (bp, .inl (cI, 1024, .inl fb)), (dr, .inr (2, [.ref dp, .ref dc, .int (nI n)])), (dp, .inl (cI, 8, .inl gp_20)), (dc, .inl (cI, 8, .inl gc_20))] := hD
    refine lv_aload_n hx hb dX7_turn_23 rfl (lv_at hl 0 rfl) ?_
    refine va_get (D := (dC, dI)) (ci := 7) (v := .ref dr) (C := RX7) (T := TX7) (N := 10) hx hb hts hiX7 hown hK hP 0 rfl rfl 0 (by decide) (hts (.fieldLink RX7 12 "MadeItSo" "drawing" "LMadeItSo$Drawing;") (by decide +kernel)) (fun _ h9 => h9) rfl dX7_turn_24 ?_
    refine lv_iload_n hx hb dX7_turn_27 rfl (lv_at hl 2 rfl) ?_
    refine lv_iload_n hx hb dX7_turn_28 rfl (lv_at hl 1 rfl) ?_
    have hPc := hP.sub (ws' := [(dr, .inr (2, [.ref dp, .ref dc, .int (nI n)])), (dp, .inl (cI, 8, .inl gp_20)), (dc, .inl (cI, 8, .inl gc_20))]) [3, 4, 5] rfl
    refine va_calli (va_runV (As := [.int p2, .int p1]) (rest := []) ⟨hx, hb, hml, hown, hts⟩ (mz_d_canJoin l dC dI cI cJ cZ dr dp dc n gp_20 gc_20 p2 p1 H (by first | assumption | omega)) (cwV 2 hts gX7_turn_X2_canJoin rfl rfl rfl (by decide +kernel) ⟨Nat.le_of_ble_eq_true rfl, Nat.le_of_ble_eq_true rfl⟩) ⟨fun a U g mk q => mz_blP q, va_recv hK hPc (ci := 2) (q0 := 0) rfl rfl, fun U hU hW => ⟨rfl, hU, hPc, va_K.moved hW.alike hK, mz_nw hW hN⟩⟩ rfl rfl hl.1 rfl (lv_room (Nat.le_of_ble_eq_true rfl)) dX7_turn_29 ⟨Nat.le_of_ble_eq_true rfl, Nat.le_of_ble_eq_true rfl⟩) hS (fun q _ h => h.elim) (fun q h => h.elim) (fun r_29 u t H1 locs ht hvm hw_29 hB hz1 hk1 hS => ?_)
    have hE : H = H1 := hB.symm.trans ht
    subst hE
    refine lv_if_ne (tgt := 46) hx hb dX7_turn_32 (by decide) (fun c_32 => ?_) (fun c_32 => ?_)
    · skip
      refine lv_aload_n hx hb dX7_turn_46 rfl (lv_at hl 0 rfl) ?_
      refine va_get (D := (dC, dI)) (ci := 7) (v := .ref dr) (C := RX7) (T := TX7) (N := 10) hx hb hts hiX7 hown hK hP 0 rfl rfl 0 (by decide) (hts (.fieldLink RX7 12 "MadeItSo" "drawing" "LMadeItSo$Drawing;") (by decide +kernel)) (fun _ h9 => h9) rfl dX7_turn_47 ?_
      refine lv_iload_n hx hb dX7_turn_50 rfl (lv_at hl 2 rfl) ?_
      refine lv_iload_n hx hb dX7_turn_51 rfl (lv_at hl 1 rfl) ?_
      have hPc := hP.sub (ws' := [(dr, .inr (2, [.ref dp, .ref dc, .int (nI n)])), (dp, .inl (cI, 8, .inl gp_20)), (dc, .inl (cI, 8, .inl gc_20))]) [3, 4, 5] rfl
      have hDc := hD.sub (ws' := [(dr, .inr (2, [.ref dp, .ref dc, .int (nI n)])), (dp, .inl (cI, 8, .inl gp_20)), (dc, .inl (cI, 8, .inl gc_20))]) [3, 4, 5] (by decide) rfl
      have hFc := va_free (wc := [(dr, .inr (2, [.ref dp, .ref dc, .int (nI n)])), (dp, .inl (cI, 8, .inl gp_20)), (dc, .inl (cI, 8, .inl gc_20))]) hD hS hA [3, 4, 5] rfl
      refine va_callv (va_runV (As := [.int p2, .int p1]) (rest := []) ⟨hx, hb, hml, hown, hts⟩ (mz_d_join l dC dI cI cJ cZ dr dp dc n gp_20 gc_20 p2 p1 H.size (by first | assumption | omega)) (cwV 2 hts gX7_turn_X2_join rfl rfl rfl (by decide +kernel) ⟨Nat.le_of_ble_eq_true rfl, Nat.le_of_ble_eq_true rfl⟩) ⟨fun a U g mk q => mz_blI q, va_recv hK hPc (ci := 2) (q0 := 0) rfl rfl, fun U hU hW => ⟨rfl, by rw [hU], by rw [hU]; exact hPc, va_K.moved hW.alike hK, hDc.weaken (fun _ _ _ _ => trivial), mz_nw hW hN⟩⟩ rfl rfl hl.1 rfl (lv_room (Nat.le_of_ble_eq_true rfl)) dX7_turn_52 ⟨Nat.le_of_ble_eq_true rfl, Nat.le_of_ble_eq_true rfl⟩) hS (fun q _ h => hFc q h) hFc (fun u t H1 locs ht hvm hw_52 hB hz1 hk1 hS => ?_)
      obtain ⟨gp_52, gc_52, hP1, hD1⟩ := hB
      rw [ht] at hP1
      obtain ⟨hP, hD⟩ := va_join (wr := [(mx, .inr (7, [.ref dr, .ref th, .ref bk, .ref wt, .ref tt, .ref lh, .ref la, .int sh, .long ab, .long be])), (bk, .inr (1, [.ref bp])), (bp, .inl (cI, 1024, .inl fb))]) (w1 := [(dr, .inr (2, [.ref dp, .ref dc, .int (nI n)])), (dp, .inl (cI, 8, .inl gp_52)), (dc, .inl (cI, 8, .inl gc_52))]) hP hD [3, 4, 5] [0, 1, 2] rfl rfl (by decide) (by decide) hk1 hFc hP1 hD1
      generalize H1 = H at hP hS ⊢
      have hP : va_P (dC, dI) vwCl [(mx, .inr (7, [.ref dr, .ref th, .ref bk, .ref wt, .ref tt, .ref lh, .ref la, .int sh, .long ab, .long be])), (bk, .inr (1, [.ref bp])), (bp, .inl (cI, 1024, .inl fb)), (dr, .inr (2, [.ref dp, .ref dc, .int (nI n)])), (dp, .inl (cI, 8, .inl gp_52)), (dc, .inl (cI, 8, .inl gc_52))] H := hP
      have hD : va_D A [(mx, .inr (7, [.ref dr, .ref th, .ref bk, .ref wt, .ref tt, .ref lh, .ref la, .int sh, .long ab, .long be])), (bk, .inr (1, [.ref bp])), (bp, .inl (cI, 1024, .inl fb)), (dr, .inr (2, [.ref dp, .ref dc, .int (nI n)])), (dp, .inl (cI, 8, .inl gp_52)), (dc, .inl (cI, 8, .inl gc_52))] := hD
      refine lv_aload_n hx hb dX7_turn_55 rfl (lv_at hl 0 rfl) ?_
      refine va_get (D := (dC, dI)) (ci := 7) (v := .ref bk) (C := RX7) (T := TX7) (N := 10) hx hb hts hiX7 hown hK hP 0 rfl rfl 2 (by decide) (hts (.fieldLink RX7 22 "MadeItSo" "books" "LMadeItSo$Books;") (by decide +kernel)) (fun _ h9 => h9) rfl dX7_turn_56 ?_
      refine lv_iload_n hx hb dX7_turn_59 rfl (lv_at hl 1 rfl) ?_
      have hPc := hP.sub (ws' := [(bk, .inr (1, [.ref bp])), (bp, .inl (cI, 1024, .inl fb))]) [1, 2] rfl
      have hDc := hD.sub (ws' := [(bk, .inr (1, [.ref bp])), (bp, .inl (cI, 1024, .inl fb))]) [1, 2] (by decide) rfl
      have hFc := va_free (wc := [(bk, .inr (1, [.ref bp])), (bp, .inl (cI, 1024, .inl fb))]) hD hS hA [1, 2] rfl
      refine va_callv (va_runV (As := [.int p1]) (rest := []) ⟨hx, hb, hml, hown, hts⟩ (mz_b_blank l dC dI cI cJ cZ bk bp fb p1 H.size ) (cwV 1 hts gX7_turn_X1_blank rfl rfl rfl (by decide +kernel) ⟨Nat.le_of_ble_eq_true rfl, Nat.le_of_ble_eq_true rfl⟩) ⟨fun a U g mk q => mz_blI q, va_recv hK hPc (ci := 1) (q0 := 0) rfl rfl, fun U hU hW => ⟨rfl, by rw [hU], by rw [hU]; exact hPc, va_K.moved hW.alike hK, hDc.weaken (fun _ _ _ _ => trivial), mz_nw hW hN⟩⟩ rfl rfl hl.1 rfl (lv_room (Nat.le_of_ble_eq_true rfl)) dX7_turn_60 ⟨Nat.le_of_ble_eq_true rfl, Nat.le_of_ble_eq_true rfl⟩) hS (fun q _ h => hFc q h) hFc (fun u t H1 locs ht hvm hw_60 hB hz1 hk1 hS => ?_)
      obtain ⟨gb_60, hP1, hD1⟩ := hB
      rw [ht] at hP1
      obtain ⟨hP, hD⟩ := va_join (wr := [(mx, .inr (7, [.ref dr, .ref th, .ref bk, .ref wt, .ref tt, .ref lh, .ref la, .int sh, .long ab, .long be])), (dr, .inr (2, [.ref dp, .ref dc, .int (nI n)])), (dp, .inl (cI, 8, .inl gp_52)), (dc, .inl (cI, 8, .inl gc_52))]) (w1 := [(bk, .inr (1, [.ref bp])), (bp, .inl (cI, 1024, .inl gb_60))]) hP hD [1, 2] [0, 3, 4, 5] rfl rfl (by decide) (by decide) hk1 hFc hP1 hD1
      generalize H1 = H at hP hS ⊢
      have hP : va_P (dC, dI) vwCl [(mx, .inr (7, [.ref dr, .ref th, .ref bk, .ref wt, .ref tt, .ref lh, .ref la, .int sh, .long ab, .long be])), (dr, .inr (2, [.ref dp, .ref dc, .int (nI n)])), (dp, .inl (cI, 8, .inl gp_52)), (dc, .inl (cI, 8, .inl gc_52)), (bk, .inr (1, [.ref bp])), (bp, .inl (cI, 1024, .inl gb_60))] H := hP
      have hD : va_D A [(mx, .inr (7, [.ref dr, .ref th, .ref bk, .ref wt, .ref tt, .ref lh, .ref la, .int sh, .long ab, .long be])), (dr, .inr (2, [.ref dp, .ref dc, .int (nI n)])), (dp, .inl (cI, 8, .inl gp_52)), (dc, .inl (cI, 8, .inl gc_52)), (bk, .inr (1, [.ref bp])), (bp, .inl (cI, 1024, .inl gb_60))] := hD
      refine lv_aload_n hx hb dX7_turn_63 rfl (lv_at hl 0 rfl) ?_
      refine va_get (D := (dC, dI)) (ci := 7) (v := .ref bk) (C := RX7) (T := TX7) (N := 10) hx hb hts hiX7 hown hK hP 0 rfl rfl 2 (by decide) (hts (.fieldLink RX7 22 "MadeItSo" "books" "LMadeItSo$Books;") (by decide +kernel)) (fun _ h9 => h9) rfl dX7_turn_64 ?_
      refine lv_iload_n hx hb dX7_turn_67 rfl (lv_at hl 2 rfl) ?_
      have hPc := hP.sub (ws' := [(bk, .inr (1, [.ref bp])), (bp, .inl (cI, 1024, .inl gb_60))]) [4, 5] rfl
      have hDc := hD.sub (ws' := [(bk, .inr (1, [.ref bp])), (bp, .inl (cI, 1024, .inl gb_60))]) [4, 5] (by decide) rfl
      have hFc := va_free (wc := [(bk, .inr (1, [.ref bp])), (bp, .inl (cI, 1024, .inl gb_60))]) hD hS hA [4, 5] rfl
      refine va_callv (va_runV (As := [.int p2]) (rest := []) ⟨hx, hb, hml, hown, hts⟩ (mz_b_blank l dC dI cI cJ cZ bk bp gb_60 p2 H.size ) (cwV 1 hts gX7_turn_X1_blank rfl rfl rfl (by decide +kernel) ⟨Nat.le_of_ble_eq_true rfl, Nat.le_of_ble_eq_true rfl⟩) ⟨fun a U g mk q => mz_blI q, va_recv hK hPc (ci := 1) (q0 := 0) rfl rfl, fun U hU hW => ⟨rfl, by rw [hU], by rw [hU]; exact hPc, va_K.moved hW.alike hK, hDc.weaken (fun _ _ _ _ => trivial), mz_nw hW hN⟩⟩ rfl rfl hl.1 rfl (lv_room (Nat.le_of_ble_eq_true rfl)) dX7_turn_68 ⟨Nat.le_of_ble_eq_true rfl, Nat.le_of_ble_eq_true rfl⟩) hS (fun q _ h => hFc q h) hFc (fun u t H1 locs ht hvm hw_68 hB hz1 hk1 hS => ?_)
      obtain ⟨gb_68, hP1, hD1⟩ := hB
      rw [ht] at hP1
      obtain ⟨hP, hD⟩ := va_join (wr := [(mx, .inr (7, [.ref dr, .ref th, .ref bk, .ref wt, .ref tt, .ref lh, .ref la, .int sh, .long ab, .long be])), (dr, .inr (2, [.ref dp, .ref dc, .int (nI n)])), (dp, .inl (cI, 8, .inl gp_52)), (dc, .inl (cI, 8, .inl gc_52))]) (w1 := [(bk, .inr (1, [.ref bp])), (bp, .inl (cI, 1024, .inl gb_68))]) hP hD [4, 5] [0, 1, 2, 3] rfl rfl (by decide) (by decide) hk1 hFc hP1 hD1
      generalize H1 = H at hP hS ⊢
      have hP : va_P (dC, dI) vwCl [(mx, .inr (7, [.ref dr, .ref th, .ref bk, .ref wt, .ref tt, .ref lh, .ref la, .int sh, .long ab, .long be])), (dr, .inr (2, [.ref dp, .ref dc, .int (nI n)])), (dp, .inl (cI, 8, .inl gp_52)), (dc, .inl (cI, 8, .inl gc_52)), (bk, .inr (1, [.ref bp])), (bp, .inl (cI, 1024, .inl gb_68))] H := hP
      have hD : va_D A [(mx, .inr (7, [.ref dr, .ref th, .ref bk, .ref wt, .ref tt, .ref lh, .ref la, .int sh, .long ab, .long be])), (dr, .inr (2, [.ref dp, .ref dc, .int (nI n)])), (dp, .inl (cI, 8, .inl gp_52)), (dc, .inl (cI, 8, .inl gc_52)), (bk, .inr (1, [.ref bp])), (bp, .inl (cI, 1024, .inl gb_68))] := hD
      refine lv_iconst (v := 1) hx hb dX7_turn_71 (by decide +kernel) ?_
      have hP9 := hP.sub (ws' := [(mx, .inr (7, [.ref dr, .ref th, .ref bk, .ref wt, .ref tt, .ref lh, .ref la, .int sh, .long ab, .long be])), (dr, .inr (2, [.ref dp, .ref dc, .int (nI n)])), (dp, .inl (cI, 8, .inl gp_52)), (dc, .inl (cI, 8, .inl gc_52)), (bk, .inr (1, [.ref bp])), (bp, .inl (cI, 1024, .inl gb_68))]) [0, 1, 2, 3, 4, 5] rfl
      have hD9 := hD.sub (ws' := [(mx, .inr (7, [.ref dr, .ref th, .ref bk, .ref wt, .ref tt, .ref lh, .ref la, .int sh, .long ab, .long be])), (dr, .inr (2, [.ref dp, .ref dc, .int (nI n)])), (dp, .inl (cI, 8, .inl gp_52)), (dc, .inl (cI, 8, .inl gc_52)), (bk, .inr (1, [.ref bp])), (bp, .inl (cI, 1024, .inl gb_68))]) [0, 1, 2, 3, 4, 5] (by decide) rfl
      refine W.widen (k := 0) (n := 0) (Nat.le_of_ble_eq_true rfl) (Nat.le_of_ble_eq_true rfl) ?_
      exact W.zret (v := 1) hx hb hr (mz_nz (by decide +kernel)) (fun t ht hW => ⟨⟨1, (), rfl, Or.inr rfl, gp_52, gc_52, gb_68, by rw [ht]; exact hP9, hD9⟩, hS.F ht⟩) hS.2.2 dX7_turn_72
    · skip
      refine lv_aload_n hx hb dX7_turn_35 rfl (lv_at hl 0 rfl) ?_
      refine va_get (D := (dC, dI)) (ci := 7) (v := .ref dr) (C := RX7) (T := TX7) (N := 10) hx hb hts hiX7 hown hK hP 0 rfl rfl 0 (by decide) (hts (.fieldLink RX7 12 "MadeItSo" "drawing" "LMadeItSo$Drawing;") (by decide +kernel)) (fun _ h9 => h9) rfl dX7_turn_36 ?_
      refine lv_iload_n hx hb dX7_turn_39 rfl (lv_at hl 1 rfl) ?_
      refine lv_iload_n hx hb dX7_turn_40 rfl (lv_at hl 2 rfl) ?_
      have hPc := hP.sub (ws' := [(dr, .inr (2, [.ref dp, .ref dc, .int (nI n)])), (dp, .inl (cI, 8, .inl gp_20)), (dc, .inl (cI, 8, .inl gc_20))]) [3, 4, 5] rfl
      have hDc := hD.sub (ws' := [(dr, .inr (2, [.ref dp, .ref dc, .int (nI n)])), (dp, .inl (cI, 8, .inl gp_20)), (dc, .inl (cI, 8, .inl gc_20))]) [3, 4, 5] (by decide) rfl
      have hFc := va_free (wc := [(dr, .inr (2, [.ref dp, .ref dc, .int (nI n)])), (dp, .inl (cI, 8, .inl gp_20)), (dc, .inl (cI, 8, .inl gc_20))]) hD hS hA [3, 4, 5] rfl
      refine va_callv (va_runV (As := [.int p1, .int p2]) (rest := []) ⟨hx, hb, hml, hown, hts⟩ (mz_d_join l dC dI cI cJ cZ dr dp dc n gp_20 gc_20 p1 p2 H.size (by first | assumption | omega)) (cwV 2 hts gX7_turn_X2_join rfl rfl rfl (by decide +kernel) ⟨Nat.le_of_ble_eq_true rfl, Nat.le_of_ble_eq_true rfl⟩) ⟨fun a U g mk q => mz_blI q, va_recv hK hPc (ci := 2) (q0 := 0) rfl rfl, fun U hU hW => ⟨rfl, by rw [hU], by rw [hU]; exact hPc, va_K.moved hW.alike hK, hDc.weaken (fun _ _ _ _ => trivial), mz_nw hW hN⟩⟩ rfl rfl hl.1 rfl (lv_room (Nat.le_of_ble_eq_true rfl)) dX7_turn_41 ⟨Nat.le_of_ble_eq_true rfl, Nat.le_of_ble_eq_true rfl⟩) hS (fun q _ h => hFc q h) hFc (fun u t H1 locs ht hvm hw_41 hB hz1 hk1 hS => ?_)
      obtain ⟨gp_41, gc_41, hP1, hD1⟩ := hB
      rw [ht] at hP1
      obtain ⟨hP, hD⟩ := va_join (wr := [(mx, .inr (7, [.ref dr, .ref th, .ref bk, .ref wt, .ref tt, .ref lh, .ref la, .int sh, .long ab, .long be])), (bk, .inr (1, [.ref bp])), (bp, .inl (cI, 1024, .inl fb))]) (w1 := [(dr, .inr (2, [.ref dp, .ref dc, .int (nI n)])), (dp, .inl (cI, 8, .inl gp_41)), (dc, .inl (cI, 8, .inl gc_41))]) hP hD [3, 4, 5] [0, 1, 2] rfl rfl (by decide) (by decide) hk1 hFc hP1 hD1
      generalize H1 = H at hP hS ⊢
      have hP : va_P (dC, dI) vwCl [(mx, .inr (7, [.ref dr, .ref th, .ref bk, .ref wt, .ref tt, .ref lh, .ref la, .int sh, .long ab, .long be])), (bk, .inr (1, [.ref bp])), (bp, .inl (cI, 1024, .inl fb)), (dr, .inr (2, [.ref dp, .ref dc, .int (nI n)])), (dp, .inl (cI, 8, .inl gp_41)), (dc, .inl (cI, 8, .inl gc_41))] H := hP
      have hD : va_D A [(mx, .inr (7, [.ref dr, .ref th, .ref bk, .ref wt, .ref tt, .ref lh, .ref la, .int sh, .long ab, .long be])), (bk, .inr (1, [.ref bp])), (bp, .inl (cI, 1024, .inl fb)), (dr, .inr (2, [.ref dp, .ref dc, .int (nI n)])), (dp, .inl (cI, 8, .inl gp_41)), (dc, .inl (cI, 8, .inl gc_41))] := hD
      refine lv_iconst (v := 0) hx hb dX7_turn_44 (by decide +kernel) ?_
      have hP9 := hP.sub (ws' := [(mx, .inr (7, [.ref dr, .ref th, .ref bk, .ref wt, .ref tt, .ref lh, .ref la, .int sh, .long ab, .long be])), (dr, .inr (2, [.ref dp, .ref dc, .int (nI n)])), (dp, .inl (cI, 8, .inl gp_41)), (dc, .inl (cI, 8, .inl gc_41)), (bk, .inr (1, [.ref bp])), (bp, .inl (cI, 1024, .inl fb))]) [0, 3, 4, 5, 1, 2] rfl
      have hD9 := hD.sub (ws' := [(mx, .inr (7, [.ref dr, .ref th, .ref bk, .ref wt, .ref tt, .ref lh, .ref la, .int sh, .long ab, .long be])), (dr, .inr (2, [.ref dp, .ref dc, .int (nI n)])), (dp, .inl (cI, 8, .inl gp_41)), (dc, .inl (cI, 8, .inl gc_41)), (bk, .inr (1, [.ref bp])), (bp, .inl (cI, 1024, .inl fb))]) [0, 3, 4, 5, 1, 2] (by decide) rfl
      refine W.widen (k := 0) (n := 0) (Nat.le_of_ble_eq_true rfl) (Nat.le_of_ble_eq_true rfl) ?_
      exact W.zret (v := 0) hx hb hr (mz_nz (by decide +kernel)) (fun t ht hW => ⟨⟨0, (), rfl, Or.inl rfl, gp_41, gc_41, fb, by rw [ht]; exact hP9, hD9⟩, hS.F ht⟩) hS.2.2 dX7_turn_45
  · skip
    refine lv_iconst (v := 0) hx hb dX7_turn_12 (by decide +kernel) ?_
    have hP9 := hP.sub (ws' := [(mx, .inr (7, [.ref dr, .ref th, .ref bk, .ref wt, .ref tt, .ref lh, .ref la, .int sh, .long ab, .long be])), (dr, .inr (2, [.ref dp, .ref dc, .int (nI n)])), (dp, .inl (cI, 8, .inl fp)), (dc, .inl (cI, 8, .inl fc)), (bk, .inr (1, [.ref bp])), (bp, .inl (cI, 1024, .inl fb))]) [0, 1, 2, 3, 4, 5] rfl
    have hD9 := hD.sub (ws' := [(mx, .inr (7, [.ref dr, .ref th, .ref bk, .ref wt, .ref tt, .ref lh, .ref la, .int sh, .long ab, .long be])), (dr, .inr (2, [.ref dp, .ref dc, .int (nI n)])), (dp, .inl (cI, 8, .inl fp)), (dc, .inl (cI, 8, .inl fc)), (bk, .inr (1, [.ref bp])), (bp, .inl (cI, 1024, .inl fb))]) [0, 1, 2, 3, 4, 5] (by decide) rfl
    refine W.widen (k := 0) (n := 0) (Nat.le_of_ble_eq_true rfl) (Nat.le_of_ble_eq_true rfl) ?_
    exact W.zret (v := 0) hx hb hr (mz_nz (by decide +kernel)) (fun t ht hW => ⟨⟨0, (), rfl, Or.inl rfl, fp, fc, fb, by rw [ht]; exact hP9, hD9⟩, hS.F ht⟩) hS.2.2 dX7_turn_13
set_option maxHeartbeats 1000000 in
set_option maxRecDepth 100000 in
theorem mz_x_book (l : Launch) (dC : Nat → ClassId) (dI : Nat → Nat → Nat) (cI cJ cZ : ClassId) (mx : Nat) (dr : Nat) (th : Nat) (bk : Nat) (wt : Nat) (tt : Nat) (lh : Nat) (la : Nat) (sh : Int32) (ab : Int64) (be : Int64) (dp : Nat) (dc : Nat) (n : Nat) (fp : Nat → Int32) (bp : Nat) (fb : Nat → Int32) (p1 : Int32) (p2 : Int32) (p3 : Int32) (sz : Nat) (hn : n ≤ 8) : Met l yX7_book wsX7_book ({ frames := 3, cells := 0, slots := 0, locals := 64 }) (va_Pc [.ref mx, .int p1, .int p2, .int p3] (fun U => U.heap.size = sz ∧ va_P (dC, dI) vwCl [(mx, .inr (7, [.ref dr, .ref th, .ref bk, .ref wt, .ref tt, .ref lh, .ref la, .int sh, .long ab, .long be])), (dr, .inr (2, [.ref dp, .ref dc, .int (nI n)])), (dp, .inl (cI, 8, .inl fp)), (bk, .inr (1, [.ref bp])), (bp, .inl (cI, 1024, .inl fb))] U.heap ∧ va_K (dC, dI) vwCl [(cI, FieldType.int), (cJ, FieldType.long), (cZ, FieldType.boolean)] U ∧ va_D (fun _ => True) [(mx, .inr (7, [.ref dr, .ref th, .ref bk, .ref wt, .ref tt, .ref lh, .ref la, .int sh, .long ab, .long be])), (dr, .inr (2, [.ref dp, .ref dc, .int (nI n)])), (dp, .inl (cI, 8, .inl fp)), (bk, .inr (1, [.ref bp])), (bp, .inl (cI, 1024, .inl fb))] ∧ mz_N U)) (va_Qi (fun (r : Int32) (_ : Unit) => r = 0 ∨ r = 1) (fun _ t => ∃ (gb : Nat → Int32), va_P (dC, dI) vwCl [(mx, .inr (7, [.ref dr, .ref th, .ref bk, .ref wt, .ref tt, .ref lh, .ref la, .int sh, .long ab, .long be])), (dr, .inr (2, [.ref dp, .ref dc, .int (nI n)])), (dp, .inl (cI, 8, .inl fp)), (bk, .inr (1, [.ref bp])), (bp, .inl (cI, 1024, .inl gb))] t.heap ∧ va_D (va_A [(mx, .inr (7, [.ref dr, .ref th, .ref bk, .ref wt, .ref tt, .ref lh, .ref la, .int sh, .long ab, .long be])), (dr, .inr (2, [.ref dp, .ref dc, .int (nI n)])), (dp, .inl (cI, 8, .inl fp)), (bk, .inr (1, [.ref bp])), (bp, .inl (cI, 1024, .inl fb))] sz) [(mx, .inr (7, [.ref dr, .ref th, .ref bk, .ref wt, .ref tt, .ref lh, .ref la, .int sh, .long ab, .long be])), (dr, .inr (2, [.ref dp, .ref dc, .int (nI n)])), (dp, .inl (cI, 8, .inl fp)), (bk, .inr (1, [.ref bp])), (bp, .inl (cI, 1024, .inl gb))]) (va_A [(mx, .inr (7, [.ref dr, .ref th, .ref bk, .ref wt, .ref tt, .ref lh, .ref la, .int sh, .long ab, .long be])), (dr, .inr (2, [.ref dp, .ref dc, .int (nI n)])), (dp, .inl (cI, 8, .inl fp)), (bk, .inr (1, [.ref bp])), (bp, .inl (cI, 1024, .inl fb))] sz)) 0 0 (va_A [(mx, .inr (7, [.ref dr, .ref th, .ref bk, .ref wt, .ref tt, .ref lh, .ref la, .int sh, .long ab, .long be])), (dr, .inr (2, [.ref dp, .ref dc, .int (nI n)])), (dp, .inl (cI, 8, .inl fp)), (bk, .inr (1, [.ref bp])), (bp, .inl (cI, 1024, .inl fb))] sz) := by
  refine Met.ofW (cc := cX7_book) (maxL := 4) (ret := (some .boolean)) (by decide) rfl ?_
  intro p e s m args below meth c s₁ B hml hv
  obtain ⟨rfl, hsz, hP, hK, hD0, hN⟩ := hv
  subst hsz
  have hx := B.exec
  have hb := B.bytes
  have hr := B.returns
  have hts := atoms_spec (ws := wsX7_book) B.pre
  have hown : s.vm.findClass RX7 = some m.cls := findClass_of_methodNamed B.named
  have hlocks := B.notSynchronized
  have hD := hD0.self (sz := s.heap.size)
  generalize hAe : va_A [(mx, .inr (7, [.ref dr, .ref th, .ref bk, .ref wt, .ref tt, .ref lh, .ref la, .int sh, .long ab, .long be])), (dr, .inr (2, [.ref dp, .ref dc, .int (nI n)])), (dp, .inl (cI, 8, .inl fp)), (bk, .inr (1, [.ref bp])), (bp, .inl (cI, 1024, .inl fb))] s.heap.size = A at hD ⊢
  have hA : ∀ q : Nat, s.heap.size ≤ q → A q := fun q h => by rw [← hAe]; exact Or.inr h
  have hS : va_S A s.heap s.heap [] := va_S.rf
  have hiX7 : ∀ w ∈ u_ws RX7 TX7 10, w ∈ wsX7_book := by decide +kernel
  have hl := lv_entry ([.ref mx, .int p1, .int p2, .int p3]) (n := 4) (Nat.le_of_ble_eq_true rfl)
  rw [lg_entry_eq]
  generalize (lg_sl ([.ref mx, .int p1, .int p2, .int p3]) ++ List.replicate (4 - (lg_sl ([.ref mx, .int p1, .int p2, .int p3])).length) Slot.unset).toArray = ls at hl ⊢
  have hl : lv_has ls 4 [(0, .ref mx), (1, .int p1), (2, .int p2), (3, .int p3)] := hl
  refine lv_aload_n hx hb dX7_book_0 rfl (lv_at hl 0 rfl) ?_
  refine lv_iload_n hx hb dX7_book_1 rfl (lv_at hl 1 rfl) ?_
  refine lv_iload_n hx hb dX7_book_2 rfl (lv_at hl 2 rfl) ?_
  have hPc := hP.sub (ws' := [(mx, .inr (7, [.ref dr, .ref th, .ref bk, .ref wt, .ref tt, .ref lh, .ref la, .int sh, .long ab, .long be])), (dr, .inr (2, [.ref dp, .ref dc, .int (nI n)])), (dp, .inl (cI, 8, .inl fp))]) [0, 1, 2] rfl
  refine va_calli (va_runV (As := [.int p1, .int p2]) (rest := []) ⟨hx, hb, hml, hown, hts⟩ (mz_x_hasRow l dC dI cI cJ cZ mx dr th bk wt tt lh la sh ab be dp dc n fp p1 p2 s.heap (by first | assumption | omega)) (cwV 2 hts gX7_book_X7_hasRow rfl rfl rfl (by decide +kernel) ⟨Nat.le_of_ble_eq_true rfl, Nat.le_of_ble_eq_true rfl⟩) ⟨fun a U g mk q => mz_blP q, va_recv hK hPc (ci := 7) (q0 := 0) rfl rfl, fun U hU hW => ⟨rfl, hU, hPc, va_K.moved hW.alike hK, mz_nw hW hN⟩⟩ rfl rfl hl.1 rfl (lv_room (Nat.le_of_ble_eq_true rfl)) dX7_book_3 ⟨Nat.le_of_ble_eq_true rfl, Nat.le_of_ble_eq_true rfl⟩) hS (fun q _ h => h.elim) (fun q h => h.elim) (fun r_3 u t H1 locs ht hvm hw_3 hB hz1 hk1 hS => ?_)
  have hE : s.heap = H1 := hB.symm.trans ht
  subst hE
  refine lv_if_eq (tgt := 19) hx hb dX7_book_6 (by decide) (fun c_6 => ?_) (fun c_6 => ?_)
  · skip
    refine lv_iconst (v := 0) hx hb dX7_book_19 (by decide +kernel) ?_
    have hP9 := hP.sub (ws' := [(mx, .inr (7, [.ref dr, .ref th, .ref bk, .ref wt, .ref tt, .ref lh, .ref la, .int sh, .long ab, .long be])), (dr, .inr (2, [.ref dp, .ref dc, .int (nI n)])), (dp, .inl (cI, 8, .inl fp)), (bk, .inr (1, [.ref bp])), (bp, .inl (cI, 1024, .inl fb))]) [0, 1, 2, 3, 4] rfl
    have hD9 := hD.sub (ws' := [(mx, .inr (7, [.ref dr, .ref th, .ref bk, .ref wt, .ref tt, .ref lh, .ref la, .int sh, .long ab, .long be])), (dr, .inr (2, [.ref dp, .ref dc, .int (nI n)])), (dp, .inl (cI, 8, .inl fp)), (bk, .inr (1, [.ref bp])), (bp, .inl (cI, 1024, .inl fb))]) [0, 1, 2, 3, 4] (by decide) rfl
    refine W.widen (k := 0) (n := 0) (Nat.le_of_ble_eq_true rfl) (Nat.le_of_ble_eq_true rfl) ?_
    exact W.zret (v := 0) hx hb hr (mz_nz (by decide +kernel)) (fun t ht hW => ⟨⟨0, (), rfl, Or.inl rfl, fb, by rw [ht]; exact hP9, hD9⟩, hS.F ht⟩) hS.2.2 dX7_book_20
  · skip
    refine lv_iload_n hx hb dX7_book_9 rfl (lv_at hl 3 rfl) ?_
    refine lv_if_lt (tgt := 19) hx hb dX7_book_10 (by decide) (fun c_10 => ?_) (fun c_10 => ?_)
    · skip
      refine lv_iconst (v := 0) hx hb dX7_book_19 (by decide +kernel) ?_
      have hP9 := hP.sub (ws' := [(mx, .inr (7, [.ref dr, .ref th, .ref bk, .ref wt, .ref tt, .ref lh, .ref la, .int sh, .long ab, .long be])), (dr, .inr (2, [.ref dp, .ref dc, .int (nI n)])), (dp, .inl (cI, 8, .inl fp)), (bk, .inr (1, [.ref bp])), (bp, .inl (cI, 1024, .inl fb))]) [0, 1, 2, 3, 4] rfl
      have hD9 := hD.sub (ws' := [(mx, .inr (7, [.ref dr, .ref th, .ref bk, .ref wt, .ref tt, .ref lh, .ref la, .int sh, .long ab, .long be])), (dr, .inr (2, [.ref dp, .ref dc, .int (nI n)])), (dp, .inl (cI, 8, .inl fp)), (bk, .inr (1, [.ref bp])), (bp, .inl (cI, 1024, .inl fb))]) [0, 1, 2, 3, 4] (by decide) rfl
      refine W.widen (k := 0) (n := 0) (Nat.le_of_ble_eq_true rfl) (Nat.le_of_ble_eq_true rfl) ?_
      exact W.zret (v := 0) hx hb hr (mz_nz (by decide +kernel)) (fun t ht hW => ⟨⟨0, (), rfl, Or.inl rfl, fb, by rw [ht]; exact hP9, hD9⟩, hS.F ht⟩) hS.2.2 dX7_book_20
    · skip
      refine lv_iload_n hx hb dX7_book_13 rfl (lv_at hl 3 rfl) ?_
      refine lv_bipush (v := 100) hx hb dX7_book_14 (by decide +kernel) ?_
      refine lv_icmp_le (tgt := 21) hx hb dX7_book_16 (by decide) (fun c_16 => ?_) (fun c_16 => ?_)
      · skip
        refine lv_aload_n hx hb dX7_book_21 rfl (lv_at hl 0 rfl) ?_
        refine va_get (D := (dC, dI)) (ci := 7) (v := .ref bk) (C := RX7) (T := TX7) (N := 10) hx hb hts hiX7 hown hK hP 0 rfl rfl 2 (by decide) (hts (.fieldLink RX7 22 "MadeItSo" "books" "LMadeItSo$Books;") (by decide +kernel)) (fun _ h9 => h9) rfl dX7_book_22 ?_
        refine lv_iload_n hx hb dX7_book_25 rfl (lv_at hl 1 rfl) ?_
        refine lv_iload_n hx hb dX7_book_26 rfl (lv_at hl 2 rfl) ?_
        refine lv_iload_n hx hb dX7_book_27 rfl (lv_at hl 3 rfl) ?_
        have hPc := hP.sub (ws' := [(bk, .inr (1, [.ref bp])), (bp, .inl (cI, 1024, .inl fb))]) [3, 4] rfl
        have hDc := hD.sub (ws' := [(bk, .inr (1, [.ref bp])), (bp, .inl (cI, 1024, .inl fb))]) [3, 4] (by decide) rfl
        have hFc := va_free (wc := [(bk, .inr (1, [.ref bp])), (bp, .inl (cI, 1024, .inl fb))]) hD hS hA [3, 4] rfl
        refine va_callv (va_runV (As := [.int p1, .int p2, .int p3]) (rest := []) ⟨hx, hb, hml, hown, hts⟩ (mz_b_write l dC dI cI cJ cZ bk bp fb p1 p2 p3 s.heap.size ) (cwV 3 hts gX7_book_X1_write rfl rfl rfl (by decide +kernel) ⟨Nat.le_of_ble_eq_true rfl, Nat.le_of_ble_eq_true rfl⟩) ⟨fun a U g mk q => mz_blI q, va_recv hK hPc (ci := 1) (q0 := 0) rfl rfl, fun U hU hW => ⟨rfl, by rw [hU], by rw [hU]; exact hPc, va_K.moved hW.alike hK, hDc.weaken (fun _ _ _ _ => trivial), mz_nw hW hN⟩⟩ rfl rfl hl.1 rfl (lv_room (Nat.le_of_ble_eq_true rfl)) dX7_book_28 ⟨Nat.le_of_ble_eq_true rfl, Nat.le_of_ble_eq_true rfl⟩) hS (fun q _ h => hFc q h) hFc (fun u t H1 locs ht hvm hw_28 hB hz1 hk1 hS => ?_)
        obtain ⟨gb_28, hP1, hD1⟩ := hB
        rw [ht] at hP1
        obtain ⟨hP, hD⟩ := va_join (wr := [(mx, .inr (7, [.ref dr, .ref th, .ref bk, .ref wt, .ref tt, .ref lh, .ref la, .int sh, .long ab, .long be])), (dr, .inr (2, [.ref dp, .ref dc, .int (nI n)])), (dp, .inl (cI, 8, .inl fp))]) (w1 := [(bk, .inr (1, [.ref bp])), (bp, .inl (cI, 1024, .inl gb_28))]) hP hD [3, 4] [0, 1, 2] rfl rfl (by decide) (by decide) hk1 hFc hP1 hD1
        generalize H1 = H at hP hS ⊢
        have hP : va_P (dC, dI) vwCl [(mx, .inr (7, [.ref dr, .ref th, .ref bk, .ref wt, .ref tt, .ref lh, .ref la, .int sh, .long ab, .long be])), (dr, .inr (2, [.ref dp, .ref dc, .int (nI n)])), (dp, .inl (cI, 8, .inl fp)), (bk, .inr (1, [.ref bp])), (bp, .inl (cI, 1024, .inl gb_28))] H := hP
        have hD : va_D A [(mx, .inr (7, [.ref dr, .ref th, .ref bk, .ref wt, .ref tt, .ref lh, .ref la, .int sh, .long ab, .long be])), (dr, .inr (2, [.ref dp, .ref dc, .int (nI n)])), (dp, .inl (cI, 8, .inl fp)), (bk, .inr (1, [.ref bp])), (bp, .inl (cI, 1024, .inl gb_28))] := hD
        refine lv_iconst (v := 1) hx hb dX7_book_31 (by decide +kernel) ?_
        have hP9 := hP.sub (ws' := [(mx, .inr (7, [.ref dr, .ref th, .ref bk, .ref wt, .ref tt, .ref lh, .ref la, .int sh, .long ab, .long be])), (dr, .inr (2, [.ref dp, .ref dc, .int (nI n)])), (dp, .inl (cI, 8, .inl fp)), (bk, .inr (1, [.ref bp])), (bp, .inl (cI, 1024, .inl gb_28))]) [0, 1, 2, 3, 4] rfl
        have hD9 := hD.sub (ws' := [(mx, .inr (7, [.ref dr, .ref th, .ref bk, .ref wt, .ref tt, .ref lh, .ref la, .int sh, .long ab, .long be])), (dr, .inr (2, [.ref dp, .ref dc, .int (nI n)])), (dp, .inl (cI, 8, .inl fp)), (bk, .inr (1, [.ref bp])), (bp, .inl (cI, 1024, .inl gb_28))]) [0, 1, 2, 3, 4] (by decide) rfl
        refine W.widen (k := 0) (n := 0) (Nat.le_of_ble_eq_true rfl) (Nat.le_of_ble_eq_true rfl) ?_
        exact W.zret (v := 1) hx hb hr (mz_nz (by decide +kernel)) (fun t ht hW => ⟨⟨1, (), rfl, Or.inr rfl, gb_28, by rw [ht]; exact hP9, hD9⟩, hS.F ht⟩) hS.2.2 dX7_book_32
      · skip
        refine lv_iconst (v := 0) hx hb dX7_book_19 (by decide +kernel) ?_
        have hP9 := hP.sub (ws' := [(mx, .inr (7, [.ref dr, .ref th, .ref bk, .ref wt, .ref tt, .ref lh, .ref la, .int sh, .long ab, .long be])), (dr, .inr (2, [.ref dp, .ref dc, .int (nI n)])), (dp, .inl (cI, 8, .inl fp)), (bk, .inr (1, [.ref bp])), (bp, .inl (cI, 1024, .inl fb))]) [0, 1, 2, 3, 4] rfl
        have hD9 := hD.sub (ws' := [(mx, .inr (7, [.ref dr, .ref th, .ref bk, .ref wt, .ref tt, .ref lh, .ref la, .int sh, .long ab, .long be])), (dr, .inr (2, [.ref dp, .ref dc, .int (nI n)])), (dp, .inl (cI, 8, .inl fp)), (bk, .inr (1, [.ref bp])), (bp, .inl (cI, 1024, .inl fb))]) [0, 1, 2, 3, 4] (by decide) rfl
        refine W.widen (k := 0) (n := 0) (Nat.le_of_ble_eq_true rfl) (Nat.le_of_ble_eq_true rfl) ?_
        exact W.zret (v := 0) hx hb hr (mz_nz (by decide +kernel)) (fun t ht hW => ⟨⟨0, (), rfl, Or.inl rfl, fb, by rw [ht]; exact hP9, hD9⟩, hS.F ht⟩) hS.2.2 dX7_book_20
set_option maxHeartbeats 1000000 in
set_option maxRecDepth 100000 in
theorem mz_x_booked (l : Launch) (dC : Nat → ClassId) (dI : Nat → Nat → Nat) (cI cJ cZ : ClassId) (mx : Nat) (dr : Nat) (th : Nat) (bk : Nat) (wt : Nat) (tt : Nat) (lh : Nat) (la : Nat) (sh : Int32) (ab : Int64) (be : Int64) (dp : Nat) (dc : Nat) (n : Nat) (fp : Nat → Int32) (bp : Nat) (fb : Nat → Int32) (p1 : Int32) (p2 : Int32) (Hq : Heap) (hn : n ≤ 8) : Met l yX7_booked wsX7_booked ({ frames := 3, cells := 0, slots := 0, locals := 64 }) (va_Pc [.ref mx, .int p1, .int p2] (fun U => U.heap = Hq ∧ va_P (dC, dI) vwCl [(mx, .inr (7, [.ref dr, .ref th, .ref bk, .ref wt, .ref tt, .ref lh, .ref la, .int sh, .long ab, .long be])), (dr, .inr (2, [.ref dp, .ref dc, .int (nI n)])), (dp, .inl (cI, 8, .inl fp)), (bk, .inr (1, [.ref bp])), (bp, .inl (cI, 1024, .inl fb))] Hq ∧ va_K (dC, dI) vwCl [(cI, FieldType.int), (cJ, FieldType.long), (cZ, FieldType.boolean)] U ∧ mz_N U)) (va_Qi (fun (r : Int32) (_ : Unit) => True) (fun _ t => t.heap = Hq) (fun _ : Nat => False)) 0 0 (fun _ : Nat => False) := by
  refine Met.ofW (cc := cX7_booked) (maxL := 3) (ret := (some .int)) (by decide) rfl ?_
  intro p e s m args below meth c s₁ B hml hv
  obtain ⟨rfl, hH, hP, hK, hN⟩ := hv
  subst hH
  have hx := B.exec
  have hb := B.bytes
  have hr := B.returns
  have hts := atoms_spec (ws := wsX7_booked) B.pre
  have hown : s.vm.findClass RX7 = some m.cls := findClass_of_methodNamed B.named
  have hlocks := B.notSynchronized
  have hS : va_S (fun _ : Nat => False) s.heap s.heap [] := va_S.rf
  have hiX7 : ∀ w ∈ u_ws RX7 TX7 10, w ∈ wsX7_booked := by decide +kernel
  have hl := lv_entry ([.ref mx, .int p1, .int p2]) (n := 3) (Nat.le_of_ble_eq_true rfl)
  rw [lg_entry_eq]
  generalize (lg_sl ([.ref mx, .int p1, .int p2]) ++ List.replicate (3 - (lg_sl ([.ref mx, .int p1, .int p2])).length) Slot.unset).toArray = ls at hl ⊢
  have hl : lv_has ls 3 [(0, .ref mx), (1, .int p1), (2, .int p2)] := hl
  refine lv_aload_n hx hb dX7_booked_0 rfl (lv_at hl 0 rfl) ?_
  refine lv_iload_n hx hb dX7_booked_1 rfl (lv_at hl 1 rfl) ?_
  refine lv_iload_n hx hb dX7_booked_2 rfl (lv_at hl 2 rfl) ?_
  have hPc := hP.sub (ws' := [(mx, .inr (7, [.ref dr, .ref th, .ref bk, .ref wt, .ref tt, .ref lh, .ref la, .int sh, .long ab, .long be])), (dr, .inr (2, [.ref dp, .ref dc, .int (nI n)])), (dp, .inl (cI, 8, .inl fp))]) [0, 1, 2] rfl
  refine va_calli (va_runV (As := [.int p1, .int p2]) (rest := []) ⟨hx, hb, hml, hown, hts⟩ (mz_x_hasRow l dC dI cI cJ cZ mx dr th bk wt tt lh la sh ab be dp dc n fp p1 p2 s.heap (by first | assumption | omega)) (cwV 2 hts gX7_booked_X7_hasRow rfl rfl rfl (by decide +kernel) ⟨Nat.le_of_ble_eq_true rfl, Nat.le_of_ble_eq_true rfl⟩) ⟨fun a U g mk q => mz_blP q, va_recv hK hPc (ci := 7) (q0 := 0) rfl rfl, fun U hU hW => ⟨rfl, hU, hPc, va_K.moved hW.alike hK, mz_nw hW hN⟩⟩ rfl rfl hl.1 rfl (lv_room (Nat.le_of_ble_eq_true rfl)) dX7_booked_3 ⟨Nat.le_of_ble_eq_true rfl, Nat.le_of_ble_eq_true rfl⟩) hS (fun q _ h => h.elim) (fun q h => h.elim) (fun r_3 u t H1 locs ht hvm hw_3 hB hz1 hk1 hS => ?_)
  have hE : s.heap = H1 := hB.symm.trans ht
  subst hE
  refine lv_if_eq (tgt := 21) hx hb dX7_booked_6 (by decide) (fun c_6 => ?_) (fun c_6 => ?_)
  · skip
    refine lv_iconst (v := (-1)) hx hb dX7_booked_21 (by decide +kernel) ?_
    refine W.widen (k := 0) (n := 0) (Nat.le_of_ble_eq_true rfl) (Nat.le_of_ble_eq_true rfl) ?_
    exact W.iret (v := (-1)) hx hb hr (fun t ht hW => ⟨⟨(-1), (), rfl, trivial, ht⟩, hS.F ht⟩) hS.2.2 dX7_booked_22
  · skip
    refine lv_aload_n hx hb dX7_booked_9 rfl (lv_at hl 0 rfl) ?_
    refine va_get (D := (dC, dI)) (ci := 7) (v := .ref bk) (C := RX7) (T := TX7) (N := 10) hx hb hts hiX7 hown hK hP 0 rfl rfl 2 (by decide) (hts (.fieldLink RX7 22 "MadeItSo" "books" "LMadeItSo$Books;") (by decide +kernel)) (fun _ h9 => h9) rfl dX7_booked_10 ?_
    refine lv_iload_n hx hb dX7_booked_13 rfl (lv_at hl 1 rfl) ?_
    refine lv_iload_n hx hb dX7_booked_14 rfl (lv_at hl 2 rfl) ?_
    have hPc := hP.sub (ws' := [(bk, .inr (1, [.ref bp])), (bp, .inl (cI, 1024, .inl fb))]) [3, 4] rfl
    refine va_calli (va_runV (As := [.int p1, .int p2]) (rest := []) ⟨hx, hb, hml, hown, hts⟩ (mz_b_read l dC dI cI cJ cZ bk bp fb p1 p2 s.heap ) (cwV 2 hts gX7_booked_X1_read rfl rfl rfl (by decide +kernel) ⟨Nat.le_of_ble_eq_true rfl, Nat.le_of_ble_eq_true rfl⟩) ⟨fun a U g mk q => mz_blP q, va_recv hK hPc (ci := 1) (q0 := 0) rfl rfl, fun U hU hW => ⟨rfl, hU, hPc, va_K.moved hW.alike hK, mz_nw hW hN⟩⟩ rfl rfl hl.1 rfl (lv_room (Nat.le_of_ble_eq_true rfl)) dX7_booked_15 ⟨Nat.le_of_ble_eq_true rfl, Nat.le_of_ble_eq_true rfl⟩) hS (fun q _ h => h.elim) (fun q h => h.elim) (fun r_15 u t H1 locs ht hvm hw_15 hB hz1 hk1 hS => ?_)
    have hE : s.heap = H1 := hB.symm.trans ht
    subst hE
    refine lv_goto (tgt := 22) hx hb dX7_booked_18 (by decide) ?_
    refine W.widen (k := 0) (n := 0) (Nat.le_of_ble_eq_true rfl) (Nat.le_of_ble_eq_true rfl) ?_
    exact W.iret (v := r_15) hx hb hr (fun t ht hW => ⟨⟨r_15, (), rfl, trivial, ht⟩, hS.F ht⟩) hS.2.2 dX7_booked_22
set_option maxHeartbeats 1000000 in
set_option maxRecDepth 100000 in
theorem mz_x_told (l : Launch) (dC : Nat → ClassId) (dI : Nat → Nat → Nat) (cI cJ cZ : ClassId) (mx : Nat) (dr : Nat) (th : Nat) (bk : Nat) (wt : Nat) (tt : Nat) (lh : Nat) (la : Nat) (sh : Int32) (ab : Int64) (be : Int64) (dp : Nat) (dc : Nat) (n : Nat) (fp : Nat → Int32) (fc : Nat → Int32) (p1 : Int32) (p2 : Int32) (Hq : Heap) (hn : n ≤ 8) : Met l yX7_told wsX7_told ({ frames := 5, cells := 0, slots := 0, locals := 111 }) (va_Pc [.ref mx, .int p1, .int p2] (fun U => U.heap = Hq ∧ va_P (dC, dI) vwCl [(mx, .inr (7, [.ref dr, .ref th, .ref bk, .ref wt, .ref tt, .ref lh, .ref la, .int sh, .long ab, .long be])), (dr, .inr (2, [.ref dp, .ref dc, .int (nI n)])), (dp, .inl (cI, 8, .inl fp)), (dc, .inl (cI, 8, .inl fc))] Hq ∧ va_K (dC, dI) vwCl [(cI, FieldType.int), (cJ, FieldType.long), (cZ, FieldType.boolean)] U ∧ mz_N U)) (va_Qi (fun (r : Int32) (_ : Unit) => True) (fun _ t => t.heap = Hq) (fun _ : Nat => False)) 0 0 (fun _ : Nat => False) := by
  refine Met.ofW (cc := cX7_told) (maxL := 3) (ret := (some .int)) (by decide) rfl ?_
  intro p e s m args below meth c s₁ B hml hv
  obtain ⟨rfl, hH, hP, hK, hN⟩ := hv
  subst hH
  have hx := B.exec
  have hb := B.bytes
  have hr := B.returns
  have hts := atoms_spec (ws := wsX7_told) B.pre
  have hown : s.vm.findClass RX7 = some m.cls := findClass_of_methodNamed B.named
  have hlocks := B.notSynchronized
  have hS : va_S (fun _ : Nat => False) s.heap s.heap [] := va_S.rf
  have hiX7 : ∀ w ∈ u_ws RX7 TX7 10, w ∈ wsX7_told := by decide +kernel
  have hl := lv_entry ([.ref mx, .int p1, .int p2]) (n := 3) (Nat.le_of_ble_eq_true rfl)
  rw [lg_entry_eq]
  generalize (lg_sl ([.ref mx, .int p1, .int p2]) ++ List.replicate (3 - (lg_sl ([.ref mx, .int p1, .int p2])).length) Slot.unset).toArray = ls at hl ⊢
  have hl : lv_has ls 3 [(0, .ref mx), (1, .int p1), (2, .int p2)] := hl
  refine lv_aload_n hx hb dX7_told_0 rfl (lv_at hl 0 rfl) ?_
  refine va_get (D := (dC, dI)) (ci := 7) (v := .ref dr) (C := RX7) (T := TX7) (N := 10) hx hb hts hiX7 hown hK hP 0 rfl rfl 0 (by decide) (hts (.fieldLink RX7 12 "MadeItSo" "drawing" "LMadeItSo$Drawing;") (by decide +kernel)) (fun _ h9 => h9) rfl dX7_told_1 ?_
  refine lv_iload_n hx hb dX7_told_4 rfl (lv_at hl 1 rfl) ?_
  have hPc := hP.sub (ws' := [(dr, .inr (2, [.ref dp, .ref dc, .int (nI n)]))]) [1] rfl
  refine va_calli (va_runV (As := [.int p1]) (rest := []) ⟨hx, hb, hml, hown, hts⟩ (mz_d_has l dC dI cI cJ cZ dr dp dc n p1 s.heap (by first | assumption | omega)) (cwV 1 hts gX7_told_X2_has rfl rfl rfl (by decide +kernel) ⟨Nat.le_of_ble_eq_true rfl, Nat.le_of_ble_eq_true rfl⟩) ⟨fun a U g mk q => mz_blP q, va_recv hK hPc (ci := 2) (q0 := 0) rfl rfl, fun U hU hW => ⟨rfl, hU, hPc, va_K.moved hW.alike hK, mz_nw hW hN⟩⟩ rfl rfl hl.1 rfl (lv_room (Nat.le_of_ble_eq_true rfl)) dX7_told_5 ⟨Nat.le_of_ble_eq_true rfl, Nat.le_of_ble_eq_true rfl⟩) hS (fun q _ h => h.elim) (fun q h => h.elim) (fun r_5 u t H1 locs ht hvm hw_5 hB hz1 hk1 hS => ?_)
  have hE : s.heap = H1 := hB.symm.trans ht
  subst hE
  rcases (show (r_5 = 1 ∧ ∃ j : Nat, j < n ∧ p1 = nI j) ∨ r_5 = 0 from hw_5) with ⟨rfl, j_5, hj_5, he_5⟩ | rfl
  · skip
    subst he_5
    refine lv_if_ne (tgt := 13) hx hb dX7_told_8 (by decide) (fun _ => ?_) (fun c_8 => absurd c_8 (by decide +kernel))
    refine lv_iload_n hx hb dX7_told_13 rfl (lv_at hl 2 rfl) ?_
    by_cases hs_0 : p2 = 0
    · refine mz_ti (y := 0) hs_0 ?_
      refine lv_tableIn (tgt := 44) (off := 30) hx hb dX7_told_14 (by decide +kernel) (by decide +kernel) (by decide +kernel) (by decide) ?_
      refine lv_aload_n hx hb dX7_told_44 rfl (lv_at hl 0 rfl) ?_
      refine va_get (D := (dC, dI)) (ci := 7) (v := .int sh) (C := RX7) (T := TX7) (N := 10) hx hb hts hiX7 hown hK hP 0 rfl rfl 7 (by decide) (hts (.fieldLink RX7 54 "MadeItSo" "seenHeap" "I") (by decide +kernel)) (fun _ h9 => h9) rfl dX7_told_45 ?_
      refine lv_iload_n hx hb dX7_told_48 rfl (lv_at hl 1 rfl) ?_
      have hPc := hP.sub (ws' := []) [] rfl
      refine va_calli (va_runS (As := [.int sh, .int (nI j_5)]) (rest := []) ⟨hx, hb, hml, hown, hts⟩ (mz_g_inHeap l dC dI cI cJ cZ sh (nI j_5) s.heap ) (va_cwS 2 hts gX7_told_X7_inHeap rfl rfl rfl (by decide +kernel) ⟨Nat.le_of_ble_eq_true rfl, Nat.le_of_ble_eq_true rfl⟩) ⟨fun a U g mk q => mz_blP q, fun U hU hW => ⟨rfl, hU, hPc, va_K.moved hW.alike hK, mz_nw hW hN⟩⟩ rfl rfl hl.1 rfl (lv_room (Nat.le_of_ble_eq_true rfl)) dX7_told_49 ⟨Nat.le_of_ble_eq_true rfl, Nat.le_of_ble_eq_true rfl⟩) hS (fun q _ h => h.elim) (fun q h => h.elim) (fun r_49 u t H1 locs ht hvm hw_49 hB hz1 hk1 hS => ?_)
      have hE : s.heap = H1 := hB.symm.trans ht
      subst hE
      refine lv_if_eq (tgt := 59) hx hb dX7_told_52 (by decide) (fun c_52 => ?_) (fun c_52 => ?_)
      · skip
        refine lv_iconst (v := 0) hx hb dX7_told_59 (by decide +kernel) ?_
        refine W.widen (k := 0) (n := 0) (Nat.le_of_ble_eq_true rfl) (Nat.le_of_ble_eq_true rfl) ?_
        exact W.iret (v := 0) hx hb hr (fun t ht hW => ⟨⟨0, (), rfl, trivial, ht⟩, hS.F ht⟩) hS.2.2 dX7_told_60
      · skip
        refine lv_iconst (v := 1) hx hb dX7_told_55 (by decide +kernel) ?_
        refine lv_goto (tgt := 60) hx hb dX7_told_56 (by decide) ?_
        refine W.widen (k := 0) (n := 0) (Nat.le_of_ble_eq_true rfl) (Nat.le_of_ble_eq_true rfl) ?_
        exact W.iret (v := 1) hx hb hr (fun t ht hW => ⟨⟨1, (), rfl, trivial, ht⟩, hS.F ht⟩) hS.2.2 dX7_told_60
    by_cases hs_1 : p2 = 1
    · refine mz_ti (y := 1) hs_1 ?_
      refine lv_tableIn (tgt := 61) (off := 47) hx hb dX7_told_14 (by decide +kernel) (by decide +kernel) (by decide +kernel) (by decide) ?_
      refine lv_aload_n hx hb dX7_told_61 rfl (lv_at hl 0 rfl) ?_
      refine va_get (D := (dC, dI)) (ci := 7) (v := .ref dr) (C := RX7) (T := TX7) (N := 10) hx hb hts hiX7 hown hK hP 0 rfl rfl 0 (by decide) (hts (.fieldLink RX7 12 "MadeItSo" "drawing" "LMadeItSo$Drawing;") (by decide +kernel)) (fun _ h9 => h9) rfl dX7_told_62 ?_
      refine lv_iload_n hx hb dX7_told_65 rfl (lv_at hl 1 rfl) ?_
      have hPc := hP.sub (ws' := [(dr, .inr (2, [.ref dp, .ref dc, .int (nI n)])), (dp, .inl (cI, 8, .inl fp))]) [1, 2] rfl
      refine va_calli (va_runV (As := [.int (nI j_5)]) (rest := []) ⟨hx, hb, hml, hown, hts⟩ (mz_d_parentsOf l dC dI cI cJ cZ dr dp dc n fp (nI j_5) s.heap (by first | assumption | omega)) (cwV 1 hts gX7_told_X2_parentsOf rfl rfl rfl (by decide +kernel) ⟨Nat.le_of_ble_eq_true rfl, Nat.le_of_ble_eq_true rfl⟩) ⟨fun a U g mk q => mz_blP q, va_recv hK hPc (ci := 2) (q0 := 0) rfl rfl, fun U hU hW => ⟨rfl, hU, hPc, va_K.moved hW.alike hK, mz_nw hW hN⟩⟩ rfl rfl hl.1 rfl (lv_room (Nat.le_of_ble_eq_true rfl)) dX7_told_66 ⟨Nat.le_of_ble_eq_true rfl, Nat.le_of_ble_eq_true rfl⟩) hS (fun q _ h => h.elim) (fun q h => h.elim) (fun r_66 u t H1 locs ht hvm hw_66 hB hz1 hk1 hS => ?_)
      have hE : s.heap = H1 := hB.symm.trans ht
      subst hE
      refine W.widen (k := 0) (n := 0) (Nat.le_of_ble_eq_true rfl) (Nat.le_of_ble_eq_true rfl) ?_
      exact W.iret (v := r_66) hx hb hr (fun t ht hW => ⟨⟨r_66, (), rfl, trivial, ht⟩, hS.F ht⟩) hS.2.2 dX7_told_69
    by_cases hs_2 : p2 = 2
    · refine mz_ti (y := 2) hs_2 ?_
      refine lv_tableIn (tgt := 70) (off := 56) hx hb dX7_told_14 (by decide +kernel) (by decide +kernel) (by decide +kernel) (by decide) ?_
      refine lv_aload_n hx hb dX7_told_70 rfl (lv_at hl 0 rfl) ?_
      refine va_get (D := (dC, dI)) (ci := 7) (v := .ref dr) (C := RX7) (T := TX7) (N := 10) hx hb hts hiX7 hown hK hP 0 rfl rfl 0 (by decide) (hts (.fieldLink RX7 12 "MadeItSo" "drawing" "LMadeItSo$Drawing;") (by decide +kernel)) (fun _ h9 => h9) rfl dX7_told_71 ?_
      refine lv_iload_n hx hb dX7_told_74 rfl (lv_at hl 1 rfl) ?_
      have hPc := hP.sub (ws' := [(dr, .inr (2, [.ref dp, .ref dc, .int (nI n)])), (dc, .inl (cI, 8, .inl fc))]) [1, 3] rfl
      refine va_calli (va_runV (As := [.int (nI j_5)]) (rest := []) ⟨hx, hb, hml, hown, hts⟩ (mz_d_childrenOf l dC dI cI cJ cZ dr dp dc n fc (nI j_5) s.heap (by first | assumption | omega)) (cwV 1 hts gX7_told_X2_childrenOf rfl rfl rfl (by decide +kernel) ⟨Nat.le_of_ble_eq_true rfl, Nat.le_of_ble_eq_true rfl⟩) ⟨fun a U g mk q => mz_blP q, va_recv hK hPc (ci := 2) (q0 := 0) rfl rfl, fun U hU hW => ⟨rfl, hU, hPc, va_K.moved hW.alike hK, mz_nw hW hN⟩⟩ rfl rfl hl.1 rfl (lv_room (Nat.le_of_ble_eq_true rfl)) dX7_told_75 ⟨Nat.le_of_ble_eq_true rfl, Nat.le_of_ble_eq_true rfl⟩) hS (fun q _ h => h.elim) (fun q h => h.elim) (fun r_75 u t H1 locs ht hvm hw_75 hB hz1 hk1 hS => ?_)
      have hE : s.heap = H1 := hB.symm.trans ht
      subst hE
      refine W.widen (k := 0) (n := 0) (Nat.le_of_ble_eq_true rfl) (Nat.le_of_ble_eq_true rfl) ?_
      exact W.iret (v := r_75) hx hb hr (fun t ht hW => ⟨⟨r_75, (), rfl, trivial, ht⟩, hS.F ht⟩) hS.2.2 dX7_told_78
    by_cases hs_3 : p2 = 3
    · refine mz_ti (y := 3) hs_3 ?_
      refine lv_tableIn (tgt := 79) (off := 65) hx hb dX7_told_14 (by decide +kernel) (by decide +kernel) (by decide +kernel) (by decide) ?_
      refine lv_aload_n hx hb dX7_told_79 rfl (lv_at hl 0 rfl) ?_
      refine va_get (D := (dC, dI)) (ci := 7) (v := .ref dr) (C := RX7) (T := TX7) (N := 10) hx hb hts hiX7 hown hK hP 0 rfl rfl 0 (by decide) (hts (.fieldLink RX7 12 "MadeItSo" "drawing" "LMadeItSo$Drawing;") (by decide +kernel)) (fun _ h9 => h9) rfl dX7_told_80 ?_
      refine lv_iload_n hx hb dX7_told_83 rfl (lv_at hl 1 rfl) ?_
      have hPc := hP.sub (ws' := [(dr, .inr (2, [.ref dp, .ref dc, .int (nI n)])), (dc, .inl (cI, 8, .inl fc))]) [1, 3] rfl
      refine va_calli (va_runV (As := [.int (nI j_5)]) (rest := []) ⟨hx, hb, hml, hown, hts⟩ (mz_d_allBelow l dC dI cI cJ cZ dr dp dc n fc (nI j_5) s.heap (by first | assumption | omega)) (cwV 1 hts gX7_told_X2_allBelow rfl rfl rfl (by decide +kernel) ⟨Nat.le_of_ble_eq_true rfl, Nat.le_of_ble_eq_true rfl⟩) ⟨fun a U g mk q => mz_blP q, va_recv hK hPc (ci := 2) (q0 := 0) rfl rfl, fun U hU hW => ⟨rfl, hU, hPc, va_K.moved hW.alike hK, mz_nw hW hN⟩⟩ rfl rfl hl.1 rfl (lv_room (Nat.le_of_ble_eq_true rfl)) dX7_told_84 ⟨Nat.le_of_ble_eq_true rfl, Nat.le_of_ble_eq_true rfl⟩) hS (fun q _ h => h.elim) (fun q h => h.elim) (fun r_84 u t H1 locs ht hvm hw_84 hB hz1 hk1 hS => ?_)
      have hE : s.heap = H1 := hB.symm.trans ht
      subst hE
      refine W.widen (k := 0) (n := 0) (Nat.le_of_ble_eq_true rfl) (Nat.le_of_ble_eq_true rfl) ?_
      exact W.iret (v := r_84) hx hb hr (fun t ht hW => ⟨⟨r_84, (), rfl, trivial, ht⟩, hS.F ht⟩) hS.2.2 dX7_told_87
    refine lv_tableOut (tgt := 88) hx hb dX7_told_14 (mz_sw3 hs_0 hs_1 hs_2 hs_3) (by decide) ?_
    refine lv_iconst (v := (-1)) hx hb dX7_told_88 (by decide +kernel) ?_
    refine W.widen (k := 0) (n := 0) (Nat.le_of_ble_eq_true rfl) (Nat.le_of_ble_eq_true rfl) ?_
    exact W.iret (v := (-1)) hx hb hr (fun t ht hW => ⟨⟨(-1), (), rfl, trivial, ht⟩, hS.F ht⟩) hS.2.2 dX7_told_89
  · skip
    refine lv_if_ne (tgt := 13) hx hb dX7_told_8 (by decide) (fun c_8 => absurd (by decide +kernel) c_8) (fun _ => ?_)
    refine lv_iconst (v := (-1)) hx hb dX7_told_11 (by decide +kernel) ?_
    refine W.widen (k := 0) (n := 0) (Nat.le_of_ble_eq_true rfl) (Nat.le_of_ble_eq_true rfl) ?_
    exact W.iret (v := (-1)) hx hb hr (fun t ht hW => ⟨⟨(-1), (), rfl, trivial, ht⟩, hS.F ht⟩) hS.2.2 dX7_told_12
set_option maxHeartbeats 1000000 in
set_option maxRecDepth 100000 in
theorem mz_x_weight (l : Launch) (dC : Nat → ClassId) (dI : Nat → Nat → Nat) (cI cJ cZ : ClassId) (mx : Nat) (dr : Nat) (th : Nat) (bk : Nat) (wt : Nat) (tt : Nat) (lh : Nat) (la : Nat) (sh : Int32) (ab : Int64) (be : Int64) (dp : Nat) (dc : Nat) (n : Nat) (fp : Nat → Int32) (bp : Nat) (fb : Nat → Int32) (wo : Nat) (ev : Int32) (fw : Nat → Int64) (p1 : Int32) (p2 : Int32) (sz : Nat) (hn : n ≤ 8) : Met l yX7_weight wsX7_weight ({ frames := 4, cells := 0, slots := 0, locals := 98 }) (va_Pc [.ref mx, .int p1, .int p2] (fun U => U.heap.size = sz ∧ va_P (dC, dI) vwCl [(mx, .inr (7, [.ref dr, .ref th, .ref bk, .ref wt, .ref tt, .ref lh, .ref la, .int sh, .long ab, .long be])), (dr, .inr (2, [.ref dp, .ref dc, .int (nI n)])), (dp, .inl (cI, 8, .inl fp)), (bk, .inr (1, [.ref bp])), (bp, .inl (cI, 1024, .inl fb)), (wt, .inr (6, [.ref wo, .int ev])), (wo, .inl (cJ, 256, .inr (.inl fw)))] U.heap ∧ va_K (dC, dI) vwCl [(cI, FieldType.int), (cJ, FieldType.long), (cZ, FieldType.boolean)] U ∧ va_D (fun _ => True) [(mx, .inr (7, [.ref dr, .ref th, .ref bk, .ref wt, .ref tt, .ref lh, .ref la, .int sh, .long ab, .long be])), (dr, .inr (2, [.ref dp, .ref dc, .int (nI n)])), (dp, .inl (cI, 8, .inl fp)), (bk, .inr (1, [.ref bp])), (bp, .inl (cI, 1024, .inl fb)), (wt, .inr (6, [.ref wo, .int ev])), (wo, .inl (cJ, 256, .inr (.inl fw)))] ∧ mz_N U)) (va_Ql (fun (r : Int64) (_ : Unit) => True) (fun _ t => ∃ (gev : Int32), ∃ (gw : Nat → Int64), va_P (dC, dI) vwCl [(mx, .inr (7, [.ref dr, .ref th, .ref bk, .ref wt, .ref tt, .ref lh, .ref la, .int sh, .long ab, .long be])), (dr, .inr (2, [.ref dp, .ref dc, .int (nI n)])), (dp, .inl (cI, 8, .inl fp)), (bk, .inr (1, [.ref bp])), (bp, .inl (cI, 1024, .inl fb)), (wt, .inr (6, [.ref wo, .int gev])), (wo, .inl (cJ, 256, .inr (.inl gw)))] t.heap ∧ va_D (va_A [(mx, .inr (7, [.ref dr, .ref th, .ref bk, .ref wt, .ref tt, .ref lh, .ref la, .int sh, .long ab, .long be])), (dr, .inr (2, [.ref dp, .ref dc, .int (nI n)])), (dp, .inl (cI, 8, .inl fp)), (bk, .inr (1, [.ref bp])), (bp, .inl (cI, 1024, .inl fb)), (wt, .inr (6, [.ref wo, .int ev])), (wo, .inl (cJ, 256, .inr (.inl fw)))] sz) [(mx, .inr (7, [.ref dr, .ref th, .ref bk, .ref wt, .ref tt, .ref lh, .ref la, .int sh, .long ab, .long be])), (dr, .inr (2, [.ref dp, .ref dc, .int (nI n)])), (dp, .inl (cI, 8, .inl fp)), (bk, .inr (1, [.ref bp])), (bp, .inl (cI, 1024, .inl fb)), (wt, .inr (6, [.ref wo, .int gev])), (wo, .inl (cJ, 256, .inr (.inl gw)))]) (va_A [(mx, .inr (7, [.ref dr, .ref th, .ref bk, .ref wt, .ref tt, .ref lh, .ref la, .int sh, .long ab, .long be])), (dr, .inr (2, [.ref dp, .ref dc, .int (nI n)])), (dp, .inl (cI, 8, .inl fp)), (bk, .inr (1, [.ref bp])), (bp, .inl (cI, 1024, .inl fb)), (wt, .inr (6, [.ref wo, .int ev])), (wo, .inl (cJ, 256, .inr (.inl fw)))] sz)) 0 0 (va_A [(mx, .inr (7, [.ref dr, .ref th, .ref bk, .ref wt, .ref tt, .ref lh, .ref la, .int sh, .long ab, .long be])), (dr, .inr (2, [.ref dp, .ref dc, .int (nI n)])), (dp, .inl (cI, 8, .inl fp)), (bk, .inr (1, [.ref bp])), (bp, .inl (cI, 1024, .inl fb)), (wt, .inr (6, [.ref wo, .int ev])), (wo, .inl (cJ, 256, .inr (.inl fw)))] sz) := by
  refine Met.ofW (cc := cX7_weight) (maxL := 3) (ret := (some .long)) (by decide) rfl ?_
  intro p e s m args below meth c s₁ B hml hv
  obtain ⟨rfl, hsz, hP, hK, hD0, hN⟩ := hv
  subst hsz
  have hx := B.exec
  have hb := B.bytes
  have hr := B.returns
  have hts := atoms_spec (ws := wsX7_weight) B.pre
  have hown : s.vm.findClass RX7 = some m.cls := findClass_of_methodNamed B.named
  have hlocks := B.notSynchronized
  have hD := hD0.self (sz := s.heap.size)
  generalize hAe : va_A [(mx, .inr (7, [.ref dr, .ref th, .ref bk, .ref wt, .ref tt, .ref lh, .ref la, .int sh, .long ab, .long be])), (dr, .inr (2, [.ref dp, .ref dc, .int (nI n)])), (dp, .inl (cI, 8, .inl fp)), (bk, .inr (1, [.ref bp])), (bp, .inl (cI, 1024, .inl fb)), (wt, .inr (6, [.ref wo, .int ev])), (wo, .inl (cJ, 256, .inr (.inl fw)))] s.heap.size = A at hD ⊢
  have hA : ∀ q : Nat, s.heap.size ≤ q → A q := fun q h => by rw [← hAe]; exact Or.inr h
  have hS : va_S A s.heap s.heap [] := va_S.rf
  have hiX7 : ∀ w ∈ u_ws RX7 TX7 10, w ∈ wsX7_weight := by decide +kernel
  have hl := lv_entry ([.ref mx, .int p1, .int p2]) (n := 3) (Nat.le_of_ble_eq_true rfl)
  rw [lg_entry_eq]
  generalize (lg_sl ([.ref mx, .int p1, .int p2]) ++ List.replicate (3 - (lg_sl ([.ref mx, .int p1, .int p2])).length) Slot.unset).toArray = ls at hl ⊢
  have hl : lv_has ls 3 [(0, .ref mx), (1, .int p1), (2, .int p2)] := hl
  refine lv_aload_n hx hb dX7_weight_0 rfl (lv_at hl 0 rfl) ?_
  refine lv_iload_n hx hb dX7_weight_1 rfl (lv_at hl 1 rfl) ?_
  have hPc := hP.sub (ws' := [(mx, .inr (7, [.ref dr, .ref th, .ref bk, .ref wt, .ref tt, .ref lh, .ref la, .int sh, .long ab, .long be])), (dr, .inr (2, [.ref dp, .ref dc, .int (nI n)]))]) [0, 1] rfl
  refine va_calli (va_runV (As := [.int p1]) (rest := []) ⟨hx, hb, hml, hown, hts⟩ (mz_x_isSetting l dC dI cI cJ cZ mx dr th bk wt tt lh la sh ab be dp dc n p1 s.heap (by first | assumption | omega)) (cwV 1 hts gX7_weight_X7_isSetting rfl rfl rfl (by decide +kernel) ⟨Nat.le_of_ble_eq_true rfl, Nat.le_of_ble_eq_true rfl⟩) ⟨fun a U g mk q => mz_blP q, va_recv hK hPc (ci := 7) (q0 := 0) rfl rfl, fun U hU hW => ⟨rfl, hU, hPc, va_K.moved hW.alike hK, mz_nw hW hN⟩⟩ rfl rfl hl.1 rfl (lv_room (Nat.le_of_ble_eq_true rfl)) dX7_weight_2 ⟨Nat.le_of_ble_eq_true rfl, Nat.le_of_ble_eq_true rfl⟩) hS (fun q _ h => h.elim) (fun q h => h.elim) (fun r_2 u t H1 locs ht hvm hw_2 hB hz1 hk1 hS => ?_)
  have hE : s.heap = H1 := hB.symm.trans ht
  subst hE
  refine lv_if_eq (tgt := 16) hx hb dX7_weight_5 (by decide) (fun c_5 => ?_) (fun c_5 => ?_)
  · skip
    refine lv_ldc2 hx hb hown (hts (.constantLong RX7 121 (-1)) (by decide +kernel)) dX7_weight_16 ?_
    have hP9 := hP.sub (ws' := [(mx, .inr (7, [.ref dr, .ref th, .ref bk, .ref wt, .ref tt, .ref lh, .ref la, .int sh, .long ab, .long be])), (dr, .inr (2, [.ref dp, .ref dc, .int (nI n)])), (dp, .inl (cI, 8, .inl fp)), (bk, .inr (1, [.ref bp])), (bp, .inl (cI, 1024, .inl fb)), (wt, .inr (6, [.ref wo, .int ev])), (wo, .inl (cJ, 256, .inr (.inl fw)))]) [0, 1, 2, 3, 4, 5, 6] rfl
    have hD9 := hD.sub (ws' := [(mx, .inr (7, [.ref dr, .ref th, .ref bk, .ref wt, .ref tt, .ref lh, .ref la, .int sh, .long ab, .long be])), (dr, .inr (2, [.ref dp, .ref dc, .int (nI n)])), (dp, .inl (cI, 8, .inl fp)), (bk, .inr (1, [.ref bp])), (bp, .inl (cI, 1024, .inl fb)), (wt, .inr (6, [.ref wo, .int ev])), (wo, .inl (cJ, 256, .inr (.inl fw)))]) [0, 1, 2, 3, 4, 5, 6] (by decide) rfl
    refine W.widen (k := 0) (n := 0) (Nat.le_of_ble_eq_true rfl) (Nat.le_of_ble_eq_true rfl) ?_
    exact W.lret (v := (-1)) hx hb hr (fun t ht hW => ⟨⟨(-1), (), rfl, trivial, ev, fw, by rw [ht]; exact hP9, hD9⟩, hS.F ht⟩) hS.2.2 dX7_weight_19
  · skip
    refine lv_aload_n hx hb dX7_weight_8 rfl (lv_at hl 0 rfl) ?_
    refine lv_iload_n hx hb dX7_weight_9 rfl (lv_at hl 2 rfl) ?_
    have hPc := hP.sub (ws' := [(mx, .inr (7, [.ref dr, .ref th, .ref bk, .ref wt, .ref tt, .ref lh, .ref la, .int sh, .long ab, .long be])), (dr, .inr (2, [.ref dp, .ref dc, .int (nI n)]))]) [0, 1] rfl
    refine va_calli (va_runV (As := [.int p2]) (rest := []) ⟨hx, hb, hml, hown, hts⟩ (mz_x_isSetting l dC dI cI cJ cZ mx dr th bk wt tt lh la sh ab be dp dc n p2 s.heap (by first | assumption | omega)) (cwV 1 hts gX7_weight_X7_isSetting rfl rfl rfl (by decide +kernel) ⟨Nat.le_of_ble_eq_true rfl, Nat.le_of_ble_eq_true rfl⟩) ⟨fun a U g mk q => mz_blP q, va_recv hK hPc (ci := 7) (q0 := 0) rfl rfl, fun U hU hW => ⟨rfl, hU, hPc, va_K.moved hW.alike hK, mz_nw hW hN⟩⟩ rfl rfl hl.1 rfl (lv_room (Nat.le_of_ble_eq_true rfl)) dX7_weight_10 ⟨Nat.le_of_ble_eq_true rfl, Nat.le_of_ble_eq_true rfl⟩) hS (fun q _ h => h.elim) (fun q h => h.elim) (fun r_10 u t H1 locs ht hvm hw_10 hB hz1 hk1 hS => ?_)
    have hE : s.heap = H1 := hB.symm.trans ht
    subst hE
    refine lv_if_ne (tgt := 20) hx hb dX7_weight_13 (by decide) (fun c_13 => ?_) (fun c_13 => ?_)
    · skip
      refine lv_aload_n hx hb dX7_weight_20 rfl (lv_at hl 0 rfl) ?_
      refine va_get (D := (dC, dI)) (ci := 7) (v := .ref wt) (C := RX7) (T := TX7) (N := 10) hx hb hts hiX7 hown hK hP 0 rfl rfl 3 (by decide) (hts (.fieldLink RX7 29 "MadeItSo" "weights" "LMadeItSo$Weights;") (by decide +kernel)) (fun _ h9 => h9) rfl dX7_weight_21 ?_
      refine lv_aload_n hx hb dX7_weight_24 rfl (lv_at hl 0 rfl) ?_
      refine va_get (D := (dC, dI)) (ci := 7) (v := .ref dr) (C := RX7) (T := TX7) (N := 10) hx hb hts hiX7 hown hK hP 0 rfl rfl 0 (by decide) (hts (.fieldLink RX7 12 "MadeItSo" "drawing" "LMadeItSo$Drawing;") (by decide +kernel)) (fun _ h9 => h9) rfl dX7_weight_25 ?_
      refine lv_aload_n hx hb dX7_weight_28 rfl (lv_at hl 0 rfl) ?_
      refine va_get (D := (dC, dI)) (ci := 7) (v := .ref bk) (C := RX7) (T := TX7) (N := 10) hx hb hts hiX7 hown hK hP 0 rfl rfl 2 (by decide) (hts (.fieldLink RX7 22 "MadeItSo" "books" "LMadeItSo$Books;") (by decide +kernel)) (fun _ h9 => h9) rfl dX7_weight_29 ?_
      refine lv_iload_n hx hb dX7_weight_32 rfl (lv_at hl 2 rfl) ?_
      have hPc := hP.sub (ws' := [(wt, .inr (6, [.ref wo, .int ev])), (wo, .inl (cJ, 256, .inr (.inl fw))), (dr, .inr (2, [.ref dp, .ref dc, .int (nI n)])), (dp, .inl (cI, 8, .inl fp)), (bk, .inr (1, [.ref bp])), (bp, .inl (cI, 1024, .inl fb))]) [5, 6, 1, 2, 3, 4] rfl
      have hDc := hD.sub (ws' := [(wt, .inr (6, [.ref wo, .int ev])), (wo, .inl (cJ, 256, .inr (.inl fw))), (dr, .inr (2, [.ref dp, .ref dc, .int (nI n)])), (dp, .inl (cI, 8, .inl fp)), (bk, .inr (1, [.ref bp])), (bp, .inl (cI, 1024, .inl fb))]) [5, 6, 1, 2, 3, 4] (by decide) rfl
      have hFc := va_free (wc := [(wt, .inr (6, [.ref wo, .int ev])), (wo, .inl (cJ, 256, .inr (.inl fw))), (dr, .inr (2, [.ref dp, .ref dc, .int (nI n)])), (dp, .inl (cI, 8, .inl fp)), (bk, .inr (1, [.ref bp])), (bp, .inl (cI, 1024, .inl fb))]) hD hS hA [5, 6, 1, 2, 3, 4] rfl
      refine va_callv (va_runV (As := [.ref dr, .ref bk, .int p2]) (rest := []) ⟨hx, hb, hml, hown, hts⟩ (mz_w_weigh l dC dI cI cJ cZ wt wo ev fw dr dp dc n fp bk bp fb p2 s.heap.size (by first | assumption | omega)) (cwV 3 hts gX7_weight_X6_weigh rfl rfl rfl (by decide +kernel) ⟨Nat.le_of_ble_eq_true rfl, Nat.le_of_ble_eq_true rfl⟩) ⟨fun a U g mk q => mz_blI q, va_recv hK hPc (ci := 6) (q0 := 0) rfl rfl, fun U hU hW => ⟨rfl, by rw [hU], by rw [hU]; exact hPc, va_K.moved hW.alike hK, hDc.weaken (fun _ _ _ _ => trivial), mz_nw hW hN⟩⟩ rfl rfl hl.1 rfl (lv_room (Nat.le_of_ble_eq_true rfl)) dX7_weight_33 ⟨Nat.le_of_ble_eq_true rfl, Nat.le_of_ble_eq_true rfl⟩) hS (fun q _ h => hFc q h) hFc (fun u t H1 locs ht hvm hw_33 hB hz1 hk1 hS => ?_)
      obtain ⟨gev_33, gw_33, hP1, hD1⟩ := hB
      rw [ht] at hP1
      obtain ⟨hP, hD⟩ := va_join (wr := [(mx, .inr (7, [.ref dr, .ref th, .ref bk, .ref wt, .ref tt, .ref lh, .ref la, .int sh, .long ab, .long be]))]) (w1 := [(wt, .inr (6, [.ref wo, .int gev_33])), (wo, .inl (cJ, 256, .inr (.inl gw_33))), (dr, .inr (2, [.ref dp, .ref dc, .int (nI n)])), (dp, .inl (cI, 8, .inl fp)), (bk, .inr (1, [.ref bp])), (bp, .inl (cI, 1024, .inl fb))]) hP hD [5, 6, 1, 2, 3, 4] [0] rfl rfl (by decide) (by decide) hk1 hFc hP1 hD1
      generalize H1 = H at hP hS ⊢
      have hP : va_P (dC, dI) vwCl [(mx, .inr (7, [.ref dr, .ref th, .ref bk, .ref wt, .ref tt, .ref lh, .ref la, .int sh, .long ab, .long be])), (wt, .inr (6, [.ref wo, .int gev_33])), (wo, .inl (cJ, 256, .inr (.inl gw_33))), (dr, .inr (2, [.ref dp, .ref dc, .int (nI n)])), (dp, .inl (cI, 8, .inl fp)), (bk, .inr (1, [.ref bp])), (bp, .inl (cI, 1024, .inl fb))] H := hP
      have hD : va_D A [(mx, .inr (7, [.ref dr, .ref th, .ref bk, .ref wt, .ref tt, .ref lh, .ref la, .int sh, .long ab, .long be])), (wt, .inr (6, [.ref wo, .int gev_33])), (wo, .inl (cJ, 256, .inr (.inl gw_33))), (dr, .inr (2, [.ref dp, .ref dc, .int (nI n)])), (dp, .inl (cI, 8, .inl fp)), (bk, .inr (1, [.ref bp])), (bp, .inl (cI, 1024, .inl fb))] := hD
      refine lv_aload_n hx hb dX7_weight_36 rfl (lv_at hl 0 rfl) ?_
      refine va_get (D := (dC, dI)) (ci := 7) (v := .ref wt) (C := RX7) (T := TX7) (N := 10) hx hb hts hiX7 hown hK hP 0 rfl rfl 3 (by decide) (hts (.fieldLink RX7 29 "MadeItSo" "weights" "LMadeItSo$Weights;") (by decide +kernel)) (fun _ h9 => h9) rfl dX7_weight_37 ?_
      refine lv_iload_n hx hb dX7_weight_40 rfl (lv_at hl 1 rfl) ?_
      have hPc := hP.sub (ws' := []) [] rfl
      refine va_calli (va_runS (As := [.int p1]) (rest := [.ref wt]) ⟨hx, hb, hml, hown, hts⟩ (mz_g_heapOf l dC dI cI cJ cZ p1 H ) (va_cwS 1 hts gX7_weight_X7_heapOf rfl rfl rfl (by decide +kernel) ⟨Nat.le_of_ble_eq_true rfl, Nat.le_of_ble_eq_true rfl⟩) ⟨fun a U g mk q => mz_blP q, fun U hU hW => ⟨rfl, hU, hPc, va_K.moved hW.alike hK, mz_nw hW hN⟩⟩ rfl rfl hl.1 rfl (lv_room (Nat.le_of_ble_eq_true rfl)) dX7_weight_41 ⟨Nat.le_of_ble_eq_true rfl, Nat.le_of_ble_eq_true rfl⟩) hS (fun q _ h => h.elim) (fun q h => h.elim) (fun r_41 u t H1 locs ht hvm hw_41 hB hz1 hk1 hS => ?_)
      have hE : H = H1 := hB.symm.trans ht
      subst hE
      refine lv_iload_n hx hb dX7_weight_44 rfl (lv_at hl 1 rfl) ?_
      have hPc := hP.sub (ws' := []) [] rfl
      refine va_calli (va_runS (As := [.int p1]) (rest := [.int r_41, .ref wt]) ⟨hx, hb, hml, hown, hts⟩ (mz_g_onesOf l dC dI cI cJ cZ p1 H ) (va_cwS 1 hts gX7_weight_X7_onesOf rfl rfl rfl (by decide +kernel) ⟨Nat.le_of_ble_eq_true rfl, Nat.le_of_ble_eq_true rfl⟩) ⟨fun a U g mk q => mz_blP q, fun U hU hW => ⟨rfl, hU, hPc, va_K.moved hW.alike hK, mz_nw hW hN⟩⟩ rfl rfl hl.1 rfl (lv_room (Nat.le_of_ble_eq_true rfl)) dX7_weight_45 ⟨Nat.le_of_ble_eq_true rfl, Nat.le_of_ble_eq_true rfl⟩) hS (fun q _ h => h.elim) (fun q h => h.elim) (fun r_45 u t H1 locs ht hvm hw_45 hB hz1 hk1 hS => ?_)
      have hE : H = H1 := hB.symm.trans ht
      subst hE
      have hPc := hP.sub (ws' := [(wt, .inr (6, [.ref wo, .int gev_33])), (wo, .inl (cJ, 256, .inr (.inl gw_33)))]) [1, 2] rfl
      refine va_calll (va_runV (As := [.int r_41, .int r_45]) (rest := []) ⟨hx, hb, hml, hown, hts⟩ (mz_w_having l dC dI cI cJ cZ wt wo gev_33 gw_33 r_41 r_45 H ) (cwV 2 hts gX7_weight_X6_having rfl rfl rfl (by decide +kernel) ⟨Nat.le_of_ble_eq_true rfl, Nat.le_of_ble_eq_true rfl⟩) ⟨fun a U g mk q => mz_blP q, va_recv hK hPc (ci := 6) (q0 := 0) rfl rfl, fun U hU hW => ⟨rfl, hU, hPc, va_K.moved hW.alike hK, mz_nw hW hN⟩⟩ rfl rfl hl.1 rfl (lv_room (Nat.le_of_ble_eq_true rfl)) dX7_weight_48 ⟨Nat.le_of_ble_eq_true rfl, Nat.le_of_ble_eq_true rfl⟩) hS (fun q _ h => h.elim) (fun q h => h.elim) (fun r_48 u t H1 locs ht hvm hw_48 hB hz1 hk1 hS => ?_)
      have hE : H = H1 := hB.symm.trans ht
      subst hE
      have hP9 := hP.sub (ws' := [(mx, .inr (7, [.ref dr, .ref th, .ref bk, .ref wt, .ref tt, .ref lh, .ref la, .int sh, .long ab, .long be])), (dr, .inr (2, [.ref dp, .ref dc, .int (nI n)])), (dp, .inl (cI, 8, .inl fp)), (bk, .inr (1, [.ref bp])), (bp, .inl (cI, 1024, .inl fb)), (wt, .inr (6, [.ref wo, .int gev_33])), (wo, .inl (cJ, 256, .inr (.inl gw_33)))]) [0, 3, 4, 5, 6, 1, 2] rfl
      have hD9 := hD.sub (ws' := [(mx, .inr (7, [.ref dr, .ref th, .ref bk, .ref wt, .ref tt, .ref lh, .ref la, .int sh, .long ab, .long be])), (dr, .inr (2, [.ref dp, .ref dc, .int (nI n)])), (dp, .inl (cI, 8, .inl fp)), (bk, .inr (1, [.ref bp])), (bp, .inl (cI, 1024, .inl fb)), (wt, .inr (6, [.ref wo, .int gev_33])), (wo, .inl (cJ, 256, .inr (.inl gw_33)))]) [0, 3, 4, 5, 6, 1, 2] (by decide) rfl
      refine W.widen (k := 0) (n := 0) (Nat.le_of_ble_eq_true rfl) (Nat.le_of_ble_eq_true rfl) ?_
      exact W.lret (v := r_48) hx hb hr (fun t ht hW => ⟨⟨r_48, (), rfl, trivial, gev_33, gw_33, by rw [ht]; exact hP9, hD9⟩, hS.F ht⟩) hS.2.2 dX7_weight_51
    · skip
      refine lv_ldc2 hx hb hown (hts (.constantLong RX7 121 (-1)) (by decide +kernel)) dX7_weight_16 ?_
      have hP9 := hP.sub (ws' := [(mx, .inr (7, [.ref dr, .ref th, .ref bk, .ref wt, .ref tt, .ref lh, .ref la, .int sh, .long ab, .long be])), (dr, .inr (2, [.ref dp, .ref dc, .int (nI n)])), (dp, .inl (cI, 8, .inl fp)), (bk, .inr (1, [.ref bp])), (bp, .inl (cI, 1024, .inl fb)), (wt, .inr (6, [.ref wo, .int ev])), (wo, .inl (cJ, 256, .inr (.inl fw)))]) [0, 1, 2, 3, 4, 5, 6] rfl
      have hD9 := hD.sub (ws' := [(mx, .inr (7, [.ref dr, .ref th, .ref bk, .ref wt, .ref tt, .ref lh, .ref la, .int sh, .long ab, .long be])), (dr, .inr (2, [.ref dp, .ref dc, .int (nI n)])), (dp, .inl (cI, 8, .inl fp)), (bk, .inr (1, [.ref bp])), (bp, .inl (cI, 1024, .inl fb)), (wt, .inr (6, [.ref wo, .int ev])), (wo, .inl (cJ, 256, .inr (.inl fw)))]) [0, 1, 2, 3, 4, 5, 6] (by decide) rfl
      refine W.widen (k := 0) (n := 0) (Nat.le_of_ble_eq_true rfl) (Nat.le_of_ble_eq_true rfl) ?_
      exact W.lret (v := (-1)) hx hb hr (fun t ht hW => ⟨⟨(-1), (), rfl, trivial, ev, fw, by rw [ht]; exact hP9, hD9⟩, hS.F ht⟩) hS.2.2 dX7_weight_19
set_option maxHeartbeats 1000000 in
set_option maxRecDepth 100000 in
theorem mz_x_chance (l : Launch) (dC : Nat → ClassId) (dI : Nat → Nat → Nat) (cI cJ cZ : ClassId) (mx : Nat) (dr : Nat) (th : Nat) (bk : Nat) (wt : Nat) (tt : Nat) (lh : Nat) (la : Nat) (sh : Int32) (ab : Int64) (be : Int64) (dp : Nat) (dc : Nat) (n : Nat) (fp : Nat → Int32) (bp : Nat) (fb : Nat → Int32) (wo : Nat) (ev : Int32) (fw : Nat → Int64) (p1 : Int32) (p2 : Int32) (p3 : Int32) (sz : Nat) (hn : n ≤ 8) : Met l yX7_chance wsX7_chance ({ frames := 4, cells := 0, slots := 0, locals := 98 }) (va_Pc [.ref mx, .int p1, .int p2, .int p3] (fun U => U.heap.size = sz ∧ va_P (dC, dI) vwCl [(mx, .inr (7, [.ref dr, .ref th, .ref bk, .ref wt, .ref tt, .ref lh, .ref la, .int sh, .long ab, .long be])), (dr, .inr (2, [.ref dp, .ref dc, .int (nI n)])), (dp, .inl (cI, 8, .inl fp)), (bk, .inr (1, [.ref bp])), (bp, .inl (cI, 1024, .inl fb)), (wt, .inr (6, [.ref wo, .int ev])), (wo, .inl (cJ, 256, .inr (.inl fw)))] U.heap ∧ va_K (dC, dI) vwCl [(cI, FieldType.int), (cJ, FieldType.long), (cZ, FieldType.boolean)] U ∧ va_D (fun _ => True) [(mx, .inr (7, [.ref dr, .ref th, .ref bk, .ref wt, .ref tt, .ref lh, .ref la, .int sh, .long ab, .long be])), (dr, .inr (2, [.ref dp, .ref dc, .int (nI n)])), (dp, .inl (cI, 8, .inl fp)), (bk, .inr (1, [.ref bp])), (bp, .inl (cI, 1024, .inl fb)), (wt, .inr (6, [.ref wo, .int ev])), (wo, .inl (cJ, 256, .inr (.inl fw)))] ∧ mz_N U)) (va_Qi (fun (r : Int32) (_ : Unit) => True) (fun _ t => ∃ (gab : Int64), ∃ (gbe : Int64), ∃ (gev : Int32), ∃ (gw : Nat → Int64), va_P (dC, dI) vwCl [(mx, .inr (7, [.ref dr, .ref th, .ref bk, .ref wt, .ref tt, .ref lh, .ref la, .int sh, .long gab, .long gbe])), (dr, .inr (2, [.ref dp, .ref dc, .int (nI n)])), (dp, .inl (cI, 8, .inl fp)), (bk, .inr (1, [.ref bp])), (bp, .inl (cI, 1024, .inl fb)), (wt, .inr (6, [.ref wo, .int gev])), (wo, .inl (cJ, 256, .inr (.inl gw)))] t.heap ∧ va_D (va_A [(mx, .inr (7, [.ref dr, .ref th, .ref bk, .ref wt, .ref tt, .ref lh, .ref la, .int sh, .long ab, .long be])), (dr, .inr (2, [.ref dp, .ref dc, .int (nI n)])), (dp, .inl (cI, 8, .inl fp)), (bk, .inr (1, [.ref bp])), (bp, .inl (cI, 1024, .inl fb)), (wt, .inr (6, [.ref wo, .int ev])), (wo, .inl (cJ, 256, .inr (.inl fw)))] sz) [(mx, .inr (7, [.ref dr, .ref th, .ref bk, .ref wt, .ref tt, .ref lh, .ref la, .int sh, .long gab, .long gbe])), (dr, .inr (2, [.ref dp, .ref dc, .int (nI n)])), (dp, .inl (cI, 8, .inl fp)), (bk, .inr (1, [.ref bp])), (bp, .inl (cI, 1024, .inl fb)), (wt, .inr (6, [.ref wo, .int gev])), (wo, .inl (cJ, 256, .inr (.inl gw)))]) (va_A [(mx, .inr (7, [.ref dr, .ref th, .ref bk, .ref wt, .ref tt, .ref lh, .ref la, .int sh, .long ab, .long be])), (dr, .inr (2, [.ref dp, .ref dc, .int (nI n)])), (dp, .inl (cI, 8, .inl fp)), (bk, .inr (1, [.ref bp])), (bp, .inl (cI, 1024, .inl fb)), (wt, .inr (6, [.ref wo, .int ev])), (wo, .inl (cJ, 256, .inr (.inl fw)))] sz)) 0 0 (va_A [(mx, .inr (7, [.ref dr, .ref th, .ref bk, .ref wt, .ref tt, .ref lh, .ref la, .int sh, .long ab, .long be])), (dr, .inr (2, [.ref dp, .ref dc, .int (nI n)])), (dp, .inl (cI, 8, .inl fp)), (bk, .inr (1, [.ref bp])), (bp, .inl (cI, 1024, .inl fb)), (wt, .inr (6, [.ref wo, .int ev])), (wo, .inl (cJ, 256, .inr (.inl fw)))] sz) := by
  refine Met.ofW (cc := cX7_chance) (maxL := 10) (ret := (some .int)) (by decide) rfl ?_
  intro p e s m args below meth c s₁ B hml hv
  obtain ⟨rfl, hsz, hP, hK, hD0, hN⟩ := hv
  subst hsz
  have hx := B.exec
  have hb := B.bytes
  have hr := B.returns
  have hts := atoms_spec (ws := wsX7_chance) B.pre
  have hown : s.vm.findClass RX7 = some m.cls := findClass_of_methodNamed B.named
  have hlocks := B.notSynchronized
  have hD := hD0.self (sz := s.heap.size)
  generalize hAe : va_A [(mx, .inr (7, [.ref dr, .ref th, .ref bk, .ref wt, .ref tt, .ref lh, .ref la, .int sh, .long ab, .long be])), (dr, .inr (2, [.ref dp, .ref dc, .int (nI n)])), (dp, .inl (cI, 8, .inl fp)), (bk, .inr (1, [.ref bp])), (bp, .inl (cI, 1024, .inl fb)), (wt, .inr (6, [.ref wo, .int ev])), (wo, .inl (cJ, 256, .inr (.inl fw)))] s.heap.size = A at hD ⊢
  have hA : ∀ q : Nat, s.heap.size ≤ q → A q := fun q h => by rw [← hAe]; exact Or.inr h
  have hS : va_S A s.heap s.heap [] := va_S.rf
  have hiX7 : ∀ w ∈ u_ws RX7 TX7 10, w ∈ wsX7_chance := by decide +kernel
  have hl := lv_entry ([.ref mx, .int p1, .int p2, .int p3]) (n := 10) (Nat.le_of_ble_eq_true rfl)
  rw [lg_entry_eq]
  generalize (lg_sl ([.ref mx, .int p1, .int p2, .int p3]) ++ List.replicate (10 - (lg_sl ([.ref mx, .int p1, .int p2, .int p3])).length) Slot.unset).toArray = ls at hl ⊢
  have hl : lv_has ls 10 [(0, .ref mx), (1, .int p1), (2, .int p2), (3, .int p3)] := hl
  refine lv_aload_n hx hb dX7_chance_0 rfl (lv_at hl 0 rfl) ?_
  refine lv_lconst (v := 0) hx hb dX7_chance_1 (by decide +kernel) ?_
  refine va_put (D := (dC, dI)) (ci := 7) (v := .long 0) (ty := .long) (C := RX7) (T := TX7) (N := 10) hx hb hts hiX7 tyX7 tyX7_ok nmX7 hown hK hP hD hS 0 rfl rfl 8 (by decide) (hts (.fieldLink RX7 58 "MadeItSo" "aboveLine" "J") (by decide +kernel)) (fun _ h9 => h9) rfl (by decide +kernel) rfl rfl (Nat.le_of_ble_eq_true rfl) dX7_chance_2 (fun H locs hP hD hS => ?_)
  have hP : va_P (dC, dI) vwCl [(mx, .inr (7, [.ref dr, .ref th, .ref bk, .ref wt, .ref tt, .ref lh, .ref la, .int sh, .long 0, .long be])), (dr, .inr (2, [.ref dp, .ref dc, .int (nI n)])), (dp, .inl (cI, 8, .inl fp)), (bk, .inr (1, [.ref bp])), (bp, .inl (cI, 1024, .inl fb)), (wt, .inr (6, [.ref wo, .int ev])), (wo, .inl (cJ, 256, .inr (.inl fw)))] H := hP
  have hD : va_D A [(mx, .inr (7, [.ref dr, .ref th, .ref bk, .ref wt, .ref tt, .ref lh, .ref la, .int sh, .long 0, .long be])), (dr, .inr (2, [.ref dp, .ref dc, .int (nI n)])), (dp, .inl (cI, 8, .inl fp)), (bk, .inr (1, [.ref bp])), (bp, .inl (cI, 1024, .inl fb)), (wt, .inr (6, [.ref wo, .int ev])), (wo, .inl (cJ, 256, .inr (.inl fw)))] := hD
  refine lv_aload_n hx hb dX7_chance_5 rfl (lv_at hl 0 rfl) ?_
  refine lv_lconst (v := 1) hx hb dX7_chance_6 (by decide +kernel) ?_
  refine va_put (D := (dC, dI)) (ci := 7) (v := .long 1) (ty := .long) (C := RX7) (T := TX7) (N := 10) hx hb hts hiX7 tyX7 tyX7_ok nmX7 hown hK hP hD hS 0 rfl rfl 9 (by decide) (hts (.fieldLink RX7 62 "MadeItSo" "belowLine" "J") (by decide +kernel)) (fun _ h9 => h9) rfl (by decide +kernel) rfl rfl (Nat.le_of_ble_eq_true rfl) dX7_chance_7 (fun H locs hP hD hS => ?_)
  have hP : va_P (dC, dI) vwCl [(mx, .inr (7, [.ref dr, .ref th, .ref bk, .ref wt, .ref tt, .ref lh, .ref la, .int sh, .long 0, .long 1])), (dr, .inr (2, [.ref dp, .ref dc, .int (nI n)])), (dp, .inl (cI, 8, .inl fp)), (bk, .inr (1, [.ref bp])), (bp, .inl (cI, 1024, .inl fb)), (wt, .inr (6, [.ref wo, .int ev])), (wo, .inl (cJ, 256, .inr (.inl fw)))] H := hP
  have hD : va_D A [(mx, .inr (7, [.ref dr, .ref th, .ref bk, .ref wt, .ref tt, .ref lh, .ref la, .int sh, .long 0, .long 1])), (dr, .inr (2, [.ref dp, .ref dc, .int (nI n)])), (dp, .inl (cI, 8, .inl fp)), (bk, .inr (1, [.ref bp])), (bp, .inl (cI, 1024, .inl fb)), (wt, .inr (6, [.ref wo, .int ev])), (wo, .inl (cJ, 256, .inr (.inl fw)))] := hD
  refine lv_aload_n hx hb dX7_chance_10 rfl (lv_at hl 0 rfl) ?_
  refine lv_iload_n hx hb dX7_chance_11 rfl (lv_at hl 1 rfl) ?_
  have hPc := hP.sub (ws' := [(mx, .inr (7, [.ref dr, .ref th, .ref bk, .ref wt, .ref tt, .ref lh, .ref la, .int sh, .long 0, .long 1])), (dr, .inr (2, [.ref dp, .ref dc, .int (nI n)]))]) [0, 1] rfl
  refine va_calli (va_runV (As := [.int p1]) (rest := []) ⟨hx, hb, hml, hown, hts⟩ (mz_x_isSetting l dC dI cI cJ cZ mx dr th bk wt tt lh la sh 0 1 dp dc n p1 H (by first | assumption | omega)) (cwV 1 hts gX7_chance_X7_isSetting rfl rfl rfl (by decide +kernel) ⟨Nat.le_of_ble_eq_true rfl, Nat.le_of_ble_eq_true rfl⟩) ⟨fun a U g mk q => mz_blP q, va_recv hK hPc (ci := 7) (q0 := 0) rfl rfl, fun U hU hW => ⟨rfl, hU, hPc, va_K.moved hW.alike hK, mz_nw hW hN⟩⟩ rfl rfl hl.1 rfl (lv_room (Nat.le_of_ble_eq_true rfl)) dX7_chance_12 ⟨Nat.le_of_ble_eq_true rfl, Nat.le_of_ble_eq_true rfl⟩) hS (fun q _ h => h.elim) (fun q h => h.elim) (fun r_12 u t H1 locs ht hvm hw_12 hB hz1 hk1 hS => ?_)
  have hE : H = H1 := hB.symm.trans ht
  subst hE
  refine lv_if_eq (tgt := 34) hx hb dX7_chance_15 (by decide) (fun c_15 => ?_) (fun c_15 => ?_)
  · skip
    refine lv_iconst (v := (-1)) hx hb dX7_chance_34 (by decide +kernel) ?_
    have hP9 := hP.sub (ws' := [(mx, .inr (7, [.ref dr, .ref th, .ref bk, .ref wt, .ref tt, .ref lh, .ref la, .int sh, .long 0, .long 1])), (dr, .inr (2, [.ref dp, .ref dc, .int (nI n)])), (dp, .inl (cI, 8, .inl fp)), (bk, .inr (1, [.ref bp])), (bp, .inl (cI, 1024, .inl fb)), (wt, .inr (6, [.ref wo, .int ev])), (wo, .inl (cJ, 256, .inr (.inl fw)))]) [0, 1, 2, 3, 4, 5, 6] rfl
    have hD9 := hD.sub (ws' := [(mx, .inr (7, [.ref dr, .ref th, .ref bk, .ref wt, .ref tt, .ref lh, .ref la, .int sh, .long 0, .long 1])), (dr, .inr (2, [.ref dp, .ref dc, .int (nI n)])), (dp, .inl (cI, 8, .inl fp)), (bk, .inr (1, [.ref bp])), (bp, .inl (cI, 1024, .inl fb)), (wt, .inr (6, [.ref wo, .int ev])), (wo, .inl (cJ, 256, .inr (.inl fw)))]) [0, 1, 2, 3, 4, 5, 6] (by decide) rfl
    refine W.widen (k := 0) (n := 0) (Nat.le_of_ble_eq_true rfl) (Nat.le_of_ble_eq_true rfl) ?_
    exact W.iret (v := (-1)) hx hb hr (fun t ht hW => ⟨⟨(-1), (), rfl, trivial, 0, 1, ev, fw, by rw [ht]; exact hP9, hD9⟩, hS.F ht⟩) hS.2.2 dX7_chance_35
  · skip
    refine lv_aload_n hx hb dX7_chance_18 rfl (lv_at hl 0 rfl) ?_
    refine lv_iload_n hx hb dX7_chance_19 rfl (lv_at hl 2 rfl) ?_
    have hPc := hP.sub (ws' := [(mx, .inr (7, [.ref dr, .ref th, .ref bk, .ref wt, .ref tt, .ref lh, .ref la, .int sh, .long 0, .long 1])), (dr, .inr (2, [.ref dp, .ref dc, .int (nI n)]))]) [0, 1] rfl
    refine va_calli (va_runV (As := [.int p2]) (rest := []) ⟨hx, hb, hml, hown, hts⟩ (mz_x_isSetting l dC dI cI cJ cZ mx dr th bk wt tt lh la sh 0 1 dp dc n p2 H (by first | assumption | omega)) (cwV 1 hts gX7_chance_X7_isSetting rfl rfl rfl (by decide +kernel) ⟨Nat.le_of_ble_eq_true rfl, Nat.le_of_ble_eq_true rfl⟩) ⟨fun a U g mk q => mz_blP q, va_recv hK hPc (ci := 7) (q0 := 0) rfl rfl, fun U hU hW => ⟨rfl, hU, hPc, va_K.moved hW.alike hK, mz_nw hW hN⟩⟩ rfl rfl hl.1 rfl (lv_room (Nat.le_of_ble_eq_true rfl)) dX7_chance_20 ⟨Nat.le_of_ble_eq_true rfl, Nat.le_of_ble_eq_true rfl⟩) hS (fun q _ h => h.elim) (fun q h => h.elim) (fun r_20 u t H1 locs ht hvm hw_20 hB hz1 hk1 hS => ?_)
    have hE : H = H1 := hB.symm.trans ht
    subst hE
    refine lv_if_eq (tgt := 34) hx hb dX7_chance_23 (by decide) (fun c_23 => ?_) (fun c_23 => ?_)
    · skip
      refine lv_iconst (v := (-1)) hx hb dX7_chance_34 (by decide +kernel) ?_
      have hP9 := hP.sub (ws' := [(mx, .inr (7, [.ref dr, .ref th, .ref bk, .ref wt, .ref tt, .ref lh, .ref la, .int sh, .long 0, .long 1])), (dr, .inr (2, [.ref dp, .ref dc, .int (nI n)])), (dp, .inl (cI, 8, .inl fp)), (bk, .inr (1, [.ref bp])), (bp, .inl (cI, 1024, .inl fb)), (wt, .inr (6, [.ref wo, .int ev])), (wo, .inl (cJ, 256, .inr (.inl fw)))]) [0, 1, 2, 3, 4, 5, 6] rfl
      have hD9 := hD.sub (ws' := [(mx, .inr (7, [.ref dr, .ref th, .ref bk, .ref wt, .ref tt, .ref lh, .ref la, .int sh, .long 0, .long 1])), (dr, .inr (2, [.ref dp, .ref dc, .int (nI n)])), (dp, .inl (cI, 8, .inl fp)), (bk, .inr (1, [.ref bp])), (bp, .inl (cI, 1024, .inl fb)), (wt, .inr (6, [.ref wo, .int ev])), (wo, .inl (cJ, 256, .inr (.inl fw)))]) [0, 1, 2, 3, 4, 5, 6] (by decide) rfl
      refine W.widen (k := 0) (n := 0) (Nat.le_of_ble_eq_true rfl) (Nat.le_of_ble_eq_true rfl) ?_
      exact W.iret (v := (-1)) hx hb hr (fun t ht hW => ⟨⟨(-1), (), rfl, trivial, 0, 1, ev, fw, by rw [ht]; exact hP9, hD9⟩, hS.F ht⟩) hS.2.2 dX7_chance_35
    · skip
      refine lv_aload_n hx hb dX7_chance_26 rfl (lv_at hl 0 rfl) ?_
      refine lv_iload_n hx hb dX7_chance_27 rfl (lv_at hl 3 rfl) ?_
      have hPc := hP.sub (ws' := [(mx, .inr (7, [.ref dr, .ref th, .ref bk, .ref wt, .ref tt, .ref lh, .ref la, .int sh, .long 0, .long 1])), (dr, .inr (2, [.ref dp, .ref dc, .int (nI n)]))]) [0, 1] rfl
      refine va_calli (va_runV (As := [.int p3]) (rest := []) ⟨hx, hb, hml, hown, hts⟩ (mz_x_isSetting l dC dI cI cJ cZ mx dr th bk wt tt lh la sh 0 1 dp dc n p3 H (by first | assumption | omega)) (cwV 1 hts gX7_chance_X7_isSetting rfl rfl rfl (by decide +kernel) ⟨Nat.le_of_ble_eq_true rfl, Nat.le_of_ble_eq_true rfl⟩) ⟨fun a U g mk q => mz_blP q, va_recv hK hPc (ci := 7) (q0 := 0) rfl rfl, fun U hU hW => ⟨rfl, hU, hPc, va_K.moved hW.alike hK, mz_nw hW hN⟩⟩ rfl rfl hl.1 rfl (lv_room (Nat.le_of_ble_eq_true rfl)) dX7_chance_28 ⟨Nat.le_of_ble_eq_true rfl, Nat.le_of_ble_eq_true rfl⟩) hS (fun q _ h => h.elim) (fun q h => h.elim) (fun r_28 u t H1 locs ht hvm hw_28 hB hz1 hk1 hS => ?_)
      have hE : H = H1 := hB.symm.trans ht
      subst hE
      refine lv_if_ne (tgt := 36) hx hb dX7_chance_31 (by decide) (fun c_31 => ?_) (fun c_31 => ?_)
      · skip
        refine lv_aload_n hx hb dX7_chance_36 rfl (lv_at hl 0 rfl) ?_
        refine va_get (D := (dC, dI)) (ci := 7) (v := .ref wt) (C := RX7) (T := TX7) (N := 10) hx hb hts hiX7 hown hK hP 0 rfl rfl 3 (by decide) (hts (.fieldLink RX7 29 "MadeItSo" "weights" "LMadeItSo$Weights;") (by decide +kernel)) (fun _ h9 => h9) rfl dX7_chance_37 ?_
        refine lv_aload_n hx hb dX7_chance_40 rfl (lv_at hl 0 rfl) ?_
        refine va_get (D := (dC, dI)) (ci := 7) (v := .ref dr) (C := RX7) (T := TX7) (N := 10) hx hb hts hiX7 hown hK hP 0 rfl rfl 0 (by decide) (hts (.fieldLink RX7 12 "MadeItSo" "drawing" "LMadeItSo$Drawing;") (by decide +kernel)) (fun _ h9 => h9) rfl dX7_chance_41 ?_
        refine lv_aload_n hx hb dX7_chance_44 rfl (lv_at hl 0 rfl) ?_
        refine va_get (D := (dC, dI)) (ci := 7) (v := .ref bk) (C := RX7) (T := TX7) (N := 10) hx hb hts hiX7 hown hK hP 0 rfl rfl 2 (by decide) (hts (.fieldLink RX7 22 "MadeItSo" "books" "LMadeItSo$Books;") (by decide +kernel)) (fun _ h9 => h9) rfl dX7_chance_45 ?_
        refine lv_iload_n hx hb dX7_chance_48 rfl (lv_at hl 3 rfl) ?_
        have hPc := hP.sub (ws' := [(wt, .inr (6, [.ref wo, .int ev])), (wo, .inl (cJ, 256, .inr (.inl fw))), (dr, .inr (2, [.ref dp, .ref dc, .int (nI n)])), (dp, .inl (cI, 8, .inl fp)), (bk, .inr (1, [.ref bp])), (bp, .inl (cI, 1024, .inl fb))]) [5, 6, 1, 2, 3, 4] rfl
        have hDc := hD.sub (ws' := [(wt, .inr (6, [.ref wo, .int ev])), (wo, .inl (cJ, 256, .inr (.inl fw))), (dr, .inr (2, [.ref dp, .ref dc, .int (nI n)])), (dp, .inl (cI, 8, .inl fp)), (bk, .inr (1, [.ref bp])), (bp, .inl (cI, 1024, .inl fb))]) [5, 6, 1, 2, 3, 4] (by decide) rfl
        have hFc := va_free (wc := [(wt, .inr (6, [.ref wo, .int ev])), (wo, .inl (cJ, 256, .inr (.inl fw))), (dr, .inr (2, [.ref dp, .ref dc, .int (nI n)])), (dp, .inl (cI, 8, .inl fp)), (bk, .inr (1, [.ref bp])), (bp, .inl (cI, 1024, .inl fb))]) hD hS hA [5, 6, 1, 2, 3, 4] rfl
        refine va_callv (va_runV (As := [.ref dr, .ref bk, .int p3]) (rest := []) ⟨hx, hb, hml, hown, hts⟩ (mz_w_weigh l dC dI cI cJ cZ wt wo ev fw dr dp dc n fp bk bp fb p3 H.size (by first | assumption | omega)) (cwV 3 hts gX7_chance_X6_weigh rfl rfl rfl (by decide +kernel) ⟨Nat.le_of_ble_eq_true rfl, Nat.le_of_ble_eq_true rfl⟩) ⟨fun a U g mk q => mz_blI q, va_recv hK hPc (ci := 6) (q0 := 0) rfl rfl, fun U hU hW => ⟨rfl, by rw [hU], by rw [hU]; exact hPc, va_K.moved hW.alike hK, hDc.weaken (fun _ _ _ _ => trivial), mz_nw hW hN⟩⟩ rfl rfl hl.1 rfl (lv_room (Nat.le_of_ble_eq_true rfl)) dX7_chance_49 ⟨Nat.le_of_ble_eq_true rfl, Nat.le_of_ble_eq_true rfl⟩) hS (fun q _ h => hFc q h) hFc (fun u t H1 locs ht hvm hw_49 hB hz1 hk1 hS => ?_)
        obtain ⟨gev_49, gw_49, hP1, hD1⟩ := hB
        rw [ht] at hP1
        obtain ⟨hP, hD⟩ := va_join (wr := [(mx, .inr (7, [.ref dr, .ref th, .ref bk, .ref wt, .ref tt, .ref lh, .ref la, .int sh, .long 0, .long 1]))]) (w1 := [(wt, .inr (6, [.ref wo, .int gev_49])), (wo, .inl (cJ, 256, .inr (.inl gw_49))), (dr, .inr (2, [.ref dp, .ref dc, .int (nI n)])), (dp, .inl (cI, 8, .inl fp)), (bk, .inr (1, [.ref bp])), (bp, .inl (cI, 1024, .inl fb))]) hP hD [5, 6, 1, 2, 3, 4] [0] rfl rfl (by decide) (by decide) hk1 hFc hP1 hD1
        generalize H1 = H at hP hS ⊢
        have hP : va_P (dC, dI) vwCl [(mx, .inr (7, [.ref dr, .ref th, .ref bk, .ref wt, .ref tt, .ref lh, .ref la, .int sh, .long 0, .long 1])), (wt, .inr (6, [.ref wo, .int gev_49])), (wo, .inl (cJ, 256, .inr (.inl gw_49))), (dr, .inr (2, [.ref dp, .ref dc, .int (nI n)])), (dp, .inl (cI, 8, .inl fp)), (bk, .inr (1, [.ref bp])), (bp, .inl (cI, 1024, .inl fb))] H := hP
        have hD : va_D A [(mx, .inr (7, [.ref dr, .ref th, .ref bk, .ref wt, .ref tt, .ref lh, .ref la, .int sh, .long 0, .long 1])), (wt, .inr (6, [.ref wo, .int gev_49])), (wo, .inl (cJ, 256, .inr (.inl gw_49))), (dr, .inr (2, [.ref dp, .ref dc, .int (nI n)])), (dp, .inl (cI, 8, .inl fp)), (bk, .inr (1, [.ref bp])), (bp, .inl (cI, 1024, .inl fb))] := hD
        refine lv_aload_n hx hb dX7_chance_52 rfl (lv_at hl 0 rfl) ?_
        refine va_get (D := (dC, dI)) (ci := 7) (v := .ref wt) (C := RX7) (T := TX7) (N := 10) hx hb hts hiX7 hown hK hP 0 rfl rfl 3 (by decide) (hts (.fieldLink RX7 29 "MadeItSo" "weights" "LMadeItSo$Weights;") (by decide +kernel)) (fun _ h9 => h9) rfl dX7_chance_53 ?_
        refine lv_iload_n hx hb dX7_chance_56 rfl (lv_at hl 2 rfl) ?_
        have hPc := hP.sub (ws' := []) [] rfl
        refine va_calli (va_runS (As := [.int p2]) (rest := [.ref wt]) ⟨hx, hb, hml, hown, hts⟩ (mz_g_heapOf l dC dI cI cJ cZ p2 H ) (va_cwS 1 hts gX7_chance_X7_heapOf rfl rfl rfl (by decide +kernel) ⟨Nat.le_of_ble_eq_true rfl, Nat.le_of_ble_eq_true rfl⟩) ⟨fun a U g mk q => mz_blP q, fun U hU hW => ⟨rfl, hU, hPc, va_K.moved hW.alike hK, mz_nw hW hN⟩⟩ rfl rfl hl.1 rfl (lv_room (Nat.le_of_ble_eq_true rfl)) dX7_chance_57 ⟨Nat.le_of_ble_eq_true rfl, Nat.le_of_ble_eq_true rfl⟩) hS (fun q _ h => h.elim) (fun q h => h.elim) (fun r_57 u t H1 locs ht hvm hw_57 hB hz1 hk1 hS => ?_)
        have hE : H = H1 := hB.symm.trans ht
        subst hE
        refine lv_iload_n hx hb dX7_chance_60 rfl (lv_at hl 2 rfl) ?_
        have hPc := hP.sub (ws' := []) [] rfl
        refine va_calli (va_runS (As := [.int p2]) (rest := [.int r_57, .ref wt]) ⟨hx, hb, hml, hown, hts⟩ (mz_g_onesOf l dC dI cI cJ cZ p2 H ) (va_cwS 1 hts gX7_chance_X7_onesOf rfl rfl rfl (by decide +kernel) ⟨Nat.le_of_ble_eq_true rfl, Nat.le_of_ble_eq_true rfl⟩) ⟨fun a U g mk q => mz_blP q, fun U hU hW => ⟨rfl, hU, hPc, va_K.moved hW.alike hK, mz_nw hW hN⟩⟩ rfl rfl hl.1 rfl (lv_room (Nat.le_of_ble_eq_true rfl)) dX7_chance_61 ⟨Nat.le_of_ble_eq_true rfl, Nat.le_of_ble_eq_true rfl⟩) hS (fun q _ h => h.elim) (fun q h => h.elim) (fun r_61 u t H1 locs ht hvm hw_61 hB hz1 hk1 hS => ?_)
        have hE : H = H1 := hB.symm.trans ht
        subst hE
        have hPc := hP.sub (ws' := [(wt, .inr (6, [.ref wo, .int gev_49])), (wo, .inl (cJ, 256, .inr (.inl gw_49)))]) [1, 2] rfl
        refine va_calll (va_runV (As := [.int r_57, .int r_61]) (rest := []) ⟨hx, hb, hml, hown, hts⟩ (mz_w_having l dC dI cI cJ cZ wt wo gev_49 gw_49 r_57 r_61 H ) (cwV 2 hts gX7_chance_X6_having rfl rfl rfl (by decide +kernel) ⟨Nat.le_of_ble_eq_true rfl, Nat.le_of_ble_eq_true rfl⟩) ⟨fun a U g mk q => mz_blP q, va_recv hK hPc (ci := 6) (q0 := 0) rfl rfl, fun U hU hW => ⟨rfl, hU, hPc, va_K.moved hW.alike hK, mz_nw hW hN⟩⟩ rfl rfl hl.1 rfl (lv_room (Nat.le_of_ble_eq_true rfl)) dX7_chance_64 ⟨Nat.le_of_ble_eq_true rfl, Nat.le_of_ble_eq_true rfl⟩) hS (fun q _ h => h.elim) (fun q h => h.elim) (fun r_64 u t H1 locs ht hvm hw_64 hB hz1 hk1 hS => ?_)
        have hE : H = H1 := hB.symm.trans ht
        subst hE
        refine lv_lstore (lv' := [(4, .long r_64), (0, .ref mx), (1, .int p1), (2, .int p2), (3, .int p3)]) hx hb dX7_chance_67 hl (by decide) rfl (fun ls hl => ?_)
        refine lv_lload hx hb dX7_chance_69 (lv_at hl 0 rfl) ?_
        refine lv_lconst (v := 0) hx hb dX7_chance_71 (by decide +kernel) ?_
        refine W.lcmp hx hb dX7_chance_72 ?_
        refine lv_if_gt (tgt := 78) hx hb dX7_chance_73 (by decide) (fun c_73 => ?_) (fun c_73 => ?_)
        · skip
          refine lv_lconst (v := 0) hx hb dX7_chance_78 (by decide +kernel) ?_
          refine lv_lstore (lv' := [(6, .long 0), (4, .long r_64), (0, .ref mx), (1, .int p1), (2, .int p2), (3, .int p3)]) hx hb dX7_chance_79 hl (by decide) rfl (fun ls hl => ?_)
          refine lv_iload_n hx hb dX7_chance_81 rfl (lv_at hl 3 rfl) ?_
          refine lv_iload_n hx hb dX7_chance_82 rfl (lv_at hl 4 rfl) ?_
          have hPc := hP.sub (ws' := []) [] rfl
          refine va_calli (va_runS (As := [.int p1, .int p2]) (rest := []) ⟨hx, hb, hml, hown, hts⟩ (mz_g_clash l dC dI cI cJ cZ p1 p2 H ) (va_cwS 2 hts gX7_chance_X7_clash rfl rfl rfl (by decide +kernel) ⟨Nat.le_of_ble_eq_true rfl, Nat.le_of_ble_eq_true rfl⟩) ⟨fun a U g mk q => mz_blP q, fun U hU hW => ⟨rfl, hU, hPc, va_K.moved hW.alike hK, mz_nw hW hN⟩⟩ rfl rfl hl.1 rfl (lv_room (Nat.le_of_ble_eq_true rfl)) dX7_chance_83 ⟨Nat.le_of_ble_eq_true rfl, Nat.le_of_ble_eq_true rfl⟩) hS (fun q _ h => h.elim) (fun q h => h.elim) (fun r_83 u t H1 locs ht hvm hw_83 hB hz1 hk1 hS => ?_)
          have hE : H = H1 := hB.symm.trans ht
          subst hE
          refine lv_if_ne (tgt := 110) hx hb dX7_chance_86 (by decide) (fun c_86 => ?_) (fun c_86 => ?_)
          · skip
            refine lv_lload hx hb dX7_chance_110 (lv_at hl 1 rfl) ?_
            refine lv_lload hx hb dX7_chance_112 (lv_at hl 0 rfl) ?_
            have hPc := hP.sub (ws' := []) [] rfl
            refine va_calll (va_runS (As := [.long r_64, .long 0]) (rest := []) ⟨hx, hb, hml, hown, hts⟩ (mz_g_commonDivisor l dC dI cI cJ cZ r_64 0 H ) (va_cwS 2 hts gX7_chance_X7_commonDivisor rfl rfl rfl (by decide +kernel) ⟨Nat.le_of_ble_eq_true rfl, Nat.le_of_ble_eq_true rfl⟩) ⟨fun a U g mk q => mz_blP q, fun U hU hW => ⟨rfl, hU, hPc, va_K.moved hW.alike hK, mz_nw hW hN⟩⟩ rfl rfl hl.1 rfl (lv_room (Nat.le_of_ble_eq_true rfl)) dX7_chance_114 ⟨Nat.le_of_ble_eq_true rfl, Nat.le_of_ble_eq_true rfl⟩) hS (fun q _ h => h.elim) (fun q h => h.elim) (fun r_114 u t H1 locs ht hvm hw_114 hB hz1 hk1 hS => ?_)
            have hE : H = H1 := hB.symm.trans ht
            subst hE
            refine lv_lstore (lv' := [(8, .long r_114), (6, .long 0), (4, .long r_64), (0, .ref mx), (1, .int p1), (2, .int p2), (3, .int p3)]) hx hb dX7_chance_117 hl (by decide) rfl (fun ls hl => ?_)
            refine lv_aload_n hx hb dX7_chance_119 rfl (lv_at hl 3 rfl) ?_
            refine lv_lload hx hb dX7_chance_120 (lv_at hl 1 rfl) ?_
            refine lv_lload hx hb dX7_chance_122 (lv_at hl 0 rfl) ?_
            refine lv_ldiv hx hb dX7_chance_124 (by first | assumption | omega) ?_
            refine lv_topl (fun v_124 ev_124 => ?_)
            refine va_put (D := (dC, dI)) (ci := 7) (v := .long v_124) (ty := .long) (C := RX7) (T := TX7) (N := 10) hx hb hts hiX7 tyX7 tyX7_ok nmX7 hown hK hP hD hS 0 rfl rfl 8 (by decide) (hts (.fieldLink RX7 58 "MadeItSo" "aboveLine" "J") (by decide +kernel)) (fun _ h9 => h9) rfl (by decide +kernel) rfl rfl (Nat.le_of_ble_eq_true rfl) dX7_chance_125 (fun H locs hP hD hS => ?_)
            have hP : va_P (dC, dI) vwCl [(mx, .inr (7, [.ref dr, .ref th, .ref bk, .ref wt, .ref tt, .ref lh, .ref la, .int sh, .long v_124, .long 1])), (wt, .inr (6, [.ref wo, .int gev_49])), (wo, .inl (cJ, 256, .inr (.inl gw_49))), (dr, .inr (2, [.ref dp, .ref dc, .int (nI n)])), (dp, .inl (cI, 8, .inl fp)), (bk, .inr (1, [.ref bp])), (bp, .inl (cI, 1024, .inl fb))] H := hP
            have hD : va_D A [(mx, .inr (7, [.ref dr, .ref th, .ref bk, .ref wt, .ref tt, .ref lh, .ref la, .int sh, .long v_124, .long 1])), (wt, .inr (6, [.ref wo, .int gev_49])), (wo, .inl (cJ, 256, .inr (.inl gw_49))), (dr, .inr (2, [.ref dp, .ref dc, .int (nI n)])), (dp, .inl (cI, 8, .inl fp)), (bk, .inr (1, [.ref bp])), (bp, .inl (cI, 1024, .inl fb))] := hD
            refine lv_aload_n hx hb dX7_chance_128 rfl (lv_at hl 3 rfl) ?_
            refine lv_lload hx hb dX7_chance_129 (lv_at hl 2 rfl) ?_
            refine lv_lload hx hb dX7_chance_131 (lv_at hl 0 rfl) ?_
            refine lv_ldiv hx hb dX7_chance_133 (by first | assumption | omega) ?_
            refine lv_topl (fun v_133 ev_133 => ?_)
            refine va_put (D := (dC, dI)) (ci := 7) (v := .long v_133) (ty := .long) (C := RX7) (T := TX7) (N := 10) hx hb hts hiX7 tyX7 tyX7_ok nmX7 hown hK hP hD hS 0 rfl rfl 9 (by decide) (hts (.fieldLink RX7 62 "MadeItSo" "belowLine" "J") (by decide +kernel)) (fun _ h9 => h9) rfl (by decide +kernel) rfl rfl (Nat.le_of_ble_eq_true rfl) dX7_chance_134 (fun H locs hP hD hS => ?_)
            have hP : va_P (dC, dI) vwCl [(mx, .inr (7, [.ref dr, .ref th, .ref bk, .ref wt, .ref tt, .ref lh, .ref la, .int sh, .long v_124, .long v_133])), (wt, .inr (6, [.ref wo, .int gev_49])), (wo, .inl (cJ, 256, .inr (.inl gw_49))), (dr, .inr (2, [.ref dp, .ref dc, .int (nI n)])), (dp, .inl (cI, 8, .inl fp)), (bk, .inr (1, [.ref bp])), (bp, .inl (cI, 1024, .inl fb))] H := hP
            have hD : va_D A [(mx, .inr (7, [.ref dr, .ref th, .ref bk, .ref wt, .ref tt, .ref lh, .ref la, .int sh, .long v_124, .long v_133])), (wt, .inr (6, [.ref wo, .int gev_49])), (wo, .inl (cJ, 256, .inr (.inl gw_49))), (dr, .inr (2, [.ref dp, .ref dc, .int (nI n)])), (dp, .inl (cI, 8, .inl fp)), (bk, .inr (1, [.ref bp])), (bp, .inl (cI, 1024, .inl fb))] := hD
            refine lv_iconst (v := 1) hx hb dX7_chance_137 (by decide +kernel) ?_
            have hP9 := hP.sub (ws' := [(mx, .inr (7, [.ref dr, .ref th, .ref bk, .ref wt, .ref tt, .ref lh, .ref la, .int sh, .long v_124, .long v_133])), (dr, .inr (2, [.ref dp, .ref dc, .int (nI n)])), (dp, .inl (cI, 8, .inl fp)), (bk, .inr (1, [.ref bp])), (bp, .inl (cI, 1024, .inl fb)), (wt, .inr (6, [.ref wo, .int gev_49])), (wo, .inl (cJ, 256, .inr (.inl gw_49)))]) [0, 3, 4, 5, 6, 1, 2] rfl
            have hD9 := hD.sub (ws' := [(mx, .inr (7, [.ref dr, .ref th, .ref bk, .ref wt, .ref tt, .ref lh, .ref la, .int sh, .long v_124, .long v_133])), (dr, .inr (2, [.ref dp, .ref dc, .int (nI n)])), (dp, .inl (cI, 8, .inl fp)), (bk, .inr (1, [.ref bp])), (bp, .inl (cI, 1024, .inl fb)), (wt, .inr (6, [.ref wo, .int gev_49])), (wo, .inl (cJ, 256, .inr (.inl gw_49)))]) [0, 3, 4, 5, 6, 1, 2] (by decide) rfl
            refine W.widen (k := 0) (n := 0) (Nat.le_of_ble_eq_true rfl) (Nat.le_of_ble_eq_true rfl) ?_
            exact W.iret (v := 1) hx hb hr (fun t ht hW => ⟨⟨1, (), rfl, trivial, v_124, v_133, gev_49, gw_49, by rw [ht]; exact hP9, hD9⟩, hS.F ht⟩) hS.2.2 dX7_chance_138
          · skip
            refine lv_aload_n hx hb dX7_chance_89 rfl (lv_at hl 2 rfl) ?_
            refine va_get (D := (dC, dI)) (ci := 7) (v := .ref wt) (C := RX7) (T := TX7) (N := 10) hx hb hts hiX7 hown hK hP 0 rfl rfl 3 (by decide) (hts (.fieldLink RX7 29 "MadeItSo" "weights" "LMadeItSo$Weights;") (by decide +kernel)) (fun _ h9 => h9) rfl dX7_chance_90 ?_
            refine lv_iload_n hx hb dX7_chance_93 rfl (lv_at hl 3 rfl) ?_
            refine lv_iload_n hx hb dX7_chance_94 rfl (lv_at hl 4 rfl) ?_
            refine lv_ior hx hb dX7_chance_95 ?_
            refine lv_topi (fun v_95 ev_95 => ?_)
            have hPc := hP.sub (ws' := []) [] rfl
            refine va_calli (va_runS (As := [.int v_95]) (rest := [.ref wt]) ⟨hx, hb, hml, hown, hts⟩ (mz_g_heapOf l dC dI cI cJ cZ v_95 H ) (va_cwS 1 hts gX7_chance_X7_heapOf rfl rfl rfl (by decide +kernel) ⟨Nat.le_of_ble_eq_true rfl, Nat.le_of_ble_eq_true rfl⟩) ⟨fun a U g mk q => mz_blP q, fun U hU hW => ⟨rfl, hU, hPc, va_K.moved hW.alike hK, mz_nw hW hN⟩⟩ rfl rfl hl.1 rfl (lv_room (Nat.le_of_ble_eq_true rfl)) dX7_chance_96 ⟨Nat.le_of_ble_eq_true rfl, Nat.le_of_ble_eq_true rfl⟩) hS (fun q _ h => h.elim) (fun q h => h.elim) (fun r_96 u t H1 locs ht hvm hw_96 hB hz1 hk1 hS => ?_)
            have hE : H = H1 := hB.symm.trans ht
            subst hE
            refine lv_iload_n hx hb dX7_chance_99 rfl (lv_at hl 3 rfl) ?_
            refine lv_iload_n hx hb dX7_chance_100 rfl (lv_at hl 4 rfl) ?_
            refine lv_ior hx hb dX7_chance_101 ?_
            refine lv_topi (fun v_101 ev_101 => ?_)
            have hPc := hP.sub (ws' := []) [] rfl
            refine va_calli (va_runS (As := [.int v_101]) (rest := [.int r_96, .ref wt]) ⟨hx, hb, hml, hown, hts⟩ (mz_g_onesOf l dC dI cI cJ cZ v_101 H ) (va_cwS 1 hts gX7_chance_X7_onesOf rfl rfl rfl (by decide +kernel) ⟨Nat.le_of_ble_eq_true rfl, Nat.le_of_ble_eq_true rfl⟩) ⟨fun a U g mk q => mz_blP q, fun U hU hW => ⟨rfl, hU, hPc, va_K.moved hW.alike hK, mz_nw hW hN⟩⟩ rfl rfl hl.1 rfl (lv_room (Nat.le_of_ble_eq_true rfl)) dX7_chance_102 ⟨Nat.le_of_ble_eq_true rfl, Nat.le_of_ble_eq_true rfl⟩) hS (fun q _ h => h.elim) (fun q h => h.elim) (fun r_102 u t H1 locs ht hvm hw_102 hB hz1 hk1 hS => ?_)
            have hE : H = H1 := hB.symm.trans ht
            subst hE
            have hPc := hP.sub (ws' := [(wt, .inr (6, [.ref wo, .int gev_49])), (wo, .inl (cJ, 256, .inr (.inl gw_49)))]) [1, 2] rfl
            refine va_calll (va_runV (As := [.int r_96, .int r_102]) (rest := []) ⟨hx, hb, hml, hown, hts⟩ (mz_w_having l dC dI cI cJ cZ wt wo gev_49 gw_49 r_96 r_102 H ) (cwV 2 hts gX7_chance_X6_having rfl rfl rfl (by decide +kernel) ⟨Nat.le_of_ble_eq_true rfl, Nat.le_of_ble_eq_true rfl⟩) ⟨fun a U g mk q => mz_blP q, va_recv hK hPc (ci := 6) (q0 := 0) rfl rfl, fun U hU hW => ⟨rfl, hU, hPc, va_K.moved hW.alike hK, mz_nw hW hN⟩⟩ rfl rfl hl.1 rfl (lv_room (Nat.le_of_ble_eq_true rfl)) dX7_chance_105 ⟨Nat.le_of_ble_eq_true rfl, Nat.le_of_ble_eq_true rfl⟩) hS (fun q _ h => h.elim) (fun q h => h.elim) (fun r_105 u t H1 locs ht hvm hw_105 hB hz1 hk1 hS => ?_)
            have hE : H = H1 := hB.symm.trans ht
            subst hE
            refine lv_lstore (lv' := [(6, .long r_105), (4, .long r_64), (0, .ref mx), (1, .int p1), (2, .int p2), (3, .int p3)]) hx hb dX7_chance_108 hl (by decide) rfl (fun ls hl => ?_)
            refine lv_lload hx hb dX7_chance_110 (lv_at hl 1 rfl) ?_
            refine lv_lload hx hb dX7_chance_112 (lv_at hl 0 rfl) ?_
            have hPc := hP.sub (ws' := []) [] rfl
            refine va_calll (va_runS (As := [.long r_64, .long r_105]) (rest := []) ⟨hx, hb, hml, hown, hts⟩ (mz_g_commonDivisor l dC dI cI cJ cZ r_64 r_105 H ) (va_cwS 2 hts gX7_chance_X7_commonDivisor rfl rfl rfl (by decide +kernel) ⟨Nat.le_of_ble_eq_true rfl, Nat.le_of_ble_eq_true rfl⟩) ⟨fun a U g mk q => mz_blP q, fun U hU hW => ⟨rfl, hU, hPc, va_K.moved hW.alike hK, mz_nw hW hN⟩⟩ rfl rfl hl.1 rfl (lv_room (Nat.le_of_ble_eq_true rfl)) dX7_chance_114 ⟨Nat.le_of_ble_eq_true rfl, Nat.le_of_ble_eq_true rfl⟩) hS (fun q _ h => h.elim) (fun q h => h.elim) (fun r_114 u t H1 locs ht hvm hw_114 hB hz1 hk1 hS => ?_)
            have hE : H = H1 := hB.symm.trans ht
            subst hE
            refine lv_lstore (lv' := [(8, .long r_114), (6, .long r_105), (4, .long r_64), (0, .ref mx), (1, .int p1), (2, .int p2), (3, .int p3)]) hx hb dX7_chance_117 hl (by decide) rfl (fun ls hl => ?_)
            refine lv_aload_n hx hb dX7_chance_119 rfl (lv_at hl 3 rfl) ?_
            refine lv_lload hx hb dX7_chance_120 (lv_at hl 1 rfl) ?_
            refine lv_lload hx hb dX7_chance_122 (lv_at hl 0 rfl) ?_
            refine lv_ldiv hx hb dX7_chance_124 (by first | assumption | omega) ?_
            refine lv_topl (fun v_124 ev_124 => ?_)
            refine va_put (D := (dC, dI)) (ci := 7) (v := .long v_124) (ty := .long) (C := RX7) (T := TX7) (N := 10) hx hb hts hiX7 tyX7 tyX7_ok nmX7 hown hK hP hD hS 0 rfl rfl 8 (by decide) (hts (.fieldLink RX7 58 "MadeItSo" "aboveLine" "J") (by decide +kernel)) (fun _ h9 => h9) rfl (by decide +kernel) rfl rfl (Nat.le_of_ble_eq_true rfl) dX7_chance_125 (fun H locs hP hD hS => ?_)
            have hP : va_P (dC, dI) vwCl [(mx, .inr (7, [.ref dr, .ref th, .ref bk, .ref wt, .ref tt, .ref lh, .ref la, .int sh, .long v_124, .long 1])), (wt, .inr (6, [.ref wo, .int gev_49])), (wo, .inl (cJ, 256, .inr (.inl gw_49))), (dr, .inr (2, [.ref dp, .ref dc, .int (nI n)])), (dp, .inl (cI, 8, .inl fp)), (bk, .inr (1, [.ref bp])), (bp, .inl (cI, 1024, .inl fb))] H := hP
            have hD : va_D A [(mx, .inr (7, [.ref dr, .ref th, .ref bk, .ref wt, .ref tt, .ref lh, .ref la, .int sh, .long v_124, .long 1])), (wt, .inr (6, [.ref wo, .int gev_49])), (wo, .inl (cJ, 256, .inr (.inl gw_49))), (dr, .inr (2, [.ref dp, .ref dc, .int (nI n)])), (dp, .inl (cI, 8, .inl fp)), (bk, .inr (1, [.ref bp])), (bp, .inl (cI, 1024, .inl fb))] := hD
            refine lv_aload_n hx hb dX7_chance_128 rfl (lv_at hl 3 rfl) ?_
            refine lv_lload hx hb dX7_chance_129 (lv_at hl 2 rfl) ?_
            refine lv_lload hx hb dX7_chance_131 (lv_at hl 0 rfl) ?_
            refine lv_ldiv hx hb dX7_chance_133 (by first | assumption | omega) ?_
            refine lv_topl (fun v_133 ev_133 => ?_)
            refine va_put (D := (dC, dI)) (ci := 7) (v := .long v_133) (ty := .long) (C := RX7) (T := TX7) (N := 10) hx hb hts hiX7 tyX7 tyX7_ok nmX7 hown hK hP hD hS 0 rfl rfl 9 (by decide) (hts (.fieldLink RX7 62 "MadeItSo" "belowLine" "J") (by decide +kernel)) (fun _ h9 => h9) rfl (by decide +kernel) rfl rfl (Nat.le_of_ble_eq_true rfl) dX7_chance_134 (fun H locs hP hD hS => ?_)
            have hP : va_P (dC, dI) vwCl [(mx, .inr (7, [.ref dr, .ref th, .ref bk, .ref wt, .ref tt, .ref lh, .ref la, .int sh, .long v_124, .long v_133])), (wt, .inr (6, [.ref wo, .int gev_49])), (wo, .inl (cJ, 256, .inr (.inl gw_49))), (dr, .inr (2, [.ref dp, .ref dc, .int (nI n)])), (dp, .inl (cI, 8, .inl fp)), (bk, .inr (1, [.ref bp])), (bp, .inl (cI, 1024, .inl fb))] H := hP
            have hD : va_D A [(mx, .inr (7, [.ref dr, .ref th, .ref bk, .ref wt, .ref tt, .ref lh, .ref la, .int sh, .long v_124, .long v_133])), (wt, .inr (6, [.ref wo, .int gev_49])), (wo, .inl (cJ, 256, .inr (.inl gw_49))), (dr, .inr (2, [.ref dp, .ref dc, .int (nI n)])), (dp, .inl (cI, 8, .inl fp)), (bk, .inr (1, [.ref bp])), (bp, .inl (cI, 1024, .inl fb))] := hD
            refine lv_iconst (v := 1) hx hb dX7_chance_137 (by decide +kernel) ?_
            have hP9 := hP.sub (ws' := [(mx, .inr (7, [.ref dr, .ref th, .ref bk, .ref wt, .ref tt, .ref lh, .ref la, .int sh, .long v_124, .long v_133])), (dr, .inr (2, [.ref dp, .ref dc, .int (nI n)])), (dp, .inl (cI, 8, .inl fp)), (bk, .inr (1, [.ref bp])), (bp, .inl (cI, 1024, .inl fb)), (wt, .inr (6, [.ref wo, .int gev_49])), (wo, .inl (cJ, 256, .inr (.inl gw_49)))]) [0, 3, 4, 5, 6, 1, 2] rfl
            have hD9 := hD.sub (ws' := [(mx, .inr (7, [.ref dr, .ref th, .ref bk, .ref wt, .ref tt, .ref lh, .ref la, .int sh, .long v_124, .long v_133])), (dr, .inr (2, [.ref dp, .ref dc, .int (nI n)])), (dp, .inl (cI, 8, .inl fp)), (bk, .inr (1, [.ref bp])), (bp, .inl (cI, 1024, .inl fb)), (wt, .inr (6, [.ref wo, .int gev_49])), (wo, .inl (cJ, 256, .inr (.inl gw_49)))]) [0, 3, 4, 5, 6, 1, 2] (by decide) rfl
            refine W.widen (k := 0) (n := 0) (Nat.le_of_ble_eq_true rfl) (Nat.le_of_ble_eq_true rfl) ?_
            exact W.iret (v := 1) hx hb hr (fun t ht hW => ⟨⟨1, (), rfl, trivial, v_124, v_133, gev_49, gw_49, by rw [ht]; exact hP9, hD9⟩, hS.F ht⟩) hS.2.2 dX7_chance_138
        · skip
          refine lv_iconst (v := 0) hx hb dX7_chance_76 (by decide +kernel) ?_
          have hP9 := hP.sub (ws' := [(mx, .inr (7, [.ref dr, .ref th, .ref bk, .ref wt, .ref tt, .ref lh, .ref la, .int sh, .long 0, .long 1])), (dr, .inr (2, [.ref dp, .ref dc, .int (nI n)])), (dp, .inl (cI, 8, .inl fp)), (bk, .inr (1, [.ref bp])), (bp, .inl (cI, 1024, .inl fb)), (wt, .inr (6, [.ref wo, .int gev_49])), (wo, .inl (cJ, 256, .inr (.inl gw_49)))]) [0, 3, 4, 5, 6, 1, 2] rfl
          have hD9 := hD.sub (ws' := [(mx, .inr (7, [.ref dr, .ref th, .ref bk, .ref wt, .ref tt, .ref lh, .ref la, .int sh, .long 0, .long 1])), (dr, .inr (2, [.ref dp, .ref dc, .int (nI n)])), (dp, .inl (cI, 8, .inl fp)), (bk, .inr (1, [.ref bp])), (bp, .inl (cI, 1024, .inl fb)), (wt, .inr (6, [.ref wo, .int gev_49])), (wo, .inl (cJ, 256, .inr (.inl gw_49)))]) [0, 3, 4, 5, 6, 1, 2] (by decide) rfl
          refine W.widen (k := 0) (n := 0) (Nat.le_of_ble_eq_true rfl) (Nat.le_of_ble_eq_true rfl) ?_
          exact W.iret (v := 0) hx hb hr (fun t ht hW => ⟨⟨0, (), rfl, trivial, 0, 1, gev_49, gw_49, by rw [ht]; exact hP9, hD9⟩, hS.F ht⟩) hS.2.2 dX7_chance_77
      · skip
        refine lv_iconst (v := (-1)) hx hb dX7_chance_34 (by decide +kernel) ?_
        have hP9 := hP.sub (ws' := [(mx, .inr (7, [.ref dr, .ref th, .ref bk, .ref wt, .ref tt, .ref lh, .ref la, .int sh, .long 0, .long 1])), (dr, .inr (2, [.ref dp, .ref dc, .int (nI n)])), (dp, .inl (cI, 8, .inl fp)), (bk, .inr (1, [.ref bp])), (bp, .inl (cI, 1024, .inl fb)), (wt, .inr (6, [.ref wo, .int ev])), (wo, .inl (cJ, 256, .inr (.inl fw)))]) [0, 1, 2, 3, 4, 5, 6] rfl
        have hD9 := hD.sub (ws' := [(mx, .inr (7, [.ref dr, .ref th, .ref bk, .ref wt, .ref tt, .ref lh, .ref la, .int sh, .long 0, .long 1])), (dr, .inr (2, [.ref dp, .ref dc, .int (nI n)])), (dp, .inl (cI, 8, .inl fp)), (bk, .inr (1, [.ref bp])), (bp, .inl (cI, 1024, .inl fb)), (wt, .inr (6, [.ref wo, .int ev])), (wo, .inl (cJ, 256, .inr (.inl fw)))]) [0, 1, 2, 3, 4, 5, 6] (by decide) rfl
        refine W.widen (k := 0) (n := 0) (Nat.le_of_ble_eq_true rfl) (Nat.le_of_ble_eq_true rfl) ?_
        exact W.iret (v := (-1)) hx hb hr (fun t ht hW => ⟨⟨(-1), (), rfl, trivial, 0, 1, ev, fw, by rw [ht]; exact hP9, hD9⟩, hS.F ht⟩) hS.2.2 dX7_chance_35
set_option maxHeartbeats 1000000 in
set_option maxRecDepth 100000 in
theorem mz_x_above (l : Launch) (dC : Nat → ClassId) (dI : Nat → Nat → Nat) (cI cJ cZ : ClassId) (mx : Nat) (dr : Nat) (th : Nat) (bk : Nat) (wt : Nat) (tt : Nat) (lh : Nat) (la : Nat) (sh : Int32) (ab : Int64) (be : Int64) (Hq : Heap)  : Met l yX7_above wsX7_above ({ frames := 0, cells := 0, slots := 0, locals := 0 }) (va_Pc [.ref mx] (fun U => U.heap = Hq ∧ va_P (dC, dI) vwCl [(mx, .inr (7, [.ref dr, .ref th, .ref bk, .ref wt, .ref tt, .ref lh, .ref la, .int sh, .long ab, .long be]))] Hq ∧ va_K (dC, dI) vwCl [(cI, FieldType.int), (cJ, FieldType.long), (cZ, FieldType.boolean)] U ∧ mz_N U)) (va_Ql (fun (r : Int64) (_ : Unit) => True) (fun _ t => t.heap = Hq) (fun _ : Nat => False)) 0 0 (fun _ : Nat => False) := by
  refine Met.ofW (cc := cX7_above) (maxL := 1) (ret := (some .long)) (by decide) rfl ?_
  intro p e s m args below meth c s₁ B hml hv
  obtain ⟨rfl, hH, hP, hK, hN⟩ := hv
  subst hH
  have hx := B.exec
  have hb := B.bytes
  have hr := B.returns
  have hts := atoms_spec (ws := wsX7_above) B.pre
  have hown : s.vm.findClass RX7 = some m.cls := findClass_of_methodNamed B.named
  have hlocks := B.notSynchronized
  have hS : va_S (fun _ : Nat => False) s.heap s.heap [] := va_S.rf
  have hiX7 : ∀ w ∈ u_ws RX7 TX7 10, w ∈ wsX7_above := by decide +kernel
  have hl := lv_entry ([.ref mx]) (n := 1) (Nat.le_of_ble_eq_true rfl)
  rw [lg_entry_eq]
  generalize (lg_sl ([.ref mx]) ++ List.replicate (1 - (lg_sl ([.ref mx])).length) Slot.unset).toArray = ls at hl ⊢
  have hl : lv_has ls 1 [(0, .ref mx)] := hl
  refine lv_aload_n hx hb dX7_above_0 rfl (lv_at hl 0 rfl) ?_
  refine va_get (D := (dC, dI)) (ci := 7) (v := .long ab) (C := RX7) (T := TX7) (N := 10) hx hb hts hiX7 hown hK hP 0 rfl rfl 8 (by decide) (hts (.fieldLink RX7 58 "MadeItSo" "aboveLine" "J") (by decide +kernel)) (fun _ h9 => h9) rfl dX7_above_1 ?_
  refine W.widen (k := 0) (n := 0) (Nat.le_of_ble_eq_true rfl) (Nat.le_of_ble_eq_true rfl) ?_
  exact W.lret (v := ab) hx hb hr (fun t ht hW => ⟨⟨ab, (), rfl, trivial, ht⟩, hS.F ht⟩) hS.2.2 dX7_above_4
set_option maxHeartbeats 1000000 in
set_option maxRecDepth 100000 in
theorem mz_x_below (l : Launch) (dC : Nat → ClassId) (dI : Nat → Nat → Nat) (cI cJ cZ : ClassId) (mx : Nat) (dr : Nat) (th : Nat) (bk : Nat) (wt : Nat) (tt : Nat) (lh : Nat) (la : Nat) (sh : Int32) (ab : Int64) (be : Int64) (Hq : Heap)  : Met l yX7_below wsX7_below ({ frames := 0, cells := 0, slots := 0, locals := 0 }) (va_Pc [.ref mx] (fun U => U.heap = Hq ∧ va_P (dC, dI) vwCl [(mx, .inr (7, [.ref dr, .ref th, .ref bk, .ref wt, .ref tt, .ref lh, .ref la, .int sh, .long ab, .long be]))] Hq ∧ va_K (dC, dI) vwCl [(cI, FieldType.int), (cJ, FieldType.long), (cZ, FieldType.boolean)] U ∧ mz_N U)) (va_Ql (fun (r : Int64) (_ : Unit) => True) (fun _ t => t.heap = Hq) (fun _ : Nat => False)) 0 0 (fun _ : Nat => False) := by
  refine Met.ofW (cc := cX7_below) (maxL := 1) (ret := (some .long)) (by decide) rfl ?_
  intro p e s m args below meth c s₁ B hml hv
  obtain ⟨rfl, hH, hP, hK, hN⟩ := hv
  subst hH
  have hx := B.exec
  have hb := B.bytes
  have hr := B.returns
  have hts := atoms_spec (ws := wsX7_below) B.pre
  have hown : s.vm.findClass RX7 = some m.cls := findClass_of_methodNamed B.named
  have hlocks := B.notSynchronized
  have hS : va_S (fun _ : Nat => False) s.heap s.heap [] := va_S.rf
  have hiX7 : ∀ w ∈ u_ws RX7 TX7 10, w ∈ wsX7_below := by decide +kernel
  have hl := lv_entry ([.ref mx]) (n := 1) (Nat.le_of_ble_eq_true rfl)
  rw [lg_entry_eq]
  generalize (lg_sl ([.ref mx]) ++ List.replicate (1 - (lg_sl ([.ref mx])).length) Slot.unset).toArray = ls at hl ⊢
  have hl : lv_has ls 1 [(0, .ref mx)] := hl
  refine lv_aload_n hx hb dX7_below_0 rfl (lv_at hl 0 rfl) ?_
  refine va_get (D := (dC, dI)) (ci := 7) (v := .long be) (C := RX7) (T := TX7) (N := 10) hx hb hts hiX7 hown hK hP 0 rfl rfl 9 (by decide) (hts (.fieldLink RX7 62 "MadeItSo" "belowLine" "J") (by decide +kernel)) (fun _ h9 => h9) rfl dX7_below_1 ?_
  refine W.widen (k := 0) (n := 0) (Nat.le_of_ble_eq_true rfl) (Nat.le_of_ble_eq_true rfl) ?_
  exact W.lret (v := be) hx hb hr (fun t ht hW => ⟨⟨be, (), rfl, trivial, ht⟩, hS.F ht⟩) hS.2.2 dX7_below_4
set_option maxHeartbeats 1000000 in
set_option maxRecDepth 100000 in
theorem mz_x_bars (l : Launch) (dC : Nat → ClassId) (dI : Nat → Nat → Nat) (cI cJ cZ : ClassId) (mx : Nat) (dr : Nat) (th : Nat) (bk : Nat) (wt : Nat) (tt : Nat) (lh : Nat) (la : Nat) (sh : Int32) (ab : Int64) (be : Int64) (dp : Nat) (dc : Nat) (n : Nat) (fp : Nat → Int32) (fc : Nat → Int32) (p1 : Int32) (p2 : Int32) (p3 : Int32) (Hq : Heap) (hn : n ≤ 8) : Met l yX7_bars wsX7_bars ({ frames := 4, cells := 0, slots := 0, locals := 100 }) (va_Pc [.ref mx, .int p1, .int p2, .int p3] (fun U => U.heap = Hq ∧ va_P (dC, dI) vwCl [(mx, .inr (7, [.ref dr, .ref th, .ref bk, .ref wt, .ref tt, .ref lh, .ref la, .int sh, .long ab, .long be])), (dr, .inr (2, [.ref dp, .ref dc, .int (nI n)])), (dp, .inl (cI, 8, .inl fp)), (dc, .inl (cI, 8, .inl fc))] Hq ∧ va_K (dC, dI) vwCl [(cI, FieldType.int), (cJ, FieldType.long), (cZ, FieldType.boolean)] U ∧ mz_N U)) (va_Qi (fun (r : Int32) (_ : Unit) => r = 0 ∨ r = 1) (fun _ t => t.heap = Hq) (fun _ : Nat => False)) 0 0 (fun _ : Nat => False) := by
  refine Met.ofW (cc := cX7_bars) (maxL := 4) (ret := (some .boolean)) (by decide) rfl ?_
  intro p e s m args below meth c s₁ B hml hv
  obtain ⟨rfl, hH, hP, hK, hN⟩ := hv
  subst hH
  have hx := B.exec
  have hb := B.bytes
  have hr := B.returns
  have hts := atoms_spec (ws := wsX7_bars) B.pre
  have hown : s.vm.findClass RX7 = some m.cls := findClass_of_methodNamed B.named
  have hlocks := B.notSynchronized
  have hS : va_S (fun _ : Nat => False) s.heap s.heap [] := va_S.rf
  have hiX7 : ∀ w ∈ u_ws RX7 TX7 10, w ∈ wsX7_bars := by decide +kernel
  have hl := lv_entry ([.ref mx, .int p1, .int p2, .int p3]) (n := 4) (Nat.le_of_ble_eq_true rfl)
  rw [lg_entry_eq]
  generalize (lg_sl ([.ref mx, .int p1, .int p2, .int p3]) ++ List.replicate (4 - (lg_sl ([.ref mx, .int p1, .int p2, .int p3])).length) Slot.unset).toArray = ls at hl ⊢
  have hl : lv_has ls 4 [(0, .ref mx), (1, .int p1), (2, .int p2), (3, .int p3)] := hl
  refine lv_aload_n hx hb dX7_bars_0 rfl (lv_at hl 0 rfl) ?_
  refine lv_iload_n hx hb dX7_bars_1 rfl (lv_at hl 1 rfl) ?_
  have hPc := hP.sub (ws' := [(mx, .inr (7, [.ref dr, .ref th, .ref bk, .ref wt, .ref tt, .ref lh, .ref la, .int sh, .long ab, .long be])), (dr, .inr (2, [.ref dp, .ref dc, .int (nI n)]))]) [0, 1] rfl
  refine va_calli (va_runV (As := [.int p1]) (rest := []) ⟨hx, hb, hml, hown, hts⟩ (mz_x_isHeap l dC dI cI cJ cZ mx dr th bk wt tt lh la sh ab be dp dc n p1 s.heap (by first | assumption | omega)) (cwV 1 hts gX7_bars_X7_isHeap rfl rfl rfl (by decide +kernel) ⟨Nat.le_of_ble_eq_true rfl, Nat.le_of_ble_eq_true rfl⟩) ⟨fun a U g mk q => mz_blP q, va_recv hK hPc (ci := 7) (q0 := 0) rfl rfl, fun U hU hW => ⟨rfl, hU, hPc, va_K.moved hW.alike hK, mz_nw hW hN⟩⟩ rfl rfl hl.1 rfl (lv_room (Nat.le_of_ble_eq_true rfl)) dX7_bars_2 ⟨Nat.le_of_ble_eq_true rfl, Nat.le_of_ble_eq_true rfl⟩) hS (fun q _ h => h.elim) (fun q h => h.elim) (fun r_2 u t H1 locs ht hvm hw_2 hB hz1 hk1 hS => ?_)
  have hE : s.heap = H1 := hB.symm.trans ht
  subst hE
  refine lv_if_eq (tgt := 24) hx hb dX7_bars_5 (by decide) (fun c_5 => ?_) (fun c_5 => ?_)
  · skip
    refine lv_iconst (v := 0) hx hb dX7_bars_24 (by decide +kernel) ?_
    refine W.widen (k := 0) (n := 0) (Nat.le_of_ble_eq_true rfl) (Nat.le_of_ble_eq_true rfl) ?_
    exact W.zret (v := 0) hx hb hr (mz_nz (by decide +kernel)) (fun t ht hW => ⟨⟨0, (), rfl, Or.inl rfl, ht⟩, hS.F ht⟩) hS.2.2 dX7_bars_25
  · skip
    refine lv_aload_n hx hb dX7_bars_8 rfl (lv_at hl 0 rfl) ?_
    refine lv_iload_n hx hb dX7_bars_9 rfl (lv_at hl 2 rfl) ?_
    have hPc := hP.sub (ws' := [(mx, .inr (7, [.ref dr, .ref th, .ref bk, .ref wt, .ref tt, .ref lh, .ref la, .int sh, .long ab, .long be])), (dr, .inr (2, [.ref dp, .ref dc, .int (nI n)]))]) [0, 1] rfl
    refine va_calli (va_runV (As := [.int p2]) (rest := []) ⟨hx, hb, hml, hown, hts⟩ (mz_x_isHeap l dC dI cI cJ cZ mx dr th bk wt tt lh la sh ab be dp dc n p2 s.heap (by first | assumption | omega)) (cwV 1 hts gX7_bars_X7_isHeap rfl rfl rfl (by decide +kernel) ⟨Nat.le_of_ble_eq_true rfl, Nat.le_of_ble_eq_true rfl⟩) ⟨fun a U g mk q => mz_blP q, va_recv hK hPc (ci := 7) (q0 := 0) rfl rfl, fun U hU hW => ⟨rfl, hU, hPc, va_K.moved hW.alike hK, mz_nw hW hN⟩⟩ rfl rfl hl.1 rfl (lv_room (Nat.le_of_ble_eq_true rfl)) dX7_bars_10 ⟨Nat.le_of_ble_eq_true rfl, Nat.le_of_ble_eq_true rfl⟩) hS (fun q _ h => h.elim) (fun q h => h.elim) (fun r_10 u t H1 locs ht hvm hw_10 hB hz1 hk1 hS => ?_)
    have hE : s.heap = H1 := hB.symm.trans ht
    subst hE
    refine lv_if_eq (tgt := 24) hx hb dX7_bars_13 (by decide) (fun c_13 => ?_) (fun c_13 => ?_)
    · skip
      refine lv_iconst (v := 0) hx hb dX7_bars_24 (by decide +kernel) ?_
      refine W.widen (k := 0) (n := 0) (Nat.le_of_ble_eq_true rfl) (Nat.le_of_ble_eq_true rfl) ?_
      exact W.zret (v := 0) hx hb hr (mz_nz (by decide +kernel)) (fun t ht hW => ⟨⟨0, (), rfl, Or.inl rfl, ht⟩, hS.F ht⟩) hS.2.2 dX7_bars_25
    · skip
      refine lv_aload_n hx hb dX7_bars_16 rfl (lv_at hl 0 rfl) ?_
      refine lv_iload_n hx hb dX7_bars_17 rfl (lv_at hl 3 rfl) ?_
      have hPc := hP.sub (ws' := [(mx, .inr (7, [.ref dr, .ref th, .ref bk, .ref wt, .ref tt, .ref lh, .ref la, .int sh, .long ab, .long be])), (dr, .inr (2, [.ref dp, .ref dc, .int (nI n)]))]) [0, 1] rfl
      refine va_calli (va_runV (As := [.int p3]) (rest := []) ⟨hx, hb, hml, hown, hts⟩ (mz_x_isHeap l dC dI cI cJ cZ mx dr th bk wt tt lh la sh ab be dp dc n p3 s.heap (by first | assumption | omega)) (cwV 1 hts gX7_bars_X7_isHeap rfl rfl rfl (by decide +kernel) ⟨Nat.le_of_ble_eq_true rfl, Nat.le_of_ble_eq_true rfl⟩) ⟨fun a U g mk q => mz_blP q, va_recv hK hPc (ci := 7) (q0 := 0) rfl rfl, fun U hU hW => ⟨rfl, hU, hPc, va_K.moved hW.alike hK, mz_nw hW hN⟩⟩ rfl rfl hl.1 rfl (lv_room (Nat.le_of_ble_eq_true rfl)) dX7_bars_18 ⟨Nat.le_of_ble_eq_true rfl, Nat.le_of_ble_eq_true rfl⟩) hS (fun q _ h => h.elim) (fun q h => h.elim) (fun r_18 u t H1 locs ht hvm hw_18 hB hz1 hk1 hS => ?_)
      have hE : s.heap = H1 := hB.symm.trans ht
      subst hE
      refine lv_if_ne (tgt := 26) hx hb dX7_bars_21 (by decide) (fun c_21 => ?_) (fun c_21 => ?_)
      · skip
        refine lv_iload_n hx hb dX7_bars_26 rfl (lv_at hl 1 rfl) ?_
        refine lv_iload_n hx hb dX7_bars_27 rfl (lv_at hl 2 rfl) ?_
        refine lv_iand hx hb dX7_bars_28 ?_
        refine lv_topi (fun v_28 ev_28 => ?_)
        refine lv_if_ne (tgt := 44) hx hb dX7_bars_29 (by decide) (fun c_29 => ?_) (fun c_29 => ?_)
        · skip
          refine lv_iconst (v := 0) hx hb dX7_bars_44 (by decide +kernel) ?_
          refine W.widen (k := 0) (n := 0) (Nat.le_of_ble_eq_true rfl) (Nat.le_of_ble_eq_true rfl) ?_
          exact W.zret (v := 0) hx hb hr (mz_nz (by decide +kernel)) (fun t ht hW => ⟨⟨0, (), rfl, Or.inl rfl, ht⟩, hS.F ht⟩) hS.2.2 dX7_bars_45
        · skip
          refine lv_iload_n hx hb dX7_bars_32 rfl (lv_at hl 1 rfl) ?_
          refine lv_iload_n hx hb dX7_bars_33 rfl (lv_at hl 3 rfl) ?_
          refine lv_iand hx hb dX7_bars_34 ?_
          refine lv_topi (fun v_34 ev_34 => ?_)
          refine lv_if_ne (tgt := 44) hx hb dX7_bars_35 (by decide) (fun c_35 => ?_) (fun c_35 => ?_)
          · skip
            refine lv_iconst (v := 0) hx hb dX7_bars_44 (by decide +kernel) ?_
            refine W.widen (k := 0) (n := 0) (Nat.le_of_ble_eq_true rfl) (Nat.le_of_ble_eq_true rfl) ?_
            exact W.zret (v := 0) hx hb hr (mz_nz (by decide +kernel)) (fun t ht hW => ⟨⟨0, (), rfl, Or.inl rfl, ht⟩, hS.F ht⟩) hS.2.2 dX7_bars_45
          · skip
            refine lv_iload_n hx hb dX7_bars_38 rfl (lv_at hl 2 rfl) ?_
            refine lv_iload_n hx hb dX7_bars_39 rfl (lv_at hl 3 rfl) ?_
            refine lv_iand hx hb dX7_bars_40 ?_
            refine lv_topi (fun v_40 ev_40 => ?_)
            refine lv_if_eq (tgt := 46) hx hb dX7_bars_41 (by decide) (fun c_41 => ?_) (fun c_41 => ?_)
            · skip
              refine lv_aload_n hx hb dX7_bars_46 rfl (lv_at hl 0 rfl) ?_
              refine va_get (D := (dC, dI)) (ci := 7) (v := .ref dr) (C := RX7) (T := TX7) (N := 10) hx hb hts hiX7 hown hK hP 0 rfl rfl 0 (by decide) (hts (.fieldLink RX7 12 "MadeItSo" "drawing" "LMadeItSo$Drawing;") (by decide +kernel)) (fun _ h9 => h9) rfl dX7_bars_47 ?_
              refine lv_iload_n hx hb dX7_bars_50 rfl (lv_at hl 1 rfl) ?_
              refine lv_iload_n hx hb dX7_bars_51 rfl (lv_at hl 2 rfl) ?_
              refine lv_iload_n hx hb dX7_bars_52 rfl (lv_at hl 3 rfl) ?_
              have hPc := hP.sub (ws' := [(dr, .inr (2, [.ref dp, .ref dc, .int (nI n)])), (dp, .inl (cI, 8, .inl fp)), (dc, .inl (cI, 8, .inl fc))]) [1, 2, 3] rfl
              refine va_calli (va_runV (As := [.int p1, .int p2, .int p3]) (rest := []) ⟨hx, hb, hml, hown, hts⟩ (mz_d_barred l dC dI cI cJ cZ dr dp dc n fp fc p1 p2 p3 s.heap ) (cwV 3 hts gX7_bars_X2_barred rfl rfl rfl (by decide +kernel) ⟨Nat.le_of_ble_eq_true rfl, Nat.le_of_ble_eq_true rfl⟩) ⟨fun a U g mk q => mz_blP q, va_recv hK hPc (ci := 2) (q0 := 0) rfl rfl, fun U hU hW => ⟨rfl, hU, hPc, va_K.moved hW.alike hK, mz_nw hW hN⟩⟩ rfl rfl hl.1 rfl (lv_room (Nat.le_of_ble_eq_true rfl)) dX7_bars_53 ⟨Nat.le_of_ble_eq_true rfl, Nat.le_of_ble_eq_true rfl⟩) hS (fun q _ h => h.elim) (fun q h => h.elim) (fun r_53 u t H1 locs ht hvm hw_53 hB hz1 hk1 hS => ?_)
              have hE : s.heap = H1 := hB.symm.trans ht
              subst hE
              refine W.widen (k := 0) (n := 0) (Nat.le_of_ble_eq_true rfl) (Nat.le_of_ble_eq_true rfl) ?_
              exact W.zret (v := r_53) hx hb hr (mz_nzo hw_53) (fun t ht hW => ⟨⟨r_53, (), rfl, hw_53, ht⟩, hS.F ht⟩) hS.2.2 dX7_bars_56
            · skip
              refine lv_iconst (v := 0) hx hb dX7_bars_44 (by decide +kernel) ?_
              refine W.widen (k := 0) (n := 0) (Nat.le_of_ble_eq_true rfl) (Nat.le_of_ble_eq_true rfl) ?_
              exact W.zret (v := 0) hx hb hr (mz_nz (by decide +kernel)) (fun t ht hW => ⟨⟨0, (), rfl, Or.inl rfl, ht⟩, hS.F ht⟩) hS.2.2 dX7_bars_45
      · skip
        refine lv_iconst (v := 0) hx hb dX7_bars_24 (by decide +kernel) ?_
        refine W.widen (k := 0) (n := 0) (Nat.le_of_ble_eq_true rfl) (Nat.le_of_ble_eq_true rfl) ?_
        exact W.zret (v := 0) hx hb hr (mz_nz (by decide +kernel)) (fun t ht hW => ⟨⟨0, (), rfl, Or.inl rfl, ht⟩, hS.F ht⟩) hS.2.2 dX7_bars_25
set_option maxHeartbeats 1000000 in
set_option maxRecDepth 100000 in
theorem mz_x_least (l : Launch) (dC : Nat → ClassId) (dI : Nat → Nat → Nat) (cI cJ cZ : ClassId) (mx : Nat) (dr : Nat) (th : Nat) (bk : Nat) (wt : Nat) (tt : Nat) (lh : Nat) (la : Nat) (sh : Int32) (ab : Int64) (be : Int64) (dp : Nat) (dc : Nat) (n : Nat) (fp : Nat → Int32) (fc : Nat → Int32) (hf : Nat) (lm : Int32) (ff : Nat → Int32) (p1 : Int32) (p2 : Int32) (sz : Nat) (hn : n ≤ 8) : Met l yX7_least wsX7_least ({ frames := 5, cells := 0, slots := 0, locals := 128 }) (va_Pc [.ref mx, .int p1, .int p2] (fun U => U.heap.size = sz ∧ va_P (dC, dI) vwCl [(mx, .inr (7, [.ref dr, .ref th, .ref bk, .ref wt, .ref tt, .ref lh, .ref la, .int sh, .long ab, .long be])), (dr, .inr (2, [.ref dp, .ref dc, .int (nI n)])), (dp, .inl (cI, 8, .inl fp)), (dc, .inl (cI, 8, .inl fc)), (lh, .inr (3, [.ref hf, .int lm])), (hf, .inl (cI, 64, .inl ff))] U.heap ∧ va_K (dC, dI) vwCl [(cI, FieldType.int), (cJ, FieldType.long), (cZ, FieldType.boolean)] U ∧ va_D (fun _ => True) [(mx, .inr (7, [.ref dr, .ref th, .ref bk, .ref wt, .ref tt, .ref lh, .ref la, .int sh, .long ab, .long be])), (dr, .inr (2, [.ref dp, .ref dc, .int (nI n)])), (dp, .inl (cI, 8, .inl fp)), (dc, .inl (cI, 8, .inl fc)), (lh, .inr (3, [.ref hf, .int lm])), (hf, .inl (cI, 64, .inl ff))] ∧ mz_N U)) (va_Qi (fun (r : Int32) (_ : Unit) => True) (fun _ t => ∃ (gm : Int32), ∃ (gf : Nat → Int32), va_P (dC, dI) vwCl [(mx, .inr (7, [.ref dr, .ref th, .ref bk, .ref wt, .ref tt, .ref lh, .ref la, .int sh, .long ab, .long be])), (dr, .inr (2, [.ref dp, .ref dc, .int (nI n)])), (dp, .inl (cI, 8, .inl fp)), (dc, .inl (cI, 8, .inl fc)), (lh, .inr (3, [.ref hf, .int gm])), (hf, .inl (cI, 64, .inl gf))] t.heap ∧ va_D (va_A [(mx, .inr (7, [.ref dr, .ref th, .ref bk, .ref wt, .ref tt, .ref lh, .ref la, .int sh, .long ab, .long be])), (dr, .inr (2, [.ref dp, .ref dc, .int (nI n)])), (dp, .inl (cI, 8, .inl fp)), (dc, .inl (cI, 8, .inl fc)), (lh, .inr (3, [.ref hf, .int lm])), (hf, .inl (cI, 64, .inl ff))] sz) [(mx, .inr (7, [.ref dr, .ref th, .ref bk, .ref wt, .ref tt, .ref lh, .ref la, .int sh, .long ab, .long be])), (dr, .inr (2, [.ref dp, .ref dc, .int (nI n)])), (dp, .inl (cI, 8, .inl fp)), (dc, .inl (cI, 8, .inl fc)), (lh, .inr (3, [.ref hf, .int gm])), (hf, .inl (cI, 64, .inl gf))]) (va_A [(mx, .inr (7, [.ref dr, .ref th, .ref bk, .ref wt, .ref tt, .ref lh, .ref la, .int sh, .long ab, .long be])), (dr, .inr (2, [.ref dp, .ref dc, .int (nI n)])), (dp, .inl (cI, 8, .inl fp)), (dc, .inl (cI, 8, .inl fc)), (lh, .inr (3, [.ref hf, .int lm])), (hf, .inl (cI, 64, .inl ff))] sz)) 0 0 (va_A [(mx, .inr (7, [.ref dr, .ref th, .ref bk, .ref wt, .ref tt, .ref lh, .ref la, .int sh, .long ab, .long be])), (dr, .inr (2, [.ref dp, .ref dc, .int (nI n)])), (dp, .inl (cI, 8, .inl fp)), (dc, .inl (cI, 8, .inl fc)), (lh, .inr (3, [.ref hf, .int lm])), (hf, .inl (cI, 64, .inl ff))] sz) := by
  refine Met.ofW (cc := cX7_least) (maxL := 3) (ret := (some .int)) (by decide) rfl ?_
  intro p e s m args below meth c s₁ B hml hv
  obtain ⟨rfl, hsz, hP, hK, hD0, hN⟩ := hv
  subst hsz
  have hx := B.exec
  have hb := B.bytes
  have hr := B.returns
  have hts := atoms_spec (ws := wsX7_least) B.pre
  have hown : s.vm.findClass RX7 = some m.cls := findClass_of_methodNamed B.named
  have hlocks := B.notSynchronized
  have hD := hD0.self (sz := s.heap.size)
  generalize hAe : va_A [(mx, .inr (7, [.ref dr, .ref th, .ref bk, .ref wt, .ref tt, .ref lh, .ref la, .int sh, .long ab, .long be])), (dr, .inr (2, [.ref dp, .ref dc, .int (nI n)])), (dp, .inl (cI, 8, .inl fp)), (dc, .inl (cI, 8, .inl fc)), (lh, .inr (3, [.ref hf, .int lm])), (hf, .inl (cI, 64, .inl ff))] s.heap.size = A at hD ⊢
  have hA : ∀ q : Nat, s.heap.size ≤ q → A q := fun q h => by rw [← hAe]; exact Or.inr h
  have hS : va_S A s.heap s.heap [] := va_S.rf
  have hiX7 : ∀ w ∈ u_ws RX7 TX7 10, w ∈ wsX7_least := by decide +kernel
  have hl := lv_entry ([.ref mx, .int p1, .int p2]) (n := 3) (Nat.le_of_ble_eq_true rfl)
  rw [lg_entry_eq]
  generalize (lg_sl ([.ref mx, .int p1, .int p2]) ++ List.replicate (3 - (lg_sl ([.ref mx, .int p1, .int p2])).length) Slot.unset).toArray = ls at hl ⊢
  have hl : lv_has ls 3 [(0, .ref mx), (1, .int p1), (2, .int p2)] := hl
  refine lv_aload_n hx hb dX7_least_0 rfl (lv_at hl 0 rfl) ?_
  refine lv_iload_n hx hb dX7_least_1 rfl (lv_at hl 1 rfl) ?_
  refine lv_iload_n hx hb dX7_least_2 rfl (lv_at hl 2 rfl) ?_
  have hPc := hP.sub (ws' := [(mx, .inr (7, [.ref dr, .ref th, .ref bk, .ref wt, .ref tt, .ref lh, .ref la, .int sh, .long ab, .long be])), (dr, .inr (2, [.ref dp, .ref dc, .int (nI n)]))]) [0, 1] rfl
  refine va_calli (va_runV (As := [.int p1, .int p2]) (rest := []) ⟨hx, hb, hml, hown, hts⟩ (mz_x_areTwo l dC dI cI cJ cZ mx dr th bk wt tt lh la sh ab be dp dc n p1 p2 s.heap (by first | assumption | omega)) (cwV 2 hts gX7_least_X7_areTwo rfl rfl rfl (by decide +kernel) ⟨Nat.le_of_ble_eq_true rfl, Nat.le_of_ble_eq_true rfl⟩) ⟨fun a U g mk q => mz_blP q, va_recv hK hPc (ci := 7) (q0 := 0) rfl rfl, fun U hU hW => ⟨rfl, hU, hPc, va_K.moved hW.alike hK, mz_nw hW hN⟩⟩ rfl rfl hl.1 rfl (lv_room (Nat.le_of_ble_eq_true rfl)) dX7_least_3 ⟨Nat.le_of_ble_eq_true rfl, Nat.le_of_ble_eq_true rfl⟩) hS (fun q _ h => h.elim) (fun q h => h.elim) (fun r_3 u t H1 locs ht hvm hw_3 hB hz1 hk1 hS => ?_)
  have hE : s.heap = H1 := hB.symm.trans ht
  subst hE
  refine lv_if_ne (tgt := 11) hx hb dX7_least_6 (by decide) (fun c_6 => ?_) (fun c_6 => ?_)
  · skip
    refine lv_aload_n hx hb dX7_least_11 rfl (lv_at hl 0 rfl) ?_
    refine va_get (D := (dC, dI)) (ci := 7) (v := .ref lh) (C := RX7) (T := TX7) (N := 10) hx hb hts hiX7 hown hK hP 0 rfl rfl 5 (by decide) (hts (.fieldLink RX7 43 "MadeItSo" "leastHeaps" "LMadeItSo$LeastHeaps;") (by decide +kernel)) (fun _ h9 => h9) rfl dX7_least_12 ?_
    refine lv_aload_n hx hb dX7_least_15 rfl (lv_at hl 0 rfl) ?_
    refine va_get (D := (dC, dI)) (ci := 7) (v := .ref dr) (C := RX7) (T := TX7) (N := 10) hx hb hts hiX7 hown hK hP 0 rfl rfl 0 (by decide) (hts (.fieldLink RX7 12 "MadeItSo" "drawing" "LMadeItSo$Drawing;") (by decide +kernel)) (fun _ h9 => h9) rfl dX7_least_16 ?_
    refine lv_iload_n hx hb dX7_least_19 rfl (lv_at hl 1 rfl) ?_
    refine lv_iload_n hx hb dX7_least_20 rfl (lv_at hl 2 rfl) ?_
    refine lv_aload_n hx hb dX7_least_21 rfl (lv_at hl 0 rfl) ?_
    refine va_get (D := (dC, dI)) (ci := 7) (v := .int sh) (C := RX7) (T := TX7) (N := 10) hx hb hts hiX7 hown hK hP 0 rfl rfl 7 (by decide) (hts (.fieldLink RX7 54 "MadeItSo" "seenHeap" "I") (by decide +kernel)) (fun _ h9 => h9) rfl dX7_least_22 ?_
    have hPc := hP.sub (ws' := [(lh, .inr (3, [.ref hf, .int lm])), (hf, .inl (cI, 64, .inl ff)), (dr, .inr (2, [.ref dp, .ref dc, .int (nI n)])), (dp, .inl (cI, 8, .inl fp)), (dc, .inl (cI, 8, .inl fc))]) [4, 5, 1, 2, 3] rfl
    have hDc := hD.sub (ws' := [(lh, .inr (3, [.ref hf, .int lm])), (hf, .inl (cI, 64, .inl ff)), (dr, .inr (2, [.ref dp, .ref dc, .int (nI n)])), (dp, .inl (cI, 8, .inl fp)), (dc, .inl (cI, 8, .inl fc))]) [4, 5, 1, 2, 3] (by decide) rfl
    have hFc := va_free (wc := [(lh, .inr (3, [.ref hf, .int lm])), (hf, .inl (cI, 64, .inl ff)), (dr, .inr (2, [.ref dp, .ref dc, .int (nI n)])), (dp, .inl (cI, 8, .inl fp)), (dc, .inl (cI, 8, .inl fc))]) hD hS hA [4, 5, 1, 2, 3] rfl
    refine va_callv (va_runV (As := [.ref dr, .int p1, .int p2, .int sh]) (rest := []) ⟨hx, hb, hml, hown, hts⟩ (mz_l_seek l dC dI cI cJ cZ lh hf lm ff dr dp dc n fp fc p1 p2 sh s.heap.size (by first | assumption | omega)) (cwV 4 hts gX7_least_X3_seek rfl rfl rfl (by decide +kernel) ⟨Nat.le_of_ble_eq_true rfl, Nat.le_of_ble_eq_true rfl⟩) ⟨fun a U g mk q => mz_blI q, va_recv hK hPc (ci := 3) (q0 := 0) rfl rfl, fun U hU hW => ⟨rfl, by rw [hU], by rw [hU]; exact hPc, va_K.moved hW.alike hK, hDc.weaken (fun _ _ _ _ => trivial), mz_nw hW hN⟩⟩ rfl rfl hl.1 rfl (lv_room (Nat.le_of_ble_eq_true rfl)) dX7_least_25 ⟨Nat.le_of_ble_eq_true rfl, Nat.le_of_ble_eq_true rfl⟩) hS (fun q _ h => hFc q h) hFc (fun u t H1 locs ht hvm hw_25 hB hz1 hk1 hS => ?_)
    obtain ⟨gk_25, gf_25, hx0_25, hP1, hD1⟩ := hB
    rw [ht] at hP1
    obtain ⟨hP, hD⟩ := va_join (wr := [(mx, .inr (7, [.ref dr, .ref th, .ref bk, .ref wt, .ref tt, .ref lh, .ref la, .int sh, .long ab, .long be]))]) (w1 := [(lh, .inr (3, [.ref hf, .int (nI gk_25)])), (hf, .inl (cI, 64, .inl gf_25)), (dr, .inr (2, [.ref dp, .ref dc, .int (nI n)])), (dp, .inl (cI, 8, .inl fp)), (dc, .inl (cI, 8, .inl fc))]) hP hD [4, 5, 1, 2, 3] [0] rfl rfl (by decide) (by decide) hk1 hFc hP1 hD1
    generalize H1 = H at hP hS ⊢
    have hP : va_P (dC, dI) vwCl [(mx, .inr (7, [.ref dr, .ref th, .ref bk, .ref wt, .ref tt, .ref lh, .ref la, .int sh, .long ab, .long be])), (lh, .inr (3, [.ref hf, .int (nI gk_25)])), (hf, .inl (cI, 64, .inl gf_25)), (dr, .inr (2, [.ref dp, .ref dc, .int (nI n)])), (dp, .inl (cI, 8, .inl fp)), (dc, .inl (cI, 8, .inl fc))] H := hP
    have hD : va_D A [(mx, .inr (7, [.ref dr, .ref th, .ref bk, .ref wt, .ref tt, .ref lh, .ref la, .int sh, .long ab, .long be])), (lh, .inr (3, [.ref hf, .int (nI gk_25)])), (hf, .inl (cI, 64, .inl gf_25)), (dr, .inr (2, [.ref dp, .ref dc, .int (nI n)])), (dp, .inl (cI, 8, .inl fp)), (dc, .inl (cI, 8, .inl fc))] := hD
    refine lv_aload_n hx hb dX7_least_28 rfl (lv_at hl 0 rfl) ?_
    refine va_get (D := (dC, dI)) (ci := 7) (v := .ref lh) (C := RX7) (T := TX7) (N := 10) hx hb hts hiX7 hown hK hP 0 rfl rfl 5 (by decide) (hts (.fieldLink RX7 43 "MadeItSo" "leastHeaps" "LMadeItSo$LeastHeaps;") (by decide +kernel)) (fun _ h9 => h9) rfl dX7_least_29 ?_
    have hPc := hP.sub (ws' := [(lh, .inr (3, [.ref hf, .int (nI gk_25)]))]) [1] rfl
    refine va_calli (va_runV (As := []) (rest := []) ⟨hx, hb, hml, hown, hts⟩ (mz_l_size l dC dI cI cJ cZ lh hf (nI gk_25) H ) (cwV 0 hts gX7_least_X3_size rfl rfl rfl (by decide +kernel) ⟨Nat.le_of_ble_eq_true rfl, Nat.le_of_ble_eq_true rfl⟩) ⟨fun a U g mk q => mz_blP q, va_recv hK hPc (ci := 3) (q0 := 0) rfl rfl, fun U hU hW => ⟨rfl, hU, hPc, va_K.moved hW.alike hK, mz_nw hW hN⟩⟩ rfl rfl hl.1 rfl (lv_room (Nat.le_of_ble_eq_true rfl)) dX7_least_32 ⟨Nat.le_of_ble_eq_true rfl, Nat.le_of_ble_eq_true rfl⟩) hS (fun q _ h => h.elim) (fun q h => h.elim) (fun r_32 u t H1 locs ht hvm hw_32 hB hz1 hk1 hS => ?_)
    have hE : H = H1 := hB.symm.trans ht
    subst hE
    have hP9 := hP.sub (ws' := [(mx, .inr (7, [.ref dr, .ref th, .ref bk, .ref wt, .ref tt, .ref lh, .ref la, .int sh, .long ab, .long be])), (dr, .inr (2, [.ref dp, .ref dc, .int (nI n)])), (dp, .inl (cI, 8, .inl fp)), (dc, .inl (cI, 8, .inl fc)), (lh, .inr (3, [.ref hf, .int (nI gk_25)])), (hf, .inl (cI, 64, .inl gf_25))]) [0, 3, 4, 5, 1, 2] rfl
    have hD9 := hD.sub (ws' := [(mx, .inr (7, [.ref dr, .ref th, .ref bk, .ref wt, .ref tt, .ref lh, .ref la, .int sh, .long ab, .long be])), (dr, .inr (2, [.ref dp, .ref dc, .int (nI n)])), (dp, .inl (cI, 8, .inl fp)), (dc, .inl (cI, 8, .inl fc)), (lh, .inr (3, [.ref hf, .int (nI gk_25)])), (hf, .inl (cI, 64, .inl gf_25))]) [0, 3, 4, 5, 1, 2] (by decide) rfl
    refine W.widen (k := 0) (n := 0) (Nat.le_of_ble_eq_true rfl) (Nat.le_of_ble_eq_true rfl) ?_
    exact W.iret (v := r_32) hx hb hr (fun t ht hW => ⟨⟨r_32, (), rfl, trivial, (nI gk_25), gf_25, by rw [ht]; exact hP9, hD9⟩, hS.F ht⟩) hS.2.2 dX7_least_35
  · skip
    refine lv_iconst (v := (-1)) hx hb dX7_least_9 (by decide +kernel) ?_
    have hP9 := hP.sub (ws' := [(mx, .inr (7, [.ref dr, .ref th, .ref bk, .ref wt, .ref tt, .ref lh, .ref la, .int sh, .long ab, .long be])), (dr, .inr (2, [.ref dp, .ref dc, .int (nI n)])), (dp, .inl (cI, 8, .inl fp)), (dc, .inl (cI, 8, .inl fc)), (lh, .inr (3, [.ref hf, .int lm])), (hf, .inl (cI, 64, .inl ff))]) [0, 1, 2, 3, 4, 5] rfl
    have hD9 := hD.sub (ws' := [(mx, .inr (7, [.ref dr, .ref th, .ref bk, .ref wt, .ref tt, .ref lh, .ref la, .int sh, .long ab, .long be])), (dr, .inr (2, [.ref dp, .ref dc, .int (nI n)])), (dp, .inl (cI, 8, .inl fp)), (dc, .inl (cI, 8, .inl fc)), (lh, .inr (3, [.ref hf, .int lm])), (hf, .inl (cI, 64, .inl ff))]) [0, 1, 2, 3, 4, 5] (by decide) rfl
    refine W.widen (k := 0) (n := 0) (Nat.le_of_ble_eq_true rfl) (Nat.le_of_ble_eq_true rfl) ?_
    exact W.iret (v := (-1)) hx hb hr (fun t ht hW => ⟨⟨(-1), (), rfl, trivial, lm, ff, by rw [ht]; exact hP9, hD9⟩, hS.F ht⟩) hS.2.2 dX7_least_10
set_option maxHeartbeats 1000000 in
set_option maxRecDepth 100000 in
theorem mz_x_leastAt (l : Launch) (dC : Nat → ClassId) (dI : Nat → Nat → Nat) (cI cJ cZ : ClassId) (mx : Nat) (dr : Nat) (th : Nat) (bk : Nat) (wt : Nat) (tt : Nat) (lh : Nat) (la : Nat) (sh : Int32) (ab : Int64) (be : Int64) (dp : Nat) (dc : Nat) (n : Nat) (fp : Nat → Int32) (fc : Nat → Int32) (hf : Nat) (lm : Int32) (ff : Nat → Int32) (p1 : Int32) (p2 : Int32) (p3 : Int32) (sz : Nat) (hn : n ≤ 8) : Met l yX7_leastAt wsX7_leastAt ({ frames := 5, cells := 0, slots := 0, locals := 128 }) (va_Pc [.ref mx, .int p1, .int p2, .int p3] (fun U => U.heap.size = sz ∧ va_P (dC, dI) vwCl [(mx, .inr (7, [.ref dr, .ref th, .ref bk, .ref wt, .ref tt, .ref lh, .ref la, .int sh, .long ab, .long be])), (dr, .inr (2, [.ref dp, .ref dc, .int (nI n)])), (dp, .inl (cI, 8, .inl fp)), (dc, .inl (cI, 8, .inl fc)), (lh, .inr (3, [.ref hf, .int lm])), (hf, .inl (cI, 64, .inl ff))] U.heap ∧ va_K (dC, dI) vwCl [(cI, FieldType.int), (cJ, FieldType.long), (cZ, FieldType.boolean)] U ∧ va_D (fun _ => True) [(mx, .inr (7, [.ref dr, .ref th, .ref bk, .ref wt, .ref tt, .ref lh, .ref la, .int sh, .long ab, .long be])), (dr, .inr (2, [.ref dp, .ref dc, .int (nI n)])), (dp, .inl (cI, 8, .inl fp)), (dc, .inl (cI, 8, .inl fc)), (lh, .inr (3, [.ref hf, .int lm])), (hf, .inl (cI, 64, .inl ff))] ∧ mz_N U)) (va_Qi (fun (r : Int32) (_ : Unit) => True) (fun _ t => ∃ (gm : Int32), ∃ (gf : Nat → Int32), va_P (dC, dI) vwCl [(mx, .inr (7, [.ref dr, .ref th, .ref bk, .ref wt, .ref tt, .ref lh, .ref la, .int sh, .long ab, .long be])), (dr, .inr (2, [.ref dp, .ref dc, .int (nI n)])), (dp, .inl (cI, 8, .inl fp)), (dc, .inl (cI, 8, .inl fc)), (lh, .inr (3, [.ref hf, .int gm])), (hf, .inl (cI, 64, .inl gf))] t.heap ∧ va_D (va_A [(mx, .inr (7, [.ref dr, .ref th, .ref bk, .ref wt, .ref tt, .ref lh, .ref la, .int sh, .long ab, .long be])), (dr, .inr (2, [.ref dp, .ref dc, .int (nI n)])), (dp, .inl (cI, 8, .inl fp)), (dc, .inl (cI, 8, .inl fc)), (lh, .inr (3, [.ref hf, .int lm])), (hf, .inl (cI, 64, .inl ff))] sz) [(mx, .inr (7, [.ref dr, .ref th, .ref bk, .ref wt, .ref tt, .ref lh, .ref la, .int sh, .long ab, .long be])), (dr, .inr (2, [.ref dp, .ref dc, .int (nI n)])), (dp, .inl (cI, 8, .inl fp)), (dc, .inl (cI, 8, .inl fc)), (lh, .inr (3, [.ref hf, .int gm])), (hf, .inl (cI, 64, .inl gf))]) (va_A [(mx, .inr (7, [.ref dr, .ref th, .ref bk, .ref wt, .ref tt, .ref lh, .ref la, .int sh, .long ab, .long be])), (dr, .inr (2, [.ref dp, .ref dc, .int (nI n)])), (dp, .inl (cI, 8, .inl fp)), (dc, .inl (cI, 8, .inl fc)), (lh, .inr (3, [.ref hf, .int lm])), (hf, .inl (cI, 64, .inl ff))] sz)) 0 0 (va_A [(mx, .inr (7, [.ref dr, .ref th, .ref bk, .ref wt, .ref tt, .ref lh, .ref la, .int sh, .long ab, .long be])), (dr, .inr (2, [.ref dp, .ref dc, .int (nI n)])), (dp, .inl (cI, 8, .inl fp)), (dc, .inl (cI, 8, .inl fc)), (lh, .inr (3, [.ref hf, .int lm])), (hf, .inl (cI, 64, .inl ff))] sz) := by
  refine Met.ofW (cc := cX7_leastAt) (maxL := 4) (ret := (some .int)) (by decide) rfl ?_
  intro p e s m args below meth c s₁ B hml hv
  obtain ⟨rfl, hsz, hP, hK, hD0, hN⟩ := hv
  subst hsz
  have hx := B.exec
  have hb := B.bytes
  have hr := B.returns
  have hts := atoms_spec (ws := wsX7_leastAt) B.pre
  have hown : s.vm.findClass RX7 = some m.cls := findClass_of_methodNamed B.named
  have hlocks := B.notSynchronized
  have hD := hD0.self (sz := s.heap.size)
  generalize hAe : va_A [(mx, .inr (7, [.ref dr, .ref th, .ref bk, .ref wt, .ref tt, .ref lh, .ref la, .int sh, .long ab, .long be])), (dr, .inr (2, [.ref dp, .ref dc, .int (nI n)])), (dp, .inl (cI, 8, .inl fp)), (dc, .inl (cI, 8, .inl fc)), (lh, .inr (3, [.ref hf, .int lm])), (hf, .inl (cI, 64, .inl ff))] s.heap.size = A at hD ⊢
  have hA : ∀ q : Nat, s.heap.size ≤ q → A q := fun q h => by rw [← hAe]; exact Or.inr h
  have hS : va_S A s.heap s.heap [] := va_S.rf
  have hiX7 : ∀ w ∈ u_ws RX7 TX7 10, w ∈ wsX7_leastAt := by decide +kernel
  have hl := lv_entry ([.ref mx, .int p1, .int p2, .int p3]) (n := 4) (Nat.le_of_ble_eq_true rfl)
  rw [lg_entry_eq]
  generalize (lg_sl ([.ref mx, .int p1, .int p2, .int p3]) ++ List.replicate (4 - (lg_sl ([.ref mx, .int p1, .int p2, .int p3])).length) Slot.unset).toArray = ls at hl ⊢
  have hl : lv_has ls 4 [(0, .ref mx), (1, .int p1), (2, .int p2), (3, .int p3)] := hl
  refine lv_aload_n hx hb dX7_leastAt_0 rfl (lv_at hl 0 rfl) ?_
  refine lv_iload_n hx hb dX7_leastAt_1 rfl (lv_at hl 1 rfl) ?_
  refine lv_iload_n hx hb dX7_leastAt_2 rfl (lv_at hl 2 rfl) ?_
  have hPc := hP.sub (ws' := [(mx, .inr (7, [.ref dr, .ref th, .ref bk, .ref wt, .ref tt, .ref lh, .ref la, .int sh, .long ab, .long be])), (dr, .inr (2, [.ref dp, .ref dc, .int (nI n)]))]) [0, 1] rfl
  refine va_calli (va_runV (As := [.int p1, .int p2]) (rest := []) ⟨hx, hb, hml, hown, hts⟩ (mz_x_areTwo l dC dI cI cJ cZ mx dr th bk wt tt lh la sh ab be dp dc n p1 p2 s.heap (by first | assumption | omega)) (cwV 2 hts gX7_leastAt_X7_areTwo rfl rfl rfl (by decide +kernel) ⟨Nat.le_of_ble_eq_true rfl, Nat.le_of_ble_eq_true rfl⟩) ⟨fun a U g mk q => mz_blP q, va_recv hK hPc (ci := 7) (q0 := 0) rfl rfl, fun U hU hW => ⟨rfl, hU, hPc, va_K.moved hW.alike hK, mz_nw hW hN⟩⟩ rfl rfl hl.1 rfl (lv_room (Nat.le_of_ble_eq_true rfl)) dX7_leastAt_3 ⟨Nat.le_of_ble_eq_true rfl, Nat.le_of_ble_eq_true rfl⟩) hS (fun q _ h => h.elim) (fun q h => h.elim) (fun r_3 u t H1 locs ht hvm hw_3 hB hz1 hk1 hS => ?_)
  have hE : s.heap = H1 := hB.symm.trans ht
  subst hE
  refine lv_if_ne (tgt := 11) hx hb dX7_leastAt_6 (by decide) (fun c_6 => ?_) (fun c_6 => ?_)
  · skip
    refine lv_aload_n hx hb dX7_leastAt_11 rfl (lv_at hl 0 rfl) ?_
    refine va_get (D := (dC, dI)) (ci := 7) (v := .ref lh) (C := RX7) (T := TX7) (N := 10) hx hb hts hiX7 hown hK hP 0 rfl rfl 5 (by decide) (hts (.fieldLink RX7 43 "MadeItSo" "leastHeaps" "LMadeItSo$LeastHeaps;") (by decide +kernel)) (fun _ h9 => h9) rfl dX7_leastAt_12 ?_
    refine lv_aload_n hx hb dX7_leastAt_15 rfl (lv_at hl 0 rfl) ?_
    refine va_get (D := (dC, dI)) (ci := 7) (v := .ref dr) (C := RX7) (T := TX7) (N := 10) hx hb hts hiX7 hown hK hP 0 rfl rfl 0 (by decide) (hts (.fieldLink RX7 12 "MadeItSo" "drawing" "LMadeItSo$Drawing;") (by decide +kernel)) (fun _ h9 => h9) rfl dX7_leastAt_16 ?_
    refine lv_iload_n hx hb dX7_leastAt_19 rfl (lv_at hl 1 rfl) ?_
    refine lv_iload_n hx hb dX7_leastAt_20 rfl (lv_at hl 2 rfl) ?_
    refine lv_aload_n hx hb dX7_leastAt_21 rfl (lv_at hl 0 rfl) ?_
    refine va_get (D := (dC, dI)) (ci := 7) (v := .int sh) (C := RX7) (T := TX7) (N := 10) hx hb hts hiX7 hown hK hP 0 rfl rfl 7 (by decide) (hts (.fieldLink RX7 54 "MadeItSo" "seenHeap" "I") (by decide +kernel)) (fun _ h9 => h9) rfl dX7_leastAt_22 ?_
    have hPc := hP.sub (ws' := [(lh, .inr (3, [.ref hf, .int lm])), (hf, .inl (cI, 64, .inl ff)), (dr, .inr (2, [.ref dp, .ref dc, .int (nI n)])), (dp, .inl (cI, 8, .inl fp)), (dc, .inl (cI, 8, .inl fc))]) [4, 5, 1, 2, 3] rfl
    have hDc := hD.sub (ws' := [(lh, .inr (3, [.ref hf, .int lm])), (hf, .inl (cI, 64, .inl ff)), (dr, .inr (2, [.ref dp, .ref dc, .int (nI n)])), (dp, .inl (cI, 8, .inl fp)), (dc, .inl (cI, 8, .inl fc))]) [4, 5, 1, 2, 3] (by decide) rfl
    have hFc := va_free (wc := [(lh, .inr (3, [.ref hf, .int lm])), (hf, .inl (cI, 64, .inl ff)), (dr, .inr (2, [.ref dp, .ref dc, .int (nI n)])), (dp, .inl (cI, 8, .inl fp)), (dc, .inl (cI, 8, .inl fc))]) hD hS hA [4, 5, 1, 2, 3] rfl
    refine va_callv (va_runV (As := [.ref dr, .int p1, .int p2, .int sh]) (rest := []) ⟨hx, hb, hml, hown, hts⟩ (mz_l_seek l dC dI cI cJ cZ lh hf lm ff dr dp dc n fp fc p1 p2 sh s.heap.size (by first | assumption | omega)) (cwV 4 hts gX7_leastAt_X3_seek rfl rfl rfl (by decide +kernel) ⟨Nat.le_of_ble_eq_true rfl, Nat.le_of_ble_eq_true rfl⟩) ⟨fun a U g mk q => mz_blI q, va_recv hK hPc (ci := 3) (q0 := 0) rfl rfl, fun U hU hW => ⟨rfl, by rw [hU], by rw [hU]; exact hPc, va_K.moved hW.alike hK, hDc.weaken (fun _ _ _ _ => trivial), mz_nw hW hN⟩⟩ rfl rfl hl.1 rfl (lv_room (Nat.le_of_ble_eq_true rfl)) dX7_leastAt_25 ⟨Nat.le_of_ble_eq_true rfl, Nat.le_of_ble_eq_true rfl⟩) hS (fun q _ h => hFc q h) hFc (fun u t H1 locs ht hvm hw_25 hB hz1 hk1 hS => ?_)
    obtain ⟨gk_25, gf_25, hx0_25, hP1, hD1⟩ := hB
    rw [ht] at hP1
    obtain ⟨hP, hD⟩ := va_join (wr := [(mx, .inr (7, [.ref dr, .ref th, .ref bk, .ref wt, .ref tt, .ref lh, .ref la, .int sh, .long ab, .long be]))]) (w1 := [(lh, .inr (3, [.ref hf, .int (nI gk_25)])), (hf, .inl (cI, 64, .inl gf_25)), (dr, .inr (2, [.ref dp, .ref dc, .int (nI n)])), (dp, .inl (cI, 8, .inl fp)), (dc, .inl (cI, 8, .inl fc))]) hP hD [4, 5, 1, 2, 3] [0] rfl rfl (by decide) (by decide) hk1 hFc hP1 hD1
    generalize H1 = H at hP hS ⊢
    have hP : va_P (dC, dI) vwCl [(mx, .inr (7, [.ref dr, .ref th, .ref bk, .ref wt, .ref tt, .ref lh, .ref la, .int sh, .long ab, .long be])), (lh, .inr (3, [.ref hf, .int (nI gk_25)])), (hf, .inl (cI, 64, .inl gf_25)), (dr, .inr (2, [.ref dp, .ref dc, .int (nI n)])), (dp, .inl (cI, 8, .inl fp)), (dc, .inl (cI, 8, .inl fc))] H := hP
    have hD : va_D A [(mx, .inr (7, [.ref dr, .ref th, .ref bk, .ref wt, .ref tt, .ref lh, .ref la, .int sh, .long ab, .long be])), (lh, .inr (3, [.ref hf, .int (nI gk_25)])), (hf, .inl (cI, 64, .inl gf_25)), (dr, .inr (2, [.ref dp, .ref dc, .int (nI n)])), (dp, .inl (cI, 8, .inl fp)), (dc, .inl (cI, 8, .inl fc))] := hD
    refine lv_aload_n hx hb dX7_leastAt_28 rfl (lv_at hl 0 rfl) ?_
    refine va_get (D := (dC, dI)) (ci := 7) (v := .ref lh) (C := RX7) (T := TX7) (N := 10) hx hb hts hiX7 hown hK hP 0 rfl rfl 5 (by decide) (hts (.fieldLink RX7 43 "MadeItSo" "leastHeaps" "LMadeItSo$LeastHeaps;") (by decide +kernel)) (fun _ h9 => h9) rfl dX7_leastAt_29 ?_
    refine lv_iload_n hx hb dX7_leastAt_32 rfl (lv_at hl 3 rfl) ?_
    have hPc := hP.sub (ws' := [(lh, .inr (3, [.ref hf, .int (nI gk_25)])), (hf, .inl (cI, 64, .inl gf_25))]) [1, 2] rfl
    refine va_calli (va_runV (As := [.int p3]) (rest := []) ⟨hx, hb, hml, hown, hts⟩ (mz_l_at l dC dI cI cJ cZ lh hf (nI gk_25) gf_25 p3 H ) (cwV 1 hts gX7_leastAt_X3_at rfl rfl rfl (by decide +kernel) ⟨Nat.le_of_ble_eq_true rfl, Nat.le_of_ble_eq_true rfl⟩) ⟨fun a U g mk q => mz_blP q, va_recv hK hPc (ci := 3) (q0 := 0) rfl rfl, fun U hU hW => ⟨rfl, hU, hPc, va_K.moved hW.alike hK, mz_nw hW hN⟩⟩ rfl rfl hl.1 rfl (lv_room (Nat.le_of_ble_eq_true rfl)) dX7_leastAt_33 ⟨Nat.le_of_ble_eq_true rfl, Nat.le_of_ble_eq_true rfl⟩) hS (fun q _ h => h.elim) (fun q h => h.elim) (fun r_33 u t H1 locs ht hvm hw_33 hB hz1 hk1 hS => ?_)
    have hE : H = H1 := hB.symm.trans ht
    subst hE
    have hP9 := hP.sub (ws' := [(mx, .inr (7, [.ref dr, .ref th, .ref bk, .ref wt, .ref tt, .ref lh, .ref la, .int sh, .long ab, .long be])), (dr, .inr (2, [.ref dp, .ref dc, .int (nI n)])), (dp, .inl (cI, 8, .inl fp)), (dc, .inl (cI, 8, .inl fc)), (lh, .inr (3, [.ref hf, .int (nI gk_25)])), (hf, .inl (cI, 64, .inl gf_25))]) [0, 3, 4, 5, 1, 2] rfl
    have hD9 := hD.sub (ws' := [(mx, .inr (7, [.ref dr, .ref th, .ref bk, .ref wt, .ref tt, .ref lh, .ref la, .int sh, .long ab, .long be])), (dr, .inr (2, [.ref dp, .ref dc, .int (nI n)])), (dp, .inl (cI, 8, .inl fp)), (dc, .inl (cI, 8, .inl fc)), (lh, .inr (3, [.ref hf, .int (nI gk_25)])), (hf, .inl (cI, 64, .inl gf_25))]) [0, 3, 4, 5, 1, 2] (by decide) rfl
    refine W.widen (k := 0) (n := 0) (Nat.le_of_ble_eq_true rfl) (Nat.le_of_ble_eq_true rfl) ?_
    exact W.iret (v := r_33) hx hb hr (fun t ht hW => ⟨⟨r_33, (), rfl, trivial, (nI gk_25), gf_25, by rw [ht]; exact hP9, hD9⟩, hS.F ht⟩) hS.2.2 dX7_leastAt_36
  · skip
    refine lv_iconst (v := (-1)) hx hb dX7_leastAt_9 (by decide +kernel) ?_
    have hP9 := hP.sub (ws' := [(mx, .inr (7, [.ref dr, .ref th, .ref bk, .ref wt, .ref tt, .ref lh, .ref la, .int sh, .long ab, .long be])), (dr, .inr (2, [.ref dp, .ref dc, .int (nI n)])), (dp, .inl (cI, 8, .inl fp)), (dc, .inl (cI, 8, .inl fc)), (lh, .inr (3, [.ref hf, .int lm])), (hf, .inl (cI, 64, .inl ff))]) [0, 1, 2, 3, 4, 5] rfl
    have hD9 := hD.sub (ws' := [(mx, .inr (7, [.ref dr, .ref th, .ref bk, .ref wt, .ref tt, .ref lh, .ref la, .int sh, .long ab, .long be])), (dr, .inr (2, [.ref dp, .ref dc, .int (nI n)])), (dp, .inl (cI, 8, .inl fp)), (dc, .inl (cI, 8, .inl fc)), (lh, .inr (3, [.ref hf, .int lm])), (hf, .inl (cI, 64, .inl ff))]) [0, 1, 2, 3, 4, 5] (by decide) rfl
    refine W.widen (k := 0) (n := 0) (Nat.le_of_ble_eq_true rfl) (Nat.le_of_ble_eq_true rfl) ?_
    exact W.iret (v := (-1)) hx hb hr (fun t ht hW => ⟨⟨(-1), (), rfl, trivial, lm, ff, by rw [ht]; exact hP9, hD9⟩, hS.F ht⟩) hS.2.2 dX7_leastAt_10
set_option maxHeartbeats 1000000 in
set_option maxRecDepth 100000 in
theorem mz_d_copyWithout (l : Launch) (dC : Nat → ClassId) (dI : Nat → Nat → Nat) (cI cJ cZ : ClassId) (th : Nat) (tp : Nat) (tc : Nat) (tn : Int32) (ftp : Nat → Int32) (ftc : Nat → Int32) (dr : Nat) (dp : Nat) (dc : Nat) (n : Nat) (fp : Nat → Int32) (fc : Nat → Int32) (p1 : Int32) (p2 : Int32) (sz : Nat)  : Met l yX2_copyWithout wsX2_copyWithout ({ frames := 1, cells := 0, slots := 0, locals := 21 }) (va_Pc [.ref th, .ref dr, .int p1, .int p2] (fun U => U.heap.size = sz ∧ va_P (dC, dI) vwCl [(th, .inr (2, [.ref tp, .ref tc, .int tn])), (tp, .inl (cI, 8, .inl ftp)), (tc, .inl (cI, 8, .inl ftc)), (dr, .inr (2, [.ref dp, .ref dc, .int (nI n)])), (dp, .inl (cI, 8, .inl fp)), (dc, .inl (cI, 8, .inl fc))] U.heap ∧ va_K (dC, dI) vwCl [(cI, FieldType.int), (cJ, FieldType.long), (cZ, FieldType.boolean)] U ∧ va_D (fun _ => True) [(th, .inr (2, [.ref tp, .ref tc, .int tn])), (tp, .inl (cI, 8, .inl ftp)), (tc, .inl (cI, 8, .inl ftc)), (dr, .inr (2, [.ref dp, .ref dc, .int (nI n)])), (dp, .inl (cI, 8, .inl fp)), (dc, .inl (cI, 8, .inl fc))] ∧ mz_N U)) (va_Qv (fun (_ : Unit) => True) (fun _ t => ∃ (gtp : Nat → Int32), ∃ (gtc : Nat → Int32), va_P (dC, dI) vwCl [(th, .inr (2, [.ref tp, .ref tc, .int (nI n)])), (tp, .inl (cI, 8, .inl gtp)), (tc, .inl (cI, 8, .inl gtc)), (dr, .inr (2, [.ref dp, .ref dc, .int (nI n)])), (dp, .inl (cI, 8, .inl fp)), (dc, .inl (cI, 8, .inl fc))] t.heap ∧ va_D (va_A [(th, .inr (2, [.ref tp, .ref tc, .int tn])), (tp, .inl (cI, 8, .inl ftp)), (tc, .inl (cI, 8, .inl ftc)), (dr, .inr (2, [.ref dp, .ref dc, .int (nI n)])), (dp, .inl (cI, 8, .inl fp)), (dc, .inl (cI, 8, .inl fc))] sz) [(th, .inr (2, [.ref tp, .ref tc, .int (nI n)])), (tp, .inl (cI, 8, .inl gtp)), (tc, .inl (cI, 8, .inl gtc)), (dr, .inr (2, [.ref dp, .ref dc, .int (nI n)])), (dp, .inl (cI, 8, .inl fp)), (dc, .inl (cI, 8, .inl fc))]) (va_A [(th, .inr (2, [.ref tp, .ref tc, .int tn])), (tp, .inl (cI, 8, .inl ftp)), (tc, .inl (cI, 8, .inl ftc)), (dr, .inr (2, [.ref dp, .ref dc, .int (nI n)])), (dp, .inl (cI, 8, .inl fp)), (dc, .inl (cI, 8, .inl fc))] sz)) 0 0 (va_A [(th, .inr (2, [.ref tp, .ref tc, .int tn])), (tp, .inl (cI, 8, .inl ftp)), (tc, .inl (cI, 8, .inl ftc)), (dr, .inr (2, [.ref dp, .ref dc, .int (nI n)])), (dp, .inl (cI, 8, .inl fp)), (dc, .inl (cI, 8, .inl fc))] sz) := by
  refine Met.ofW (cc := cX2_copyWithout) (maxL := 5) (ret := none) (by decide) rfl ?_
  intro p e s m args below meth c s₁ B hml hv
  obtain ⟨rfl, hsz, hP, hK, hD0, hN⟩ := hv
  subst hsz
  have hx := B.exec
  have hb := B.bytes
  have hr := B.returns
  have hts := atoms_spec (ws := wsX2_copyWithout) B.pre
  have hown : s.vm.findClass RX2 = some m.cls := findClass_of_methodNamed B.named
  have hlocks := B.notSynchronized
  have hD := hD0.self (sz := s.heap.size)
  generalize hAe : va_A [(th, .inr (2, [.ref tp, .ref tc, .int tn])), (tp, .inl (cI, 8, .inl ftp)), (tc, .inl (cI, 8, .inl ftc)), (dr, .inr (2, [.ref dp, .ref dc, .int (nI n)])), (dp, .inl (cI, 8, .inl fp)), (dc, .inl (cI, 8, .inl fc))] s.heap.size = A at hD ⊢
  have hA : ∀ q : Nat, s.heap.size ≤ q → A q := fun q h => by rw [← hAe]; exact Or.inr h
  have hS : va_S A s.heap s.heap [] := va_S.rf
  have hiX2 : ∀ w ∈ u_ws RX2 TX2 3, w ∈ wsX2_copyWithout := by decide +kernel
  have hl := lv_entry ([.ref th, .ref dr, .int p1, .int p2]) (n := 5) (Nat.le_of_ble_eq_true rfl)
  rw [lg_entry_eq]
  generalize (lg_sl ([.ref th, .ref dr, .int p1, .int p2]) ++ List.replicate (5 - (lg_sl ([.ref th, .ref dr, .int p1, .int p2])).length) Slot.unset).toArray = ls at hl ⊢
  have hl : lv_has ls 5 [(0, .ref th), (1, .ref dr), (2, .int p1), (3, .int p2)] := hl
  refine lv_aload_n hx hb dX2_copyWithout_0 rfl (lv_at hl 0 rfl) ?_
  refine lv_aload_n hx hb dX2_copyWithout_1 rfl (lv_at hl 1 rfl) ?_
  refine va_get (D := (dC, dI)) (ci := 2) (v := .int (nI n)) (C := RX2) (T := TX2) (N := 3) hx hb hts hiX2 hown hK hP 3 rfl rfl 2 (by decide) (hts (.fieldLink RX2 18 "MadeItSo$Drawing" "things" "I") (by decide +kernel)) (fun _ h9 => h9) rfl dX2_copyWithout_2 ?_
  refine va_put (D := (dC, dI)) (ci := 2) (v := .int (nI n)) (ty := .int) (C := RX2) (T := TX2) (N := 3) hx hb hts hiX2 tyX2 tyX2_ok nmX2 hown hK hP hD hS 0 rfl rfl 2 (by decide) (hts (.fieldLink RX2 18 "MadeItSo$Drawing" "things" "I") (by decide +kernel)) (fun _ h9 => h9) rfl (by decide +kernel) rfl rfl (Nat.le_of_ble_eq_true rfl) dX2_copyWithout_5 (fun H locs hP hD hS => ?_)
  have hP : va_P (dC, dI) vwCl [(th, .inr (2, [.ref tp, .ref tc, .int (nI n)])), (tp, .inl (cI, 8, .inl ftp)), (tc, .inl (cI, 8, .inl ftc)), (dr, .inr (2, [.ref dp, .ref dc, .int (nI n)])), (dp, .inl (cI, 8, .inl fp)), (dc, .inl (cI, 8, .inl fc))] H := hP
  have hD : va_D A [(th, .inr (2, [.ref tp, .ref tc, .int (nI n)])), (tp, .inl (cI, 8, .inl ftp)), (tc, .inl (cI, 8, .inl ftc)), (dr, .inr (2, [.ref dp, .ref dc, .int (nI n)])), (dp, .inl (cI, 8, .inl fp)), (dc, .inl (cI, 8, .inl fc))] := hD
  refine lv_iconst (v := 0) hx hb dX2_copyWithout_8 (by decide +kernel) ?_
  refine lv_istore (lv' := [(4, .int 0), (0, .ref th), (1, .ref dr), (2, .int p1), (3, .int p2)]) hx hb dX2_copyWithout_9 hl (by decide) rfl (fun ls hl => ?_)
  refine mz_loopU (fun k H locs ls => ∃ (i_11 : Nat), ∃ (ftp_11 : Nat → Int32), ∃ (ftc_11 : Nat → Int32), i_11 ≤ 8 ∧ va_P (dC, dI) vwCl [(th, .inr (2, [.ref tp, .ref tc, .int (nI n)])), (tp, .inl (cI, 8, .inl ftp_11)), (tc, .inl (cI, 8, .inl ftc_11)), (dr, .inr (2, [.ref dp, .ref dc, .int (nI n)])), (dp, .inl (cI, 8, .inl fp)), (dc, .inl (cI, 8, .inl fc))] H ∧ va_D A [(th, .inr (2, [.ref tp, .ref tc, .int (nI n)])), (tp, .inl (cI, 8, .inl ftp_11)), (tc, .inl (cI, 8, .inl ftc_11)), (dr, .inr (2, [.ref dp, .ref dc, .int (nI n)])), (dp, .inl (cI, 8, .inl fp)), (dc, .inl (cI, 8, .inl fc))] ∧ va_S A s.heap H locs ∧ lv_has ls 5 [(4, .int (nI i_11)), (0, .ref th), (1, .ref dr), (2, .int p1), (3, .int p2)] ∧ k = 8 - i_11) ?_ _ _ _ _ ⟨0, ftp, ftc, by omega, hP, hD, hS, lv_sub hl [0, 1, 2, 3, 4] rfl, rfl⟩
  intro k_11 H locs ls hI_11 ih_11
  obtain ⟨i_11, ftp_11, ftc_11, hi_11, hP, hD, hS, hl, hk_11⟩ := hI_11
  refine lv_iload hx hb dX2_copyWithout_11 (lv_at hl 0 rfl) ?_
  refine lv_bipush (v := 8) hx hb dX2_copyWithout_13 (by decide +kernel) ?_
  refine lv_icmp_ge (tgt := 98) hx hb dX2_copyWithout_15 (by decide) (fun c_15 => ?_) (fun c_15 => ?_)
  · skip
    have d_15 : 8 ≤ i_11 := (nI_leI (a := 8) (b := i_11) (by omega) (by omega)).mp c_15
    have hP9 := hP.sub (ws' := [(th, .inr (2, [.ref tp, .ref tc, .int (nI n)])), (tp, .inl (cI, 8, .inl ftp_11)), (tc, .inl (cI, 8, .inl ftc_11)), (dr, .inr (2, [.ref dp, .ref dc, .int (nI n)])), (dp, .inl (cI, 8, .inl fp)), (dc, .inl (cI, 8, .inl fc))]) [0, 1, 2, 3, 4, 5] rfl
    have hD9 := hD.sub (ws' := [(th, .inr (2, [.ref tp, .ref tc, .int (nI n)])), (tp, .inl (cI, 8, .inl ftp_11)), (tc, .inl (cI, 8, .inl ftc_11)), (dr, .inr (2, [.ref dp, .ref dc, .int (nI n)])), (dp, .inl (cI, 8, .inl fp)), (dc, .inl (cI, 8, .inl fc))]) [0, 1, 2, 3, 4, 5] (by decide) rfl
    refine W.widen (k := 0) (n := 0) (Nat.le_of_ble_eq_true rfl) (Nat.le_of_ble_eq_true rfl) ?_
    exact W.vret hx hb hr (fun t ht hW => ⟨⟨(), rfl, trivial, ftp_11, ftc_11, by rw [ht]; exact hP9, hD9⟩, hS.F ht⟩) hS.2.2 dX2_copyWithout_98
  · skip
    have d_15 : ¬ 8 ≤ i_11 := fun h => c_15 ((nI_leI (a := 8) (b := i_11) (by omega) (by omega)).mpr h)
    refine lv_aload_n hx hb dX2_copyWithout_18 rfl (lv_at hl 1 rfl) ?_
    refine va_get (D := (dC, dI)) (ci := 2) (v := .ref tp) (C := RX2) (T := TX2) (N := 3) hx hb hts hiX2 hown hK hP 0 rfl rfl 0 (by decide) (hts (.fieldLink RX2 9 "MadeItSo$Drawing" "parents" "[I") (by decide +kernel)) (fun _ h9 => h9) rfl dX2_copyWithout_19 ?_
    refine lv_iload hx hb dX2_copyWithout_22 (lv_at hl 0 rfl) ?_
    refine lv_iload_n hx hb dX2_copyWithout_24 rfl (lv_at hl 4 rfl) ?_
    refine lv_iload hx hb dX2_copyWithout_25 (lv_at hl 0 rfl) ?_
    have hPc := hP.sub (ws' := []) [] rfl
    refine va_calli (va_runSN (As := [.int p2, .int (nI i_11)]) (rest := [.int (nI i_11), .ref tp]) ⟨hx, hb, hml, hown, hts⟩ (mz_g_inHeap l dC dI cI cJ cZ p2 (nI i_11) H ) ⟨va_cnB (host := "MadeItSo") 2 hts gX2_copyWithout_X7_inHeap_n26 rfl rfl rfl (hN (RX2, 26, yX7_inHeap, "MadeItSo") (by decide +kernel)) (hts (.initialized RX7) (by decide +kernel)) (by decide +kernel) ⟨Nat.le_of_ble_eq_true rfl, Nat.le_of_ble_eq_true rfl⟩, hts (.static yX7_inHeap) (by decide +kernel), trivial⟩ ⟨fun a U g mk q => mz_blP q, fun U hU hW => ⟨rfl, hU, hPc, va_K.moved hW.alike hK, mz_nw hW hN⟩⟩ rfl rfl hl.1 rfl (lv_room (Nat.le_of_ble_eq_true rfl)) dX2_copyWithout_27 ⟨Nat.le_of_ble_eq_true rfl, Nat.le_of_ble_eq_true rfl⟩) hS (fun q _ h => h.elim) (fun q h => h.elim) (fun r_27 u t H1 locs ht hvm hw_27 hB hz1 hk1 hS => ?_)
    have hE : H = H1 := hB.symm.trans ht
    subst hE
    refine lv_if_eq (tgt := 50) hx hb dX2_copyWithout_30 (by decide) (fun c_30 => ?_) (fun c_30 => ?_)
    · skip
      refine lv_aload_n hx hb dX2_copyWithout_50 rfl (lv_at hl 2 rfl) ?_
      refine va_get (D := (dC, dI)) (ci := 2) (v := .ref dp) (C := RX2) (T := TX2) (N := 3) hx hb hts hiX2 hown hK hP 3 rfl rfl 0 (by decide) (hts (.fieldLink RX2 9 "MadeItSo$Drawing" "parents" "[I") (by decide +kernel)) (fun _ h9 => h9) rfl dX2_copyWithout_51 ?_
      refine lv_iload hx hb dX2_copyWithout_54 (lv_at hl 0 rfl) ?_
      refine va_iald hx hb hK hP 4 0 rfl rfl (vp_in_nI (by omega) (by omega)) dX2_copyWithout_56 ?_
      refine lv_topi (fun v_56 ev_56 => ?_)
      refine va_iast hx hb hK hP hD hS 1 0 rfl rfl (vp_in_nI (by omega) (by omega)) dX2_copyWithout_57 (fun H locs hP hD hS => ?_)
      have hP : va_P (dC, dI) vwCl [(th, .inr (2, [.ref tp, .ref tc, .int (nI n)])), (tp, .inl (cI, 8, .inl (upd ftp_11 ((nI i_11) : Int32).toNatClampNeg v_56))), (tc, .inl (cI, 8, .inl ftc_11)), (dr, .inr (2, [.ref dp, .ref dc, .int (nI n)])), (dp, .inl (cI, 8, .inl fp)), (dc, .inl (cI, 8, .inl fc))] H := hP
      have hD : va_D A [(th, .inr (2, [.ref tp, .ref tc, .int (nI n)])), (tp, .inl (cI, 8, .inl (upd ftp_11 ((nI i_11) : Int32).toNatClampNeg v_56))), (tc, .inl (cI, 8, .inl ftc_11)), (dr, .inr (2, [.ref dp, .ref dc, .int (nI n)])), (dp, .inl (cI, 8, .inl fp)), (dc, .inl (cI, 8, .inl fc))] := hD
      generalize (upd ftp_11 ((nI i_11) : Int32).toNatClampNeg v_56) = f_57 at hP hD
      refine lv_aload_n hx hb dX2_copyWithout_58 rfl (lv_at hl 1 rfl) ?_
      refine va_get (D := (dC, dI)) (ci := 2) (v := .ref tc) (C := RX2) (T := TX2) (N := 3) hx hb hts hiX2 hown hK hP 0 rfl rfl 1 (by decide) (hts (.fieldLink RX2 15 "MadeItSo$Drawing" "children" "[I") (by decide +kernel)) (fun _ h9 => h9) rfl dX2_copyWithout_59 ?_
      refine lv_iload hx hb dX2_copyWithout_62 (lv_at hl 0 rfl) ?_
      refine lv_iload hx hb dX2_copyWithout_64 (lv_at hl 0 rfl) ?_
      refine lv_iload_n hx hb dX2_copyWithout_66 rfl (lv_at hl 3 rfl) ?_
      refine lv_icmp_ne (tgt := 84) hx hb dX2_copyWithout_67 (by decide) (fun c_67 => ?_) (fun c_67 => ?_)
      · skip
        refine lv_aload_n hx hb dX2_copyWithout_84 rfl (lv_at hl 2 rfl) ?_
        refine va_get (D := (dC, dI)) (ci := 2) (v := .ref dc) (C := RX2) (T := TX2) (N := 3) hx hb hts hiX2 hown hK hP 3 rfl rfl 1 (by decide) (hts (.fieldLink RX2 15 "MadeItSo$Drawing" "children" "[I") (by decide +kernel)) (fun _ h9 => h9) rfl dX2_copyWithout_85 ?_
        refine lv_iload hx hb dX2_copyWithout_88 (lv_at hl 0 rfl) ?_
        refine va_iald hx hb hK hP 5 0 rfl rfl (vp_in_nI (by omega) (by omega)) dX2_copyWithout_90 ?_
        refine lv_topi (fun v_90 ev_90 => ?_)
        refine va_iast hx hb hK hP hD hS 2 0 rfl rfl (vp_in_nI (by omega) (by omega)) dX2_copyWithout_91 (fun H locs hP hD hS => ?_)
        have hP : va_P (dC, dI) vwCl [(th, .inr (2, [.ref tp, .ref tc, .int (nI n)])), (tp, .inl (cI, 8, .inl f_57)), (tc, .inl (cI, 8, .inl (upd ftc_11 ((nI i_11) : Int32).toNatClampNeg v_90))), (dr, .inr (2, [.ref dp, .ref dc, .int (nI n)])), (dp, .inl (cI, 8, .inl fp)), (dc, .inl (cI, 8, .inl fc))] H := hP
        have hD : va_D A [(th, .inr (2, [.ref tp, .ref tc, .int (nI n)])), (tp, .inl (cI, 8, .inl f_57)), (tc, .inl (cI, 8, .inl (upd ftc_11 ((nI i_11) : Int32).toNatClampNeg v_90))), (dr, .inr (2, [.ref dp, .ref dc, .int (nI n)])), (dp, .inl (cI, 8, .inl fp)), (dc, .inl (cI, 8, .inl fc))] := hD
        generalize (upd ftc_11 ((nI i_11) : Int32).toNatClampNeg v_90) = f_91 at hP hD
        refine lv_iinc (v := (nI (i_11 + 1))) (lv' := [(4, .int (nI (i_11 + 1))), (0, .ref th), (1, .ref dr), (2, .int p1), (3, .int p2)]) hx hb dX2_copyWithout_92 hl (k := 0) rfl (nI_1 _) (by decide) rfl (fun ls hl => ?_)
        refine lv_goto (tgt := 11) hx hb dX2_copyWithout_95 (by decide) ?_
        exact ih_11 _ (by omega) _ _ _ ⟨(i_11 + 1), f_57, f_91, by omega, hP, hD, hS, lv_sub hl [0, 1, 2, 3, 4] rfl, rfl⟩
      · skip
        refine lv_aload_n hx hb dX2_copyWithout_70 rfl (lv_at hl 2 rfl) ?_
        refine va_get (D := (dC, dI)) (ci := 2) (v := .ref dc) (C := RX2) (T := TX2) (N := 3) hx hb hts hiX2 hown hK hP 3 rfl rfl 1 (by decide) (hts (.fieldLink RX2 15 "MadeItSo$Drawing" "children" "[I") (by decide +kernel)) (fun _ h9 => h9) rfl dX2_copyWithout_71 ?_
        refine lv_iload hx hb dX2_copyWithout_74 (lv_at hl 0 rfl) ?_
        refine va_iald hx hb hK hP 5 0 rfl rfl (vp_in_nI (by omega) (by omega)) dX2_copyWithout_76 ?_
        refine lv_topi (fun v_76 ev_76 => ?_)
        refine lv_iload_n hx hb dX2_copyWithout_77 rfl (lv_at hl 4 rfl) ?_
        refine lv_iconst (v := (-1)) hx hb dX2_copyWithout_78 (by decide +kernel) ?_
        refine lv_ixor hx hb dX2_copyWithout_79 ?_
        refine lv_topi (fun v_79 ev_79 => ?_)
        refine lv_iand hx hb dX2_copyWithout_80 ?_
        refine lv_topi (fun v_80 ev_80 => ?_)
        refine lv_goto (tgt := 91) hx hb dX2_copyWithout_81 (by decide) ?_
        refine va_iast hx hb hK hP hD hS 2 0 rfl rfl (vp_in_nI (by omega) (by omega)) dX2_copyWithout_91 (fun H locs hP hD hS => ?_)
        have hP : va_P (dC, dI) vwCl [(th, .inr (2, [.ref tp, .ref tc, .int (nI n)])), (tp, .inl (cI, 8, .inl f_57)), (tc, .inl (cI, 8, .inl (upd ftc_11 ((nI i_11) : Int32).toNatClampNeg v_80))), (dr, .inr (2, [.ref dp, .ref dc, .int (nI n)])), (dp, .inl (cI, 8, .inl fp)), (dc, .inl (cI, 8, .inl fc))] H := hP
        have hD : va_D A [(th, .inr (2, [.ref tp, .ref tc, .int (nI n)])), (tp, .inl (cI, 8, .inl f_57)), (tc, .inl (cI, 8, .inl (upd ftc_11 ((nI i_11) : Int32).toNatClampNeg v_80))), (dr, .inr (2, [.ref dp, .ref dc, .int (nI n)])), (dp, .inl (cI, 8, .inl fp)), (dc, .inl (cI, 8, .inl fc))] := hD
        generalize (upd ftc_11 ((nI i_11) : Int32).toNatClampNeg v_80) = f_91 at hP hD
        refine lv_iinc (v := (nI (i_11 + 1))) (lv' := [(4, .int (nI (i_11 + 1))), (0, .ref th), (1, .ref dr), (2, .int p1), (3, .int p2)]) hx hb dX2_copyWithout_92 hl (k := 0) rfl (nI_1 _) (by decide) rfl (fun ls hl => ?_)
        refine lv_goto (tgt := 11) hx hb dX2_copyWithout_95 (by decide) ?_
        exact ih_11 _ (by omega) _ _ _ ⟨(i_11 + 1), f_57, f_91, by omega, hP, hD, hS, lv_sub hl [0, 1, 2, 3, 4] rfl, rfl⟩
    · skip
      refine lv_aload_n hx hb dX2_copyWithout_33 rfl (lv_at hl 2 rfl) ?_
      refine va_get (D := (dC, dI)) (ci := 2) (v := .ref dp) (C := RX2) (T := TX2) (N := 3) hx hb hts hiX2 hown hK hP 3 rfl rfl 0 (by decide) (hts (.fieldLink RX2 9 "MadeItSo$Drawing" "parents" "[I") (by decide +kernel)) (fun _ h9 => h9) rfl dX2_copyWithout_34 ?_
      refine lv_iload hx hb dX2_copyWithout_37 (lv_at hl 0 rfl) ?_
      refine va_iald hx hb hK hP 4 0 rfl rfl (vp_in_nI (by omega) (by omega)) dX2_copyWithout_39 ?_
      refine lv_topi (fun v_39 ev_39 => ?_)
      refine lv_iload_n hx hb dX2_copyWithout_40 rfl (lv_at hl 3 rfl) ?_
      have hPc := hP.sub (ws' := []) [] rfl
      refine va_calli (va_runSN (As := [.int p1]) (rest := [.int v_39, .int (nI i_11), .ref tp]) ⟨hx, hb, hml, hown, hts⟩ (mz_g_bit l dC dI cI cJ cZ p1 H ) ⟨va_cnB (host := "MadeItSo") 1 hts gX2_copyWithout_X7_bit_n37 rfl rfl rfl (hN (RX2, 37, yX7_bit, "MadeItSo") (by decide +kernel)) (hts (.initialized RX7) (by decide +kernel)) (by decide +kernel) ⟨Nat.le_of_ble_eq_true rfl, Nat.le_of_ble_eq_true rfl⟩, hts (.static yX7_bit) (by decide +kernel), trivial⟩ ⟨fun a U g mk q => mz_blP q, fun U hU hW => ⟨rfl, hU, hPc, va_K.moved hW.alike hK, mz_nw hW hN⟩⟩ rfl rfl hl.1 rfl (lv_room (Nat.le_of_ble_eq_true rfl)) dX2_copyWithout_41 ⟨Nat.le_of_ble_eq_true rfl, Nat.le_of_ble_eq_true rfl⟩) hS (fun q _ h => h.elim) (fun q h => h.elim) (fun r_41 u t H1 locs ht hvm hw_41 hB hz1 hk1 hS => ?_)
      have hE : H = H1 := hB.symm.trans ht
      subst hE
      obtain rfl : r_41 = (1 <<< (p1 &&& 31)) := hw_41
      refine lv_iconst (v := (-1)) hx hb dX2_copyWithout_44 (by decide +kernel) ?_
      refine lv_ixor hx hb dX2_copyWithout_45 ?_
      refine lv_topi (fun v_45 ev_45 => ?_)
      refine lv_iand hx hb dX2_copyWithout_46 ?_
      refine lv_topi (fun v_46 ev_46 => ?_)
      refine lv_goto (tgt := 57) hx hb dX2_copyWithout_47 (by decide) ?_
      refine va_iast hx hb hK hP hD hS 1 0 rfl rfl (vp_in_nI (by omega) (by omega)) dX2_copyWithout_57 (fun H locs hP hD hS => ?_)
      have hP : va_P (dC, dI) vwCl [(th, .inr (2, [.ref tp, .ref tc, .int (nI n)])), (tp, .inl (cI, 8, .inl (upd ftp_11 ((nI i_11) : Int32).toNatClampNeg v_46))), (tc, .inl (cI, 8, .inl ftc_11)), (dr, .inr (2, [.ref dp, .ref dc, .int (nI n)])), (dp, .inl (cI, 8, .inl fp)), (dc, .inl (cI, 8, .inl fc))] H := hP
      have hD : va_D A [(th, .inr (2, [.ref tp, .ref tc, .int (nI n)])), (tp, .inl (cI, 8, .inl (upd ftp_11 ((nI i_11) : Int32).toNatClampNeg v_46))), (tc, .inl (cI, 8, .inl ftc_11)), (dr, .inr (2, [.ref dp, .ref dc, .int (nI n)])), (dp, .inl (cI, 8, .inl fp)), (dc, .inl (cI, 8, .inl fc))] := hD
      generalize (upd ftp_11 ((nI i_11) : Int32).toNatClampNeg v_46) = f_57 at hP hD
      refine lv_aload_n hx hb dX2_copyWithout_58 rfl (lv_at hl 1 rfl) ?_
      refine va_get (D := (dC, dI)) (ci := 2) (v := .ref tc) (C := RX2) (T := TX2) (N := 3) hx hb hts hiX2 hown hK hP 0 rfl rfl 1 (by decide) (hts (.fieldLink RX2 15 "MadeItSo$Drawing" "children" "[I") (by decide +kernel)) (fun _ h9 => h9) rfl dX2_copyWithout_59 ?_
      refine lv_iload hx hb dX2_copyWithout_62 (lv_at hl 0 rfl) ?_
      refine lv_iload hx hb dX2_copyWithout_64 (lv_at hl 0 rfl) ?_
      refine lv_iload_n hx hb dX2_copyWithout_66 rfl (lv_at hl 3 rfl) ?_
      refine lv_icmp_ne (tgt := 84) hx hb dX2_copyWithout_67 (by decide) (fun c_67 => ?_) (fun c_67 => ?_)
      · skip
        refine lv_aload_n hx hb dX2_copyWithout_84 rfl (lv_at hl 2 rfl) ?_
        refine va_get (D := (dC, dI)) (ci := 2) (v := .ref dc) (C := RX2) (T := TX2) (N := 3) hx hb hts hiX2 hown hK hP 3 rfl rfl 1 (by decide) (hts (.fieldLink RX2 15 "MadeItSo$Drawing" "children" "[I") (by decide +kernel)) (fun _ h9 => h9) rfl dX2_copyWithout_85 ?_
        refine lv_iload hx hb dX2_copyWithout_88 (lv_at hl 0 rfl) ?_
        refine va_iald hx hb hK hP 5 0 rfl rfl (vp_in_nI (by omega) (by omega)) dX2_copyWithout_90 ?_
        refine lv_topi (fun v_90 ev_90 => ?_)
        refine va_iast hx hb hK hP hD hS 2 0 rfl rfl (vp_in_nI (by omega) (by omega)) dX2_copyWithout_91 (fun H locs hP hD hS => ?_)
        have hP : va_P (dC, dI) vwCl [(th, .inr (2, [.ref tp, .ref tc, .int (nI n)])), (tp, .inl (cI, 8, .inl f_57)), (tc, .inl (cI, 8, .inl (upd ftc_11 ((nI i_11) : Int32).toNatClampNeg v_90))), (dr, .inr (2, [.ref dp, .ref dc, .int (nI n)])), (dp, .inl (cI, 8, .inl fp)), (dc, .inl (cI, 8, .inl fc))] H := hP
        have hD : va_D A [(th, .inr (2, [.ref tp, .ref tc, .int (nI n)])), (tp, .inl (cI, 8, .inl f_57)), (tc, .inl (cI, 8, .inl (upd ftc_11 ((nI i_11) : Int32).toNatClampNeg v_90))), (dr, .inr (2, [.ref dp, .ref dc, .int (nI n)])), (dp, .inl (cI, 8, .inl fp)), (dc, .inl (cI, 8, .inl fc))] := hD
        generalize (upd ftc_11 ((nI i_11) : Int32).toNatClampNeg v_90) = f_91 at hP hD
        refine lv_iinc (v := (nI (i_11 + 1))) (lv' := [(4, .int (nI (i_11 + 1))), (0, .ref th), (1, .ref dr), (2, .int p1), (3, .int p2)]) hx hb dX2_copyWithout_92 hl (k := 0) rfl (nI_1 _) (by decide) rfl (fun ls hl => ?_)
        refine lv_goto (tgt := 11) hx hb dX2_copyWithout_95 (by decide) ?_
        exact ih_11 _ (by omega) _ _ _ ⟨(i_11 + 1), f_57, f_91, by omega, hP, hD, hS, lv_sub hl [0, 1, 2, 3, 4] rfl, rfl⟩
      · skip
        refine lv_aload_n hx hb dX2_copyWithout_70 rfl (lv_at hl 2 rfl) ?_
        refine va_get (D := (dC, dI)) (ci := 2) (v := .ref dc) (C := RX2) (T := TX2) (N := 3) hx hb hts hiX2 hown hK hP 3 rfl rfl 1 (by decide) (hts (.fieldLink RX2 15 "MadeItSo$Drawing" "children" "[I") (by decide +kernel)) (fun _ h9 => h9) rfl dX2_copyWithout_71 ?_
        refine lv_iload hx hb dX2_copyWithout_74 (lv_at hl 0 rfl) ?_
        refine va_iald hx hb hK hP 5 0 rfl rfl (vp_in_nI (by omega) (by omega)) dX2_copyWithout_76 ?_
        refine lv_topi (fun v_76 ev_76 => ?_)
        refine lv_iload_n hx hb dX2_copyWithout_77 rfl (lv_at hl 4 rfl) ?_
        refine lv_iconst (v := (-1)) hx hb dX2_copyWithout_78 (by decide +kernel) ?_
        refine lv_ixor hx hb dX2_copyWithout_79 ?_
        refine lv_topi (fun v_79 ev_79 => ?_)
        refine lv_iand hx hb dX2_copyWithout_80 ?_
        refine lv_topi (fun v_80 ev_80 => ?_)
        refine lv_goto (tgt := 91) hx hb dX2_copyWithout_81 (by decide) ?_
        refine va_iast hx hb hK hP hD hS 2 0 rfl rfl (vp_in_nI (by omega) (by omega)) dX2_copyWithout_91 (fun H locs hP hD hS => ?_)
        have hP : va_P (dC, dI) vwCl [(th, .inr (2, [.ref tp, .ref tc, .int (nI n)])), (tp, .inl (cI, 8, .inl f_57)), (tc, .inl (cI, 8, .inl (upd ftc_11 ((nI i_11) : Int32).toNatClampNeg v_80))), (dr, .inr (2, [.ref dp, .ref dc, .int (nI n)])), (dp, .inl (cI, 8, .inl fp)), (dc, .inl (cI, 8, .inl fc))] H := hP
        have hD : va_D A [(th, .inr (2, [.ref tp, .ref tc, .int (nI n)])), (tp, .inl (cI, 8, .inl f_57)), (tc, .inl (cI, 8, .inl (upd ftc_11 ((nI i_11) : Int32).toNatClampNeg v_80))), (dr, .inr (2, [.ref dp, .ref dc, .int (nI n)])), (dp, .inl (cI, 8, .inl fp)), (dc, .inl (cI, 8, .inl fc))] := hD
        generalize (upd ftc_11 ((nI i_11) : Int32).toNatClampNeg v_80) = f_91 at hP hD
        refine lv_iinc (v := (nI (i_11 + 1))) (lv' := [(4, .int (nI (i_11 + 1))), (0, .ref th), (1, .ref dr), (2, .int p1), (3, .int p2)]) hx hb dX2_copyWithout_92 hl (k := 0) rfl (nI_1 _) (by decide) rfl (fun ls hl => ?_)
        refine lv_goto (tgt := 11) hx hb dX2_copyWithout_95 (by decide) ?_
        exact ih_11 _ (by omega) _ _ _ ⟨(i_11 + 1), f_57, f_91, by omega, hP, hD, hS, lv_sub hl [0, 1, 2, 3, 4] rfl, rfl⟩
set_option maxHeartbeats 1000000 in
set_option maxRecDepth 100000 in
theorem mz_x_fit (l : Launch) (dC : Nat → ClassId) (dI : Nat → Nat → Nat) (cI cJ cZ : ClassId) (mx : Nat) (dr : Nat) (th : Nat) (bk : Nat) (wt : Nat) (tt : Nat) (lh : Nat) (la : Nat) (sh : Int32) (ab : Int64) (be : Int64) (dp : Nat) (dc : Nat) (n : Nat) (fp : Nat → Int32) (fc : Nat → Int32) (tp : Nat) (tc : Nat) (tn : Int32) (ftp : Nat → Int32) (ftc : Nat → Int32) (p1 : Int32) (p2 : Int32) (p3 : Int32) (sz : Nat) (hn : n ≤ 8) : Met l yX7_fit wsX7_fit ({ frames := 6, cells := 0, slots := 0, locals := 133 }) (va_Pc [.ref mx, .int p1, .int p2, .int p3] (fun U => U.heap.size = sz ∧ va_P (dC, dI) vwCl [(mx, .inr (7, [.ref dr, .ref th, .ref bk, .ref wt, .ref tt, .ref lh, .ref la, .int sh, .long ab, .long be])), (dr, .inr (2, [.ref dp, .ref dc, .int (nI n)])), (dp, .inl (cI, 8, .inl fp)), (dc, .inl (cI, 8, .inl fc)), (th, .inr (2, [.ref tp, .ref tc, .int tn])), (tp, .inl (cI, 8, .inl ftp)), (tc, .inl (cI, 8, .inl ftc))] U.heap ∧ va_K (dC, dI) vwCl [(cI, FieldType.int), (cJ, FieldType.long), (cZ, FieldType.boolean)] U ∧ va_D (fun _ => True) [(mx, .inr (7, [.ref dr, .ref th, .ref bk, .ref wt, .ref tt, .ref lh, .ref la, .int sh, .long ab, .long be])), (dr, .inr (2, [.ref dp, .ref dc, .int (nI n)])), (dp, .inl (cI, 8, .inl fp)), (dc, .inl (cI, 8, .inl fc)), (th, .inr (2, [.ref tp, .ref tc, .int tn])), (tp, .inl (cI, 8, .inl ftp)), (tc, .inl (cI, 8, .inl ftc))] ∧ mz_N U)) (va_Qi (fun (r : Int32) (_ : Unit) => r = 0 ∨ r = 1) (fun _ t => ∃ (gtn : Int32), ∃ (gtp : Nat → Int32), ∃ (gtc : Nat → Int32), va_P (dC, dI) vwCl [(mx, .inr (7, [.ref dr, .ref th, .ref bk, .ref wt, .ref tt, .ref lh, .ref la, .int sh, .long ab, .long be])), (dr, .inr (2, [.ref dp, .ref dc, .int (nI n)])), (dp, .inl (cI, 8, .inl fp)), (dc, .inl (cI, 8, .inl fc)), (th, .inr (2, [.ref tp, .ref tc, .int gtn])), (tp, .inl (cI, 8, .inl gtp)), (tc, .inl (cI, 8, .inl gtc))] t.heap ∧ va_D (va_A [(mx, .inr (7, [.ref dr, .ref th, .ref bk, .ref wt, .ref tt, .ref lh, .ref la, .int sh, .long ab, .long be])), (dr, .inr (2, [.ref dp, .ref dc, .int (nI n)])), (dp, .inl (cI, 8, .inl fp)), (dc, .inl (cI, 8, .inl fc)), (th, .inr (2, [.ref tp, .ref tc, .int tn])), (tp, .inl (cI, 8, .inl ftp)), (tc, .inl (cI, 8, .inl ftc))] sz) [(mx, .inr (7, [.ref dr, .ref th, .ref bk, .ref wt, .ref tt, .ref lh, .ref la, .int sh, .long ab, .long be])), (dr, .inr (2, [.ref dp, .ref dc, .int (nI n)])), (dp, .inl (cI, 8, .inl fp)), (dc, .inl (cI, 8, .inl fc)), (th, .inr (2, [.ref tp, .ref tc, .int gtn])), (tp, .inl (cI, 8, .inl gtp)), (tc, .inl (cI, 8, .inl gtc))]) (va_A [(mx, .inr (7, [.ref dr, .ref th, .ref bk, .ref wt, .ref tt, .ref lh, .ref la, .int sh, .long ab, .long be])), (dr, .inr (2, [.ref dp, .ref dc, .int (nI n)])), (dp, .inl (cI, 8, .inl fp)), (dc, .inl (cI, 8, .inl fc)), (th, .inr (2, [.ref tp, .ref tc, .int tn])), (tp, .inl (cI, 8, .inl ftp)), (tc, .inl (cI, 8, .inl ftc))] sz)) 0 0 (va_A [(mx, .inr (7, [.ref dr, .ref th, .ref bk, .ref wt, .ref tt, .ref lh, .ref la, .int sh, .long ab, .long be])), (dr, .inr (2, [.ref dp, .ref dc, .int (nI n)])), (dp, .inl (cI, 8, .inl fp)), (dc, .inl (cI, 8, .inl fc)), (th, .inr (2, [.ref tp, .ref tc, .int tn])), (tp, .inl (cI, 8, .inl ftp)), (tc, .inl (cI, 8, .inl ftc))] sz) := by
  refine Met.ofW (cc := cX7_fit) (maxL := 5) (ret := (some .boolean)) (by decide) rfl ?_
  intro p e s m args below meth c s₁ B hml hv
  obtain ⟨rfl, hsz, hP, hK, hD0, hN⟩ := hv
  subst hsz
  have hx := B.exec
  have hb := B.bytes
  have hr := B.returns
  have hts := atoms_spec (ws := wsX7_fit) B.pre
  have hown : s.vm.findClass RX7 = some m.cls := findClass_of_methodNamed B.named
  have hlocks := B.notSynchronized
  have hD := hD0.self (sz := s.heap.size)
  generalize hAe : va_A [(mx, .inr (7, [.ref dr, .ref th, .ref bk, .ref wt, .ref tt, .ref lh, .ref la, .int sh, .long ab, .long be])), (dr, .inr (2, [.ref dp, .ref dc, .int (nI n)])), (dp, .inl (cI, 8, .inl fp)), (dc, .inl (cI, 8, .inl fc)), (th, .inr (2, [.ref tp, .ref tc, .int tn])), (tp, .inl (cI, 8, .inl ftp)), (tc, .inl (cI, 8, .inl ftc))] s.heap.size = A at hD ⊢
  have hA : ∀ q : Nat, s.heap.size ≤ q → A q := fun q h => by rw [← hAe]; exact Or.inr h
  have hS : va_S A s.heap s.heap [] := va_S.rf
  have hiX7 : ∀ w ∈ u_ws RX7 TX7 10, w ∈ wsX7_fit := by decide +kernel
  have hl := lv_entry ([.ref mx, .int p1, .int p2, .int p3]) (n := 5) (Nat.le_of_ble_eq_true rfl)
  rw [lg_entry_eq]
  generalize (lg_sl ([.ref mx, .int p1, .int p2, .int p3]) ++ List.replicate (5 - (lg_sl ([.ref mx, .int p1, .int p2, .int p3])).length) Slot.unset).toArray = ls at hl ⊢
  have hl : lv_has ls 5 [(0, .ref mx), (1, .int p1), (2, .int p2), (3, .int p3)] := hl
  refine lv_aload_n hx hb dX7_fit_0 rfl (lv_at hl 0 rfl) ?_
  refine lv_iload_n hx hb dX7_fit_1 rfl (lv_at hl 1 rfl) ?_
  refine lv_iload_n hx hb dX7_fit_2 rfl (lv_at hl 2 rfl) ?_
  have hPc := hP.sub (ws' := [(mx, .inr (7, [.ref dr, .ref th, .ref bk, .ref wt, .ref tt, .ref lh, .ref la, .int sh, .long ab, .long be])), (dr, .inr (2, [.ref dp, .ref dc, .int (nI n)]))]) [0, 1] rfl
  refine va_calli (va_runV (As := [.int p1, .int p2]) (rest := []) ⟨hx, hb, hml, hown, hts⟩ (mz_x_areTwo l dC dI cI cJ cZ mx dr th bk wt tt lh la sh ab be dp dc n p1 p2 s.heap (by first | assumption | omega)) (cwV 2 hts gX7_fit_X7_areTwo rfl rfl rfl (by decide +kernel) ⟨Nat.le_of_ble_eq_true rfl, Nat.le_of_ble_eq_true rfl⟩) ⟨fun a U g mk q => mz_blP q, va_recv hK hPc (ci := 7) (q0 := 0) rfl rfl, fun U hU hW => ⟨rfl, hU, hPc, va_K.moved hW.alike hK, mz_nw hW hN⟩⟩ rfl rfl hl.1 rfl (lv_room (Nat.le_of_ble_eq_true rfl)) dX7_fit_3 ⟨Nat.le_of_ble_eq_true rfl, Nat.le_of_ble_eq_true rfl⟩) hS (fun q _ h => h.elim) (fun q h => h.elim) (fun r_3 u t H1 locs ht hvm hw_3 hB hz1 hk1 hS => ?_)
  have hE : s.heap = H1 := hB.symm.trans ht
  subst hE
  refine lv_if_eq (tgt := 33) hx hb dX7_fit_6 (by decide) (fun c_6 => ?_) (fun c_6 => ?_)
  · skip
    refine lv_iconst (v := 0) hx hb dX7_fit_33 (by decide +kernel) ?_
    have hP9 := hP.sub (ws' := [(mx, .inr (7, [.ref dr, .ref th, .ref bk, .ref wt, .ref tt, .ref lh, .ref la, .int sh, .long ab, .long be])), (dr, .inr (2, [.ref dp, .ref dc, .int (nI n)])), (dp, .inl (cI, 8, .inl fp)), (dc, .inl (cI, 8, .inl fc)), (th, .inr (2, [.ref tp, .ref tc, .int tn])), (tp, .inl (cI, 8, .inl ftp)), (tc, .inl (cI, 8, .inl ftc))]) [0, 1, 2, 3, 4, 5, 6] rfl
    have hD9 := hD.sub (ws' := [(mx, .inr (7, [.ref dr, .ref th, .ref bk, .ref wt, .ref tt, .ref lh, .ref la, .int sh, .long ab, .long be])), (dr, .inr (2, [.ref dp, .ref dc, .int (nI n)])), (dp, .inl (cI, 8, .inl fp)), (dc, .inl (cI, 8, .inl fc)), (th, .inr (2, [.ref tp, .ref tc, .int tn])), (tp, .inl (cI, 8, .inl ftp)), (tc, .inl (cI, 8, .inl ftc))]) [0, 1, 2, 3, 4, 5, 6] (by decide) rfl
    refine W.widen (k := 0) (n := 0) (Nat.le_of_ble_eq_true rfl) (Nat.le_of_ble_eq_true rfl) ?_
    exact W.zret (v := 0) hx hb hr (mz_nz (by decide +kernel)) (fun t ht hW => ⟨⟨0, (), rfl, Or.inl rfl, tn, ftp, ftc, by rw [ht]; exact hP9, hD9⟩, hS.F ht⟩) hS.2.2 dX7_fit_34
  · skip
    refine lv_aload_n hx hb dX7_fit_9 rfl (lv_at hl 0 rfl) ?_
    refine lv_iload_n hx hb dX7_fit_10 rfl (lv_at hl 3 rfl) ?_
    have hPc := hP.sub (ws' := [(mx, .inr (7, [.ref dr, .ref th, .ref bk, .ref wt, .ref tt, .ref lh, .ref la, .int sh, .long ab, .long be])), (dr, .inr (2, [.ref dp, .ref dc, .int (nI n)]))]) [0, 1] rfl
    refine va_calli (va_runV (As := [.int p3]) (rest := []) ⟨hx, hb, hml, hown, hts⟩ (mz_x_isHeap l dC dI cI cJ cZ mx dr th bk wt tt lh la sh ab be dp dc n p3 s.heap (by first | assumption | omega)) (cwV 1 hts gX7_fit_X7_isHeap rfl rfl rfl (by decide +kernel) ⟨Nat.le_of_ble_eq_true rfl, Nat.le_of_ble_eq_true rfl⟩) ⟨fun a U g mk q => mz_blP q, va_recv hK hPc (ci := 7) (q0 := 0) rfl rfl, fun U hU hW => ⟨rfl, hU, hPc, va_K.moved hW.alike hK, mz_nw hW hN⟩⟩ rfl rfl hl.1 rfl (lv_room (Nat.le_of_ble_eq_true rfl)) dX7_fit_11 ⟨Nat.le_of_ble_eq_true rfl, Nat.le_of_ble_eq_true rfl⟩) hS (fun q _ h => h.elim) (fun q h => h.elim) (fun r_11 u t H1 locs ht hvm hw_11 hB hz1 hk1 hS => ?_)
    have hE : s.heap = H1 := hB.symm.trans ht
    subst hE
    refine lv_if_eq (tgt := 33) hx hb dX7_fit_14 (by decide) (fun c_14 => ?_) (fun c_14 => ?_)
    · skip
      refine lv_iconst (v := 0) hx hb dX7_fit_33 (by decide +kernel) ?_
      have hP9 := hP.sub (ws' := [(mx, .inr (7, [.ref dr, .ref th, .ref bk, .ref wt, .ref tt, .ref lh, .ref la, .int sh, .long ab, .long be])), (dr, .inr (2, [.ref dp, .ref dc, .int (nI n)])), (dp, .inl (cI, 8, .inl fp)), (dc, .inl (cI, 8, .inl fc)), (th, .inr (2, [.ref tp, .ref tc, .int tn])), (tp, .inl (cI, 8, .inl ftp)), (tc, .inl (cI, 8, .inl ftc))]) [0, 1, 2, 3, 4, 5, 6] rfl
      have hD9 := hD.sub (ws' := [(mx, .inr (7, [.ref dr, .ref th, .ref bk, .ref wt, .ref tt, .ref lh, .ref la, .int sh, .long ab, .long be])), (dr, .inr (2, [.ref dp, .ref dc, .int (nI n)])), (dp, .inl (cI, 8, .inl fp)), (dc, .inl (cI, 8, .inl fc)), (th, .inr (2, [.ref tp, .ref tc, .int tn])), (tp, .inl (cI, 8, .inl ftp)), (tc, .inl (cI, 8, .inl ftc))]) [0, 1, 2, 3, 4, 5, 6] (by decide) rfl
      refine W.widen (k := 0) (n := 0) (Nat.le_of_ble_eq_true rfl) (Nat.le_of_ble_eq_true rfl) ?_
      exact W.zret (v := 0) hx hb hr (mz_nz (by decide +kernel)) (fun t ht hW => ⟨⟨0, (), rfl, Or.inl rfl, tn, ftp, ftc, by rw [ht]; exact hP9, hD9⟩, hS.F ht⟩) hS.2.2 dX7_fit_34
    · skip
      refine lv_iload_n hx hb dX7_fit_17 rfl (lv_at hl 3 rfl) ?_
      refine lv_iload_n hx hb dX7_fit_18 rfl (lv_at hl 1 rfl) ?_
      have hPc := hP.sub (ws' := []) [] rfl
      refine va_calli (va_runS (As := [.int p3, .int p1]) (rest := []) ⟨hx, hb, hml, hown, hts⟩ (mz_g_inHeap l dC dI cI cJ cZ p3 p1 s.heap ) (va_cwS 2 hts gX7_fit_X7_inHeap rfl rfl rfl (by decide +kernel) ⟨Nat.le_of_ble_eq_true rfl, Nat.le_of_ble_eq_true rfl⟩) ⟨fun a U g mk q => mz_blP q, fun U hU hW => ⟨rfl, hU, hPc, va_K.moved hW.alike hK, mz_nw hW hN⟩⟩ rfl rfl hl.1 rfl (lv_room (Nat.le_of_ble_eq_true rfl)) dX7_fit_19 ⟨Nat.le_of_ble_eq_true rfl, Nat.le_of_ble_eq_true rfl⟩) hS (fun q _ h => h.elim) (fun q h => h.elim) (fun r_19 u t H1 locs ht hvm hw_19 hB hz1 hk1 hS => ?_)
      have hE : s.heap = H1 := hB.symm.trans ht
      subst hE
      refine lv_if_ne (tgt := 33) hx hb dX7_fit_22 (by decide) (fun c_22 => ?_) (fun c_22 => ?_)
      · skip
        refine lv_iconst (v := 0) hx hb dX7_fit_33 (by decide +kernel) ?_
        have hP9 := hP.sub (ws' := [(mx, .inr (7, [.ref dr, .ref th, .ref bk, .ref wt, .ref tt, .ref lh, .ref la, .int sh, .long ab, .long be])), (dr, .inr (2, [.ref dp, .ref dc, .int (nI n)])), (dp, .inl (cI, 8, .inl fp)), (dc, .inl (cI, 8, .inl fc)), (th, .inr (2, [.ref tp, .ref tc, .int tn])), (tp, .inl (cI, 8, .inl ftp)), (tc, .inl (cI, 8, .inl ftc))]) [0, 1, 2, 3, 4, 5, 6] rfl
        have hD9 := hD.sub (ws' := [(mx, .inr (7, [.ref dr, .ref th, .ref bk, .ref wt, .ref tt, .ref lh, .ref la, .int sh, .long ab, .long be])), (dr, .inr (2, [.ref dp, .ref dc, .int (nI n)])), (dp, .inl (cI, 8, .inl fp)), (dc, .inl (cI, 8, .inl fc)), (th, .inr (2, [.ref tp, .ref tc, .int tn])), (tp, .inl (cI, 8, .inl ftp)), (tc, .inl (cI, 8, .inl ftc))]) [0, 1, 2, 3, 4, 5, 6] (by decide) rfl
        refine W.widen (k := 0) (n := 0) (Nat.le_of_ble_eq_true rfl) (Nat.le_of_ble_eq_true rfl) ?_
        exact W.zret (v := 0) hx hb hr (mz_nz (by decide +kernel)) (fun t ht hW => ⟨⟨0, (), rfl, Or.inl rfl, tn, ftp, ftc, by rw [ht]; exact hP9, hD9⟩, hS.F ht⟩) hS.2.2 dX7_fit_34
      · skip
        refine lv_iload_n hx hb dX7_fit_25 rfl (lv_at hl 3 rfl) ?_
        refine lv_iload_n hx hb dX7_fit_26 rfl (lv_at hl 2 rfl) ?_
        have hPc := hP.sub (ws' := []) [] rfl
        refine va_calli (va_runS (As := [.int p3, .int p2]) (rest := []) ⟨hx, hb, hml, hown, hts⟩ (mz_g_inHeap l dC dI cI cJ cZ p3 p2 s.heap ) (va_cwS 2 hts gX7_fit_X7_inHeap rfl rfl rfl (by decide +kernel) ⟨Nat.le_of_ble_eq_true rfl, Nat.le_of_ble_eq_true rfl⟩) ⟨fun a U g mk q => mz_blP q, fun U hU hW => ⟨rfl, hU, hPc, va_K.moved hW.alike hK, mz_nw hW hN⟩⟩ rfl rfl hl.1 rfl (lv_room (Nat.le_of_ble_eq_true rfl)) dX7_fit_27 ⟨Nat.le_of_ble_eq_true rfl, Nat.le_of_ble_eq_true rfl⟩) hS (fun q _ h => h.elim) (fun q h => h.elim) (fun r_27 u t H1 locs ht hvm hw_27 hB hz1 hk1 hS => ?_)
        have hE : s.heap = H1 := hB.symm.trans ht
        subst hE
        refine lv_if_eq (tgt := 35) hx hb dX7_fit_30 (by decide) (fun c_30 => ?_) (fun c_30 => ?_)
        · skip
          refine lv_iload_n hx hb dX7_fit_35 rfl (lv_at hl 3 rfl) ?_
          refine lv_aload_n hx hb dX7_fit_36 rfl (lv_at hl 0 rfl) ?_
          refine va_get (D := (dC, dI)) (ci := 7) (v := .int sh) (C := RX7) (T := TX7) (N := 10) hx hb hts hiX7 hown hK hP 0 rfl rfl 7 (by decide) (hts (.fieldLink RX7 54 "MadeItSo" "seenHeap" "I") (by decide +kernel)) (fun _ h9 => h9) rfl dX7_fit_37 ?_
          refine lv_iconst (v := (-1)) hx hb dX7_fit_40 (by decide +kernel) ?_
          refine lv_ixor hx hb dX7_fit_41 ?_
          refine lv_topi (fun v_41 ev_41 => ?_)
          refine lv_iand hx hb dX7_fit_42 ?_
          refine lv_topi (fun v_42 ev_42 => ?_)
          refine lv_if_eq (tgt := 48) hx hb dX7_fit_43 (by decide) (fun c_43 => ?_) (fun c_43 => ?_)
          · skip
            refine lv_aload_n hx hb dX7_fit_48 rfl (lv_at hl 0 rfl) ?_
            refine va_get (D := (dC, dI)) (ci := 7) (v := .ref dr) (C := RX7) (T := TX7) (N := 10) hx hb hts hiX7 hown hK hP 0 rfl rfl 0 (by decide) (hts (.fieldLink RX7 12 "MadeItSo" "drawing" "LMadeItSo$Drawing;") (by decide +kernel)) (fun _ h9 => h9) rfl dX7_fit_49 ?_
            refine lv_iload_n hx hb dX7_fit_52 rfl (lv_at hl 1 rfl) ?_
            have hPc := hP.sub (ws' := [(dr, .inr (2, [.ref dp, .ref dc, .int (nI n)])), (dc, .inl (cI, 8, .inl fc))]) [1, 3] rfl
            refine va_calli (va_runV (As := [.int p1]) (rest := []) ⟨hx, hb, hml, hown, hts⟩ (mz_d_allBelow l dC dI cI cJ cZ dr dp dc n fc p1 s.heap (by first | assumption | omega)) (cwV 1 hts gX7_fit_X2_allBelow rfl rfl rfl (by decide +kernel) ⟨Nat.le_of_ble_eq_true rfl, Nat.le_of_ble_eq_true rfl⟩) ⟨fun a U g mk q => mz_blP q, va_recv hK hPc (ci := 2) (q0 := 0) rfl rfl, fun U hU hW => ⟨rfl, hU, hPc, va_K.moved hW.alike hK, mz_nw hW hN⟩⟩ rfl rfl hl.1 rfl (lv_room (Nat.le_of_ble_eq_true rfl)) dX7_fit_53 ⟨Nat.le_of_ble_eq_true rfl, Nat.le_of_ble_eq_true rfl⟩) hS (fun q _ h => h.elim) (fun q h => h.elim) (fun r_53 u t H1 locs ht hvm hw_53 hB hz1 hk1 hS => ?_)
            have hE : s.heap = H1 := hB.symm.trans ht
            subst hE
            refine lv_iload_n hx hb dX7_fit_56 rfl (lv_at hl 2 rfl) ?_
            have hPc := hP.sub (ws' := []) [] rfl
            refine va_calli (va_runS (As := [.int r_53, .int p2]) (rest := []) ⟨hx, hb, hml, hown, hts⟩ (mz_g_inHeap l dC dI cI cJ cZ r_53 p2 s.heap ) (va_cwS 2 hts gX7_fit_X7_inHeap rfl rfl rfl (by decide +kernel) ⟨Nat.le_of_ble_eq_true rfl, Nat.le_of_ble_eq_true rfl⟩) ⟨fun a U g mk q => mz_blP q, fun U hU hW => ⟨rfl, hU, hPc, va_K.moved hW.alike hK, mz_nw hW hN⟩⟩ rfl rfl hl.1 rfl (lv_room (Nat.le_of_ble_eq_true rfl)) dX7_fit_57 ⟨Nat.le_of_ble_eq_true rfl, Nat.le_of_ble_eq_true rfl⟩) hS (fun q _ h => h.elim) (fun q h => h.elim) (fun r_57 u t H1 locs ht hvm hw_57 hB hz1 hk1 hS => ?_)
            have hE : s.heap = H1 := hB.symm.trans ht
            subst hE
            refine lv_if_ne (tgt := 80) hx hb dX7_fit_60 (by decide) (fun c_60 => ?_) (fun c_60 => ?_)
            · skip
              refine lv_aload_n hx hb dX7_fit_80 rfl (lv_at hl 0 rfl) ?_
              refine va_get (D := (dC, dI)) (ci := 7) (v := .ref dr) (C := RX7) (T := TX7) (N := 10) hx hb hts hiX7 hown hK hP 0 rfl rfl 0 (by decide) (hts (.fieldLink RX7 12 "MadeItSo" "drawing" "LMadeItSo$Drawing;") (by decide +kernel)) (fun _ h9 => h9) rfl dX7_fit_81 ?_
              refine lv_iload_n hx hb dX7_fit_84 rfl (lv_at hl 1 rfl) ?_
              refine lv_iload_n hx hb dX7_fit_85 rfl (lv_at hl 2 rfl) ?_
              have hPc := hP.sub (ws' := [(dr, .inr (2, [.ref dp, .ref dc, .int (nI n)])), (dp, .inl (cI, 8, .inl fp)), (dc, .inl (cI, 8, .inl fc))]) [1, 2, 3] rfl
              refine va_calli (va_runV (As := [.int p1, .int p2]) (rest := []) ⟨hx, hb, hml, hown, hts⟩ (mz_d_road l dC dI cI cJ cZ dr dp dc n fp fc p1 p2 s.heap (by first | assumption | omega)) (cwV 2 hts gX7_fit_X2_road rfl rfl rfl (by decide +kernel) ⟨Nat.le_of_ble_eq_true rfl, Nat.le_of_ble_eq_true rfl⟩) ⟨fun a U g mk q => mz_blP q, va_recv hK hPc (ci := 2) (q0 := 0) rfl rfl, fun U hU hW => ⟨rfl, hU, hPc, va_K.moved hW.alike hK, mz_nw hW hN⟩⟩ rfl rfl hl.1 rfl (lv_room (Nat.le_of_ble_eq_true rfl)) dX7_fit_86 ⟨Nat.le_of_ble_eq_true rfl, Nat.le_of_ble_eq_true rfl⟩) hS (fun q _ h => h.elim) (fun q h => h.elim) (fun r_86 u t H1 locs ht hvm hw_86 hB hz1 hk1 hS => ?_)
              have hE : s.heap = H1 := hB.symm.trans ht
              subst hE
              refine lv_istore (lv' := [(4, .int r_86), (0, .ref mx), (1, .int p1), (2, .int p2), (3, .int p3)]) hx hb dX7_fit_89 hl (by decide) rfl (fun ls hl => ?_)
              refine lv_iload_n hx hb dX7_fit_91 rfl (lv_at hl 4 rfl) ?_
              refine lv_aload_n hx hb dX7_fit_92 rfl (lv_at hl 1 rfl) ?_
              refine va_get (D := (dC, dI)) (ci := 7) (v := .ref dr) (C := RX7) (T := TX7) (N := 10) hx hb hts hiX7 hown hK hP 0 rfl rfl 0 (by decide) (hts (.fieldLink RX7 12 "MadeItSo" "drawing" "LMadeItSo$Drawing;") (by decide +kernel)) (fun _ h9 => h9) rfl dX7_fit_93 ?_
              refine lv_iload hx hb dX7_fit_96 (lv_at hl 0 rfl) ?_
              have hPc := hP.sub (ws' := [(dr, .inr (2, [.ref dp, .ref dc, .int (nI n)])), (dc, .inl (cI, 8, .inl fc))]) [1, 3] rfl
              refine va_calli (va_runV (As := [.int r_86]) (rest := [.int p3]) ⟨hx, hb, hml, hown, hts⟩ (mz_d_withAllBelow l dC dI cI cJ cZ dr dp dc n fc r_86 s.heap ) (cwV 1 hts gX7_fit_X2_withAllBelow rfl rfl rfl (by decide +kernel) ⟨Nat.le_of_ble_eq_true rfl, Nat.le_of_ble_eq_true rfl⟩) ⟨fun a U g mk q => mz_blP q, va_recv hK hPc (ci := 2) (q0 := 0) rfl rfl, fun U hU hW => ⟨rfl, hU, hPc, va_K.moved hW.alike hK, mz_nw hW hN⟩⟩ rfl rfl hl.1 rfl (lv_room (Nat.le_of_ble_eq_true rfl)) dX7_fit_98 ⟨Nat.le_of_ble_eq_true rfl, Nat.le_of_ble_eq_true rfl⟩) hS (fun q _ h => h.elim) (fun q h => h.elim) (fun r_98 u t H1 locs ht hvm hw_98 hB hz1 hk1 hS => ?_)
              have hE : s.heap = H1 := hB.symm.trans ht
              subst hE
              refine lv_iand hx hb dX7_fit_101 ?_
              refine lv_topi (fun v_101 ev_101 => ?_)
              refine lv_if_eq (tgt := 107) hx hb dX7_fit_102 (by decide) (fun c_102 => ?_) (fun c_102 => ?_)
              · skip
                refine lv_aload_n hx hb dX7_fit_107 rfl (lv_at hl 1 rfl) ?_
                refine va_get (D := (dC, dI)) (ci := 7) (v := .ref th) (C := RX7) (T := TX7) (N := 10) hx hb hts hiX7 hown hK hP 0 rfl rfl 1 (by decide) (hts (.fieldLink RX7 16 "MadeItSo" "thinned" "LMadeItSo$Drawing;") (by decide +kernel)) (fun _ h9 => h9) rfl dX7_fit_108 ?_
                refine lv_aload_n hx hb dX7_fit_111 rfl (lv_at hl 1 rfl) ?_
                refine va_get (D := (dC, dI)) (ci := 7) (v := .ref dr) (C := RX7) (T := TX7) (N := 10) hx hb hts hiX7 hown hK hP 0 rfl rfl 0 (by decide) (hts (.fieldLink RX7 12 "MadeItSo" "drawing" "LMadeItSo$Drawing;") (by decide +kernel)) (fun _ h9 => h9) rfl dX7_fit_112 ?_
                refine lv_iload_n hx hb dX7_fit_115 rfl (lv_at hl 2 rfl) ?_
                refine lv_iload hx hb dX7_fit_116 (lv_at hl 0 rfl) ?_
                have hPc := hP.sub (ws' := [(th, .inr (2, [.ref tp, .ref tc, .int tn])), (tp, .inl (cI, 8, .inl ftp)), (tc, .inl (cI, 8, .inl ftc)), (dr, .inr (2, [.ref dp, .ref dc, .int (nI n)])), (dp, .inl (cI, 8, .inl fp)), (dc, .inl (cI, 8, .inl fc))]) [4, 5, 6, 1, 2, 3] rfl
                have hDc := hD.sub (ws' := [(th, .inr (2, [.ref tp, .ref tc, .int tn])), (tp, .inl (cI, 8, .inl ftp)), (tc, .inl (cI, 8, .inl ftc)), (dr, .inr (2, [.ref dp, .ref dc, .int (nI n)])), (dp, .inl (cI, 8, .inl fp)), (dc, .inl (cI, 8, .inl fc))]) [4, 5, 6, 1, 2, 3] (by decide) rfl
                have hFc := va_free (wc := [(th, .inr (2, [.ref tp, .ref tc, .int tn])), (tp, .inl (cI, 8, .inl ftp)), (tc, .inl (cI, 8, .inl ftc)), (dr, .inr (2, [.ref dp, .ref dc, .int (nI n)])), (dp, .inl (cI, 8, .inl fp)), (dc, .inl (cI, 8, .inl fc))]) hD hS hA [4, 5, 6, 1, 2, 3] rfl
                refine va_callv (va_runV (As := [.ref dr, .int p1, .int r_86]) (rest := []) ⟨hx, hb, hml, hown, hts⟩ (mz_d_copyWithout l dC dI cI cJ cZ th tp tc tn ftp ftc dr dp dc n fp fc p1 r_86 s.heap.size ) (cwV 3 hts gX7_fit_X2_copyWithout rfl rfl rfl (by decide +kernel) ⟨Nat.le_of_ble_eq_true rfl, Nat.le_of_ble_eq_true rfl⟩) ⟨fun a U g mk q => mz_blI q, va_recv hK hPc (ci := 2) (q0 := 0) rfl rfl, fun U hU hW => ⟨rfl, by rw [hU], by rw [hU]; exact hPc, va_K.moved hW.alike hK, hDc.weaken (fun _ _ _ _ => trivial), mz_nw hW hN⟩⟩ rfl rfl hl.1 rfl (lv_room (Nat.le_of_ble_eq_true rfl)) dX7_fit_118 ⟨Nat.le_of_ble_eq_true rfl, Nat.le_of_ble_eq_true rfl⟩) hS (fun q _ h => hFc q h) hFc (fun u t H1 locs ht hvm hw_118 hB hz1 hk1 hS => ?_)
                obtain ⟨gtp_118, gtc_118, hP1, hD1⟩ := hB
                rw [ht] at hP1
                obtain ⟨hP, hD⟩ := va_join (wr := [(mx, .inr (7, [.ref dr, .ref th, .ref bk, .ref wt, .ref tt, .ref lh, .ref la, .int sh, .long ab, .long be]))]) (w1 := [(th, .inr (2, [.ref tp, .ref tc, .int (nI n)])), (tp, .inl (cI, 8, .inl gtp_118)), (tc, .inl (cI, 8, .inl gtc_118)), (dr, .inr (2, [.ref dp, .ref dc, .int (nI n)])), (dp, .inl (cI, 8, .inl fp)), (dc, .inl (cI, 8, .inl fc))]) hP hD [4, 5, 6, 1, 2, 3] [0] rfl rfl (by decide) (by decide) hk1 hFc hP1 hD1
                generalize H1 = H at hP hS ⊢
                have hP : va_P (dC, dI) vwCl [(mx, .inr (7, [.ref dr, .ref th, .ref bk, .ref wt, .ref tt, .ref lh, .ref la, .int sh, .long ab, .long be])), (th, .inr (2, [.ref tp, .ref tc, .int (nI n)])), (tp, .inl (cI, 8, .inl gtp_118)), (tc, .inl (cI, 8, .inl gtc_118)), (dr, .inr (2, [.ref dp, .ref dc, .int (nI n)])), (dp, .inl (cI, 8, .inl fp)), (dc, .inl (cI, 8, .inl fc))] H := hP
                have hD : va_D A [(mx, .inr (7, [.ref dr, .ref th, .ref bk, .ref wt, .ref tt, .ref lh, .ref la, .int sh, .long ab, .long be])), (th, .inr (2, [.ref tp, .ref tc, .int (nI n)])), (tp, .inl (cI, 8, .inl gtp_118)), (tc, .inl (cI, 8, .inl gtc_118)), (dr, .inr (2, [.ref dp, .ref dc, .int (nI n)])), (dp, .inl (cI, 8, .inl fp)), (dc, .inl (cI, 8, .inl fc))] := hD
                refine lv_aload_n hx hb dX7_fit_121 rfl (lv_at hl 1 rfl) ?_
                refine va_get (D := (dC, dI)) (ci := 7) (v := .ref th) (C := RX7) (T := TX7) (N := 10) hx hb hts hiX7 hown hK hP 0 rfl rfl 1 (by decide) (hts (.fieldLink RX7 16 "MadeItSo" "thinned" "LMadeItSo$Drawing;") (by decide +kernel)) (fun _ h9 => h9) rfl dX7_fit_122 ?_
                refine lv_iload_n hx hb dX7_fit_125 rfl (lv_at hl 2 rfl) ?_
                have hPc := hP.sub (ws' := []) [] rfl
                refine va_calli (va_runS (As := [.int p1]) (rest := [.ref th]) ⟨hx, hb, hml, hown, hts⟩ (mz_g_bit l dC dI cI cJ cZ p1 H ) (va_cwS 1 hts gX7_fit_X7_bit rfl rfl rfl (by decide +kernel) ⟨Nat.le_of_ble_eq_true rfl, Nat.le_of_ble_eq_true rfl⟩) ⟨fun a U g mk q => mz_blP q, fun U hU hW => ⟨rfl, hU, hPc, va_K.moved hW.alike hK, mz_nw hW hN⟩⟩ rfl rfl hl.1 rfl (lv_room (Nat.le_of_ble_eq_true rfl)) dX7_fit_126 ⟨Nat.le_of_ble_eq_true rfl, Nat.le_of_ble_eq_true rfl⟩) hS (fun q _ h => h.elim) (fun q h => h.elim) (fun r_126 u t H1 locs ht hvm hw_126 hB hz1 hk1 hS => ?_)
                have hE : H = H1 := hB.symm.trans ht
                subst hE
                obtain rfl : r_126 = (1 <<< (p1 &&& 31)) := hw_126
                refine lv_iload_n hx hb dX7_fit_129 rfl (lv_at hl 3 rfl) ?_
                have hPc := hP.sub (ws' := []) [] rfl
                refine va_calli (va_runS (As := [.int p2]) (rest := [.int (1 <<< (p1 &&& 31)), .ref th]) ⟨hx, hb, hml, hown, hts⟩ (mz_g_bit l dC dI cI cJ cZ p2 H ) (va_cwS 1 hts gX7_fit_X7_bit rfl rfl rfl (by decide +kernel) ⟨Nat.le_of_ble_eq_true rfl, Nat.le_of_ble_eq_true rfl⟩) ⟨fun a U g mk q => mz_blP q, fun U hU hW => ⟨rfl, hU, hPc, va_K.moved hW.alike hK, mz_nw hW hN⟩⟩ rfl rfl hl.1 rfl (lv_room (Nat.le_of_ble_eq_true rfl)) dX7_fit_130 ⟨Nat.le_of_ble_eq_true rfl, Nat.le_of_ble_eq_true rfl⟩) hS (fun q _ h => h.elim) (fun q h => h.elim) (fun r_130 u t H1 locs ht hvm hw_130 hB hz1 hk1 hS => ?_)
                have hE : H = H1 := hB.symm.trans ht
                subst hE
                obtain rfl : r_130 = (1 <<< (p2 &&& 31)) := hw_130
                refine lv_iload_n hx hb dX7_fit_133 rfl (lv_at hl 4 rfl) ?_
                have hPc := hP.sub (ws' := [(th, .inr (2, [.ref tp, .ref tc, .int (nI n)])), (tp, .inl (cI, 8, .inl gtp_118)), (tc, .inl (cI, 8, .inl gtc_118))]) [1, 2, 3] rfl
                refine va_calli (va_runV (As := [.int (1 <<< (p1 &&& 31)), .int (1 <<< (p2 &&& 31)), .int p3]) (rest := []) ⟨hx, hb, hml, hown, hts⟩ (mz_d_barred l dC dI cI cJ cZ th tp tc n gtp_118 gtc_118 (1 <<< (p1 &&& 31)) (1 <<< (p2 &&& 31)) p3 H ) (cwV 3 hts gX7_fit_X2_barred rfl rfl rfl (by decide +kernel) ⟨Nat.le_of_ble_eq_true rfl, Nat.le_of_ble_eq_true rfl⟩) ⟨fun a U g mk q => mz_blP q, va_recv hK hPc (ci := 2) (q0 := 0) rfl rfl, fun U hU hW => ⟨rfl, hU, hPc, va_K.moved hW.alike hK, mz_nw hW hN⟩⟩ rfl rfl hl.1 rfl (lv_room (Nat.le_of_ble_eq_true rfl)) dX7_fit_134 ⟨Nat.le_of_ble_eq_true rfl, Nat.le_of_ble_eq_true rfl⟩) hS (fun q _ h => h.elim) (fun q h => h.elim) (fun r_134 u t H1 locs ht hvm hw_134 hB hz1 hk1 hS => ?_)
                have hE : H = H1 := hB.symm.trans ht
                subst hE
                have hP9 := hP.sub (ws' := [(mx, .inr (7, [.ref dr, .ref th, .ref bk, .ref wt, .ref tt, .ref lh, .ref la, .int sh, .long ab, .long be])), (dr, .inr (2, [.ref dp, .ref dc, .int (nI n)])), (dp, .inl (cI, 8, .inl fp)), (dc, .inl (cI, 8, .inl fc)), (th, .inr (2, [.ref tp, .ref tc, .int (nI n)])), (tp, .inl (cI, 8, .inl gtp_118)), (tc, .inl (cI, 8, .inl gtc_118))]) [0, 4, 5, 6, 1, 2, 3] rfl
                have hD9 := hD.sub (ws' := [(mx, .inr (7, [.ref dr, .ref th, .ref bk, .ref wt, .ref tt, .ref lh, .ref la, .int sh, .long ab, .long be])), (dr, .inr (2, [.ref dp, .ref dc, .int (nI n)])), (dp, .inl (cI, 8, .inl fp)), (dc, .inl (cI, 8, .inl fc)), (th, .inr (2, [.ref tp, .ref tc, .int (nI n)])), (tp, .inl (cI, 8, .inl gtp_118)), (tc, .inl (cI, 8, .inl gtc_118))]) [0, 4, 5, 6, 1, 2, 3] (by decide) rfl
                refine W.widen (k := 0) (n := 0) (Nat.le_of_ble_eq_true rfl) (Nat.le_of_ble_eq_true rfl) ?_
                exact W.zret (v := r_134) hx hb hr (mz_nzo hw_134) (fun t ht hW => ⟨⟨r_134, (), rfl, hw_134, (nI n), gtp_118, gtc_118, by rw [ht]; exact hP9, hD9⟩, hS.F ht⟩) hS.2.2 dX7_fit_137
              · skip
                refine lv_iconst (v := 0) hx hb dX7_fit_105 (by decide +kernel) ?_
                have hP9 := hP.sub (ws' := [(mx, .inr (7, [.ref dr, .ref th, .ref bk, .ref wt, .ref tt, .ref lh, .ref la, .int sh, .long ab, .long be])), (dr, .inr (2, [.ref dp, .ref dc, .int (nI n)])), (dp, .inl (cI, 8, .inl fp)), (dc, .inl (cI, 8, .inl fc)), (th, .inr (2, [.ref tp, .ref tc, .int tn])), (tp, .inl (cI, 8, .inl ftp)), (tc, .inl (cI, 8, .inl ftc))]) [0, 1, 2, 3, 4, 5, 6] rfl
                have hD9 := hD.sub (ws' := [(mx, .inr (7, [.ref dr, .ref th, .ref bk, .ref wt, .ref tt, .ref lh, .ref la, .int sh, .long ab, .long be])), (dr, .inr (2, [.ref dp, .ref dc, .int (nI n)])), (dp, .inl (cI, 8, .inl fp)), (dc, .inl (cI, 8, .inl fc)), (th, .inr (2, [.ref tp, .ref tc, .int tn])), (tp, .inl (cI, 8, .inl ftp)), (tc, .inl (cI, 8, .inl ftc))]) [0, 1, 2, 3, 4, 5, 6] (by decide) rfl
                refine W.widen (k := 0) (n := 0) (Nat.le_of_ble_eq_true rfl) (Nat.le_of_ble_eq_true rfl) ?_
                exact W.zret (v := 0) hx hb hr (mz_nz (by decide +kernel)) (fun t ht hW => ⟨⟨0, (), rfl, Or.inl rfl, tn, ftp, ftc, by rw [ht]; exact hP9, hD9⟩, hS.F ht⟩) hS.2.2 dX7_fit_106
            · skip
              refine lv_aload_n hx hb dX7_fit_63 rfl (lv_at hl 0 rfl) ?_
              refine va_get (D := (dC, dI)) (ci := 7) (v := .ref dr) (C := RX7) (T := TX7) (N := 10) hx hb hts hiX7 hown hK hP 0 rfl rfl 0 (by decide) (hts (.fieldLink RX7 12 "MadeItSo" "drawing" "LMadeItSo$Drawing;") (by decide +kernel)) (fun _ h9 => h9) rfl dX7_fit_64 ?_
              refine lv_iload_n hx hb dX7_fit_67 rfl (lv_at hl 1 rfl) ?_
              have hPc := hP.sub (ws' := []) [] rfl
              refine va_calli (va_runS (As := [.int p1]) (rest := [.ref dr]) ⟨hx, hb, hml, hown, hts⟩ (mz_g_bit l dC dI cI cJ cZ p1 s.heap ) (va_cwS 1 hts gX7_fit_X7_bit rfl rfl rfl (by decide +kernel) ⟨Nat.le_of_ble_eq_true rfl, Nat.le_of_ble_eq_true rfl⟩) ⟨fun a U g mk q => mz_blP q, fun U hU hW => ⟨rfl, hU, hPc, va_K.moved hW.alike hK, mz_nw hW hN⟩⟩ rfl rfl hl.1 rfl (lv_room (Nat.le_of_ble_eq_true rfl)) dX7_fit_68 ⟨Nat.le_of_ble_eq_true rfl, Nat.le_of_ble_eq_true rfl⟩) hS (fun q _ h => h.elim) (fun q h => h.elim) (fun r_68 u t H1 locs ht hvm hw_68 hB hz1 hk1 hS => ?_)
              have hE : s.heap = H1 := hB.symm.trans ht
              subst hE
              obtain rfl : r_68 = (1 <<< (p1 &&& 31)) := hw_68
              refine lv_iload_n hx hb dX7_fit_71 rfl (lv_at hl 2 rfl) ?_
              have hPc := hP.sub (ws' := []) [] rfl
              refine va_calli (va_runS (As := [.int p2]) (rest := [.int (1 <<< (p1 &&& 31)), .ref dr]) ⟨hx, hb, hml, hown, hts⟩ (mz_g_bit l dC dI cI cJ cZ p2 s.heap ) (va_cwS 1 hts gX7_fit_X7_bit rfl rfl rfl (by decide +kernel) ⟨Nat.le_of_ble_eq_true rfl, Nat.le_of_ble_eq_true rfl⟩) ⟨fun a U g mk q => mz_blP q, fun U hU hW => ⟨rfl, hU, hPc, va_K.moved hW.alike hK, mz_nw hW hN⟩⟩ rfl rfl hl.1 rfl (lv_room (Nat.le_of_ble_eq_true rfl)) dX7_fit_72 ⟨Nat.le_of_ble_eq_true rfl, Nat.le_of_ble_eq_true rfl⟩) hS (fun q _ h => h.elim) (fun q h => h.elim) (fun r_72 u t H1 locs ht hvm hw_72 hB hz1 hk1 hS => ?_)
              have hE : s.heap = H1 := hB.symm.trans ht
              subst hE
              obtain rfl : r_72 = (1 <<< (p2 &&& 31)) := hw_72
              refine lv_iload_n hx hb dX7_fit_75 rfl (lv_at hl 3 rfl) ?_
              have hPc := hP.sub (ws' := [(dr, .inr (2, [.ref dp, .ref dc, .int (nI n)])), (dp, .inl (cI, 8, .inl fp)), (dc, .inl (cI, 8, .inl fc))]) [1, 2, 3] rfl
              refine va_calli (va_runV (As := [.int (1 <<< (p1 &&& 31)), .int (1 <<< (p2 &&& 31)), .int p3]) (rest := []) ⟨hx, hb, hml, hown, hts⟩ (mz_d_barred l dC dI cI cJ cZ dr dp dc n fp fc (1 <<< (p1 &&& 31)) (1 <<< (p2 &&& 31)) p3 s.heap ) (cwV 3 hts gX7_fit_X2_barred rfl rfl rfl (by decide +kernel) ⟨Nat.le_of_ble_eq_true rfl, Nat.le_of_ble_eq_true rfl⟩) ⟨fun a U g mk q => mz_blP q, va_recv hK hPc (ci := 2) (q0 := 0) rfl rfl, fun U hU hW => ⟨rfl, hU, hPc, va_K.moved hW.alike hK, mz_nw hW hN⟩⟩ rfl rfl hl.1 rfl (lv_room (Nat.le_of_ble_eq_true rfl)) dX7_fit_76 ⟨Nat.le_of_ble_eq_true rfl, Nat.le_of_ble_eq_true rfl⟩) hS (fun q _ h => h.elim) (fun q h => h.elim) (fun r_76 u t H1 locs ht hvm hw_76 hB hz1 hk1 hS => ?_)
              have hE : s.heap = H1 := hB.symm.trans ht
              subst hE
              have hP9 := hP.sub (ws' := [(mx, .inr (7, [.ref dr, .ref th, .ref bk, .ref wt, .ref tt, .ref lh, .ref la, .int sh, .long ab, .long be])), (dr, .inr (2, [.ref dp, .ref dc, .int (nI n)])), (dp, .inl (cI, 8, .inl fp)), (dc, .inl (cI, 8, .inl fc)), (th, .inr (2, [.ref tp, .ref tc, .int tn])), (tp, .inl (cI, 8, .inl ftp)), (tc, .inl (cI, 8, .inl ftc))]) [0, 1, 2, 3, 4, 5, 6] rfl
              have hD9 := hD.sub (ws' := [(mx, .inr (7, [.ref dr, .ref th, .ref bk, .ref wt, .ref tt, .ref lh, .ref la, .int sh, .long ab, .long be])), (dr, .inr (2, [.ref dp, .ref dc, .int (nI n)])), (dp, .inl (cI, 8, .inl fp)), (dc, .inl (cI, 8, .inl fc)), (th, .inr (2, [.ref tp, .ref tc, .int tn])), (tp, .inl (cI, 8, .inl ftp)), (tc, .inl (cI, 8, .inl ftc))]) [0, 1, 2, 3, 4, 5, 6] (by decide) rfl
              refine W.widen (k := 0) (n := 0) (Nat.le_of_ble_eq_true rfl) (Nat.le_of_ble_eq_true rfl) ?_
              exact W.zret (v := r_76) hx hb hr (mz_nzo hw_76) (fun t ht hW => ⟨⟨r_76, (), rfl, hw_76, tn, ftp, ftc, by rw [ht]; exact hP9, hD9⟩, hS.F ht⟩) hS.2.2 dX7_fit_79
          · skip
            refine lv_iconst (v := 0) hx hb dX7_fit_46 (by decide +kernel) ?_
            have hP9 := hP.sub (ws' := [(mx, .inr (7, [.ref dr, .ref th, .ref bk, .ref wt, .ref tt, .ref lh, .ref la, .int sh, .long ab, .long be])), (dr, .inr (2, [.ref dp, .ref dc, .int (nI n)])), (dp, .inl (cI, 8, .inl fp)), (dc, .inl (cI, 8, .inl fc)), (th, .inr (2, [.ref tp, .ref tc, .int tn])), (tp, .inl (cI, 8, .inl ftp)), (tc, .inl (cI, 8, .inl ftc))]) [0, 1, 2, 3, 4, 5, 6] rfl
            have hD9 := hD.sub (ws' := [(mx, .inr (7, [.ref dr, .ref th, .ref bk, .ref wt, .ref tt, .ref lh, .ref la, .int sh, .long ab, .long be])), (dr, .inr (2, [.ref dp, .ref dc, .int (nI n)])), (dp, .inl (cI, 8, .inl fp)), (dc, .inl (cI, 8, .inl fc)), (th, .inr (2, [.ref tp, .ref tc, .int tn])), (tp, .inl (cI, 8, .inl ftp)), (tc, .inl (cI, 8, .inl ftc))]) [0, 1, 2, 3, 4, 5, 6] (by decide) rfl
            refine W.widen (k := 0) (n := 0) (Nat.le_of_ble_eq_true rfl) (Nat.le_of_ble_eq_true rfl) ?_
            exact W.zret (v := 0) hx hb hr (mz_nz (by decide +kernel)) (fun t ht hW => ⟨⟨0, (), rfl, Or.inl rfl, tn, ftp, ftc, by rw [ht]; exact hP9, hD9⟩, hS.F ht⟩) hS.2.2 dX7_fit_47
        · skip
          refine lv_iconst (v := 0) hx hb dX7_fit_33 (by decide +kernel) ?_
          have hP9 := hP.sub (ws' := [(mx, .inr (7, [.ref dr, .ref th, .ref bk, .ref wt, .ref tt, .ref lh, .ref la, .int sh, .long ab, .long be])), (dr, .inr (2, [.ref dp, .ref dc, .int (nI n)])), (dp, .inl (cI, 8, .inl fp)), (dc, .inl (cI, 8, .inl fc)), (th, .inr (2, [.ref tp, .ref tc, .int tn])), (tp, .inl (cI, 8, .inl ftp)), (tc, .inl (cI, 8, .inl ftc))]) [0, 1, 2, 3, 4, 5, 6] rfl
          have hD9 := hD.sub (ws' := [(mx, .inr (7, [.ref dr, .ref th, .ref bk, .ref wt, .ref tt, .ref lh, .ref la, .int sh, .long ab, .long be])), (dr, .inr (2, [.ref dp, .ref dc, .int (nI n)])), (dp, .inl (cI, 8, .inl fp)), (dc, .inl (cI, 8, .inl fc)), (th, .inr (2, [.ref tp, .ref tc, .int tn])), (tp, .inl (cI, 8, .inl ftp)), (tc, .inl (cI, 8, .inl ftc))]) [0, 1, 2, 3, 4, 5, 6] (by decide) rfl
          refine W.widen (k := 0) (n := 0) (Nat.le_of_ble_eq_true rfl) (Nat.le_of_ble_eq_true rfl) ?_
          exact W.zret (v := 0) hx hb hr (mz_nz (by decide +kernel)) (fun t ht hW => ⟨⟨0, (), rfl, Or.inl rfl, tn, ftp, ftc, by rw [ht]; exact hP9, hD9⟩, hS.F ht⟩) hS.2.2 dX7_fit_34
set_option maxHeartbeats 1000000 in
set_option maxRecDepth 100000 in
theorem mz_x_agrees (l : Launch) (dC : Nat → ClassId) (dI : Nat → Nat → Nat) (cI cJ cZ : ClassId) (mx : Nat) (dr : Nat) (th : Nat) (bk : Nat) (wt : Nat) (tt : Nat) (lh : Nat) (la : Nat) (sh : Int32) (ab : Int64) (be : Int64) (dp : Nat) (dc : Nat) (n : Nat) (fp : Nat → Int32) (bp : Nat) (fb : Nat → Int32) (wo : Nat) (ev : Int32) (fw : Nat → Int64) (b1 : Nat) (b1l : Nat) (u1 : Nat) (f1 : Nat → Int64) (b2 : Nat) (b2l : Nat) (u2 : Nat) (f2 : Nat → Int64) (b3 : Nat) (b3l : Nat) (u3 : Nat) (f3 : Nat → Int64) (p1 : Int32) (p2 : Int32) (p3 : Int32) (p4 : Int32) (p5 : Int32) (sz : Nat) (hn : n ≤ 8) (hu1 : u1 ≤ 128) (hu2 : u2 ≤ 128) (hu3 : u3 ≤ 128) : Met l yX7_agrees wsX7_agrees ({ frames := 4, cells := 0, slots := 0, locals := 119 }) (va_Pc [.ref mx, .int p1, .int p2, .int p3, .int p4, .int p5] (fun U => U.heap.size = sz ∧ va_P (dC, dI) vwCl [(mx, .inr (7, [.ref dr, .ref th, .ref bk, .ref wt, .ref tt, .ref lh, .ref la, .int sh, .long ab, .long be])), (dr, .inr (2, [.ref dp, .ref dc, .int (nI n)])), (dp, .inl (cI, 8, .inl fp)), (bk, .inr (1, [.ref bp])), (bp, .inl (cI, 1024, .inl fb)), (wt, .inr (6, [.ref wo, .int ev])), (wo, .inl (cJ, 256, .inr (.inl fw))), (tt, .inr (5, [.ref b1, .ref b2, .ref b3])), (b1, .inr (0, [.ref b1l, .int (nI u1)])), (b1l, .inl (cJ, 128, .inr (.inl f1))), (b2, .inr (0, [.ref b2l, .int (nI u2)])), (b2l, .inl (cJ, 128, .inr (.inl f2))), (b3, .inr (0, [.ref b3l, .int (nI u3)])), (b3l, .inl (cJ, 128, .inr (.inl f3)))] U.heap ∧ va_K (dC, dI) vwCl [(cI, FieldType.int), (cJ, FieldType.long), (cZ, FieldType.boolean)] U ∧ va_D (fun _ => True) [(mx, .inr (7, [.ref dr, .ref th, .ref bk, .ref wt, .ref tt, .ref lh, .ref la, .int sh, .long ab, .long be])), (dr, .inr (2, [.ref dp, .ref dc, .int (nI n)])), (dp, .inl (cI, 8, .inl fp)), (bk, .inr (1, [.ref bp])), (bp, .inl (cI, 1024, .inl fb)), (wt, .inr (6, [.ref wo, .int ev])), (wo, .inl (cJ, 256, .inr (.inl fw))), (tt, .inr (5, [.ref b1, .ref b2, .ref b3])), (b1, .inr (0, [.ref b1l, .int (nI u1)])), (b1l, .inl (cJ, 128, .inr (.inl f1))), (b2, .inr (0, [.ref b2l, .int (nI u2)])), (b2l, .inl (cJ, 128, .inr (.inl f2))), (b3, .inr (0, [.ref b3l, .int (nI u3)])), (b3l, .inl (cJ, 128, .inr (.inl f3)))] ∧ mz_N U)) (va_Qi (fun (r : Int32) (_ : Unit) => True) (fun _ t => ∃ (gev : Int32), ∃ (gw : Nat → Int64), ∃ (g1 : Nat), ∃ (h1 : Nat → Int64), ∃ (g2 : Nat), ∃ (h2 : Nat → Int64), ∃ (g3 : Nat), ∃ (h3 : Nat → Int64), (g1 ≤ 128) ∧ (g2 ≤ 128) ∧ (g3 ≤ 128) ∧ va_P (dC, dI) vwCl [(mx, .inr (7, [.ref dr, .ref th, .ref bk, .ref wt, .ref tt, .ref lh, .ref la, .int sh, .long ab, .long be])), (dr, .inr (2, [.ref dp, .ref dc, .int (nI n)])), (dp, .inl (cI, 8, .inl fp)), (bk, .inr (1, [.ref bp])), (bp, .inl (cI, 1024, .inl fb)), (wt, .inr (6, [.ref wo, .int gev])), (wo, .inl (cJ, 256, .inr (.inl gw))), (tt, .inr (5, [.ref b1, .ref b2, .ref b3])), (b1, .inr (0, [.ref b1l, .int (nI g1)])), (b1l, .inl (cJ, 128, .inr (.inl h1))), (b2, .inr (0, [.ref b2l, .int (nI g2)])), (b2l, .inl (cJ, 128, .inr (.inl h2))), (b3, .inr (0, [.ref b3l, .int (nI g3)])), (b3l, .inl (cJ, 128, .inr (.inl h3)))] t.heap ∧ va_D (va_A [(mx, .inr (7, [.ref dr, .ref th, .ref bk, .ref wt, .ref tt, .ref lh, .ref la, .int sh, .long ab, .long be])), (dr, .inr (2, [.ref dp, .ref dc, .int (nI n)])), (dp, .inl (cI, 8, .inl fp)), (bk, .inr (1, [.ref bp])), (bp, .inl (cI, 1024, .inl fb)), (wt, .inr (6, [.ref wo, .int ev])), (wo, .inl (cJ, 256, .inr (.inl fw))), (tt, .inr (5, [.ref b1, .ref b2, .ref b3])), (b1, .inr (0, [.ref b1l, .int (nI u1)])), (b1l, .inl (cJ, 128, .inr (.inl f1))), (b2, .inr (0, [.ref b2l, .int (nI u2)])), (b2l, .inl (cJ, 128, .inr (.inl f2))), (b3, .inr (0, [.ref b3l, .int (nI u3)])), (b3l, .inl (cJ, 128, .inr (.inl f3)))] sz) [(mx, .inr (7, [.ref dr, .ref th, .ref bk, .ref wt, .ref tt, .ref lh, .ref la, .int sh, .long ab, .long be])), (dr, .inr (2, [.ref dp, .ref dc, .int (nI n)])), (dp, .inl (cI, 8, .inl fp)), (bk, .inr (1, [.ref bp])), (bp, .inl (cI, 1024, .inl fb)), (wt, .inr (6, [.ref wo, .int gev])), (wo, .inl (cJ, 256, .inr (.inl gw))), (tt, .inr (5, [.ref b1, .ref b2, .ref b3])), (b1, .inr (0, [.ref b1l, .int (nI g1)])), (b1l, .inl (cJ, 128, .inr (.inl h1))), (b2, .inr (0, [.ref b2l, .int (nI g2)])), (b2l, .inl (cJ, 128, .inr (.inl h2))), (b3, .inr (0, [.ref b3l, .int (nI g3)])), (b3l, .inl (cJ, 128, .inr (.inl h3)))]) (va_A [(mx, .inr (7, [.ref dr, .ref th, .ref bk, .ref wt, .ref tt, .ref lh, .ref la, .int sh, .long ab, .long be])), (dr, .inr (2, [.ref dp, .ref dc, .int (nI n)])), (dp, .inl (cI, 8, .inl fp)), (bk, .inr (1, [.ref bp])), (bp, .inl (cI, 1024, .inl fb)), (wt, .inr (6, [.ref wo, .int ev])), (wo, .inl (cJ, 256, .inr (.inl fw))), (tt, .inr (5, [.ref b1, .ref b2, .ref b3])), (b1, .inr (0, [.ref b1l, .int (nI u1)])), (b1l, .inl (cJ, 128, .inr (.inl f1))), (b2, .inr (0, [.ref b2l, .int (nI u2)])), (b2l, .inl (cJ, 128, .inr (.inl f2))), (b3, .inr (0, [.ref b3l, .int (nI u3)])), (b3l, .inl (cJ, 128, .inr (.inl f3)))] sz)) 0 0 (va_A [(mx, .inr (7, [.ref dr, .ref th, .ref bk, .ref wt, .ref tt, .ref lh, .ref la, .int sh, .long ab, .long be])), (dr, .inr (2, [.ref dp, .ref dc, .int (nI n)])), (dp, .inl (cI, 8, .inl fp)), (bk, .inr (1, [.ref bp])), (bp, .inl (cI, 1024, .inl fb)), (wt, .inr (6, [.ref wo, .int ev])), (wo, .inl (cJ, 256, .inr (.inl fw))), (tt, .inr (5, [.ref b1, .ref b2, .ref b3])), (b1, .inr (0, [.ref b1l, .int (nI u1)])), (b1l, .inl (cJ, 128, .inr (.inl f1))), (b2, .inr (0, [.ref b2l, .int (nI u2)])), (b2l, .inl (cJ, 128, .inr (.inl f2))), (b3, .inr (0, [.ref b3l, .int (nI u3)])), (b3l, .inl (cJ, 128, .inr (.inl f3)))] sz) := by
  refine Met.ofW (cc := cX7_agrees) (maxL := 8) (ret := (some .int)) (by decide) rfl ?_
  intro p e s m args below meth c s₁ B hml hv
  obtain ⟨rfl, hsz, hP, hK, hD0, hN⟩ := hv
  subst hsz
  have hx := B.exec
  have hb := B.bytes
  have hr := B.returns
  have hts := atoms_spec (ws := wsX7_agrees) B.pre
  have hown : s.vm.findClass RX7 = some m.cls := findClass_of_methodNamed B.named
  have hlocks := B.notSynchronized
  have hD := hD0.self (sz := s.heap.size)
  generalize hAe : va_A [(mx, .inr (7, [.ref dr, .ref th, .ref bk, .ref wt, .ref tt, .ref lh, .ref la, .int sh, .long ab, .long be])), (dr, .inr (2, [.ref dp, .ref dc, .int (nI n)])), (dp, .inl (cI, 8, .inl fp)), (bk, .inr (1, [.ref bp])), (bp, .inl (cI, 1024, .inl fb)), (wt, .inr (6, [.ref wo, .int ev])), (wo, .inl (cJ, 256, .inr (.inl fw))), (tt, .inr (5, [.ref b1, .ref b2, .ref b3])), (b1, .inr (0, [.ref b1l, .int (nI u1)])), (b1l, .inl (cJ, 128, .inr (.inl f1))), (b2, .inr (0, [.ref b2l, .int (nI u2)])), (b2l, .inl (cJ, 128, .inr (.inl f2))), (b3, .inr (0, [.ref b3l, .int (nI u3)])), (b3l, .inl (cJ, 128, .inr (.inl f3)))] s.heap.size = A at hD ⊢
  have hA : ∀ q : Nat, s.heap.size ≤ q → A q := fun q h => by rw [← hAe]; exact Or.inr h
  have hS : va_S A s.heap s.heap [] := va_S.rf
  have hiX7 : ∀ w ∈ u_ws RX7 TX7 10, w ∈ wsX7_agrees := by decide +kernel
  have hl := lv_entry ([.ref mx, .int p1, .int p2, .int p3, .int p4, .int p5]) (n := 8) (Nat.le_of_ble_eq_true rfl)
  rw [lg_entry_eq]
  generalize (lg_sl ([.ref mx, .int p1, .int p2, .int p3, .int p4, .int p5]) ++ List.replicate (8 - (lg_sl ([.ref mx, .int p1, .int p2, .int p3, .int p4, .int p5])).length) Slot.unset).toArray = ls at hl ⊢
  have hl : lv_has ls 8 [(0, .ref mx), (1, .int p1), (2, .int p2), (3, .int p3), (4, .int p4), (5, .int p5)] := hl
  refine lv_aload_n hx hb dX7_agrees_0 rfl (lv_at hl 0 rfl) ?_
  refine va_get (D := (dC, dI)) (ci := 7) (v := .ref dr) (C := RX7) (T := TX7) (N := 10) hx hb hts hiX7 hown hK hP 0 rfl rfl 0 (by decide) (hts (.fieldLink RX7 12 "MadeItSo" "drawing" "LMadeItSo$Drawing;") (by decide +kernel)) (fun _ h9 => h9) rfl dX7_agrees_1 ?_
  refine lv_iload_n hx hb dX7_agrees_4 rfl (lv_at hl 1 rfl) ?_
  have hPc := hP.sub (ws' := [(dr, .inr (2, [.ref dp, .ref dc, .int (nI n)]))]) [1] rfl
  refine va_calli (va_runV (As := [.int p1]) (rest := []) ⟨hx, hb, hml, hown, hts⟩ (mz_d_has l dC dI cI cJ cZ dr dp dc n p1 s.heap (by first | assumption | omega)) (cwV 1 hts gX7_agrees_X2_has rfl rfl rfl (by decide +kernel) ⟨Nat.le_of_ble_eq_true rfl, Nat.le_of_ble_eq_true rfl⟩) ⟨fun a U g mk q => mz_blP q, va_recv hK hPc (ci := 2) (q0 := 0) rfl rfl, fun U hU hW => ⟨rfl, hU, hPc, va_K.moved hW.alike hK, mz_nw hW hN⟩⟩ rfl rfl hl.1 rfl (lv_room (Nat.le_of_ble_eq_true rfl)) dX7_agrees_5 ⟨Nat.le_of_ble_eq_true rfl, Nat.le_of_ble_eq_true rfl⟩) hS (fun q _ h => h.elim) (fun q h => h.elim) (fun r_5 u t H1 locs ht hvm hw_5 hB hz1 hk1 hS => ?_)
  have hE : s.heap = H1 := hB.symm.trans ht
  subst hE
  rcases (show (r_5 = 1 ∧ ∃ j : Nat, j < n ∧ p1 = nI j) ∨ r_5 = 0 from hw_5) with ⟨rfl, j_5, hj_5, he_5⟩ | rfl
  · skip
    subst he_5
    refine lv_if_eq (tgt := 46) hx hb dX7_agrees_8 (by decide) (fun c_8 => absurd c_8 (by decide +kernel)) (fun _ => ?_)
    refine lv_aload_n hx hb dX7_agrees_11 rfl (lv_at hl 0 rfl) ?_
    refine va_get (D := (dC, dI)) (ci := 7) (v := .ref dr) (C := RX7) (T := TX7) (N := 10) hx hb hts hiX7 hown hK hP 0 rfl rfl 0 (by decide) (hts (.fieldLink RX7 12 "MadeItSo" "drawing" "LMadeItSo$Drawing;") (by decide +kernel)) (fun _ h9 => h9) rfl dX7_agrees_12 ?_
    refine lv_iload_n hx hb dX7_agrees_15 rfl (lv_at hl 2 rfl) ?_
    have hPc := hP.sub (ws' := [(dr, .inr (2, [.ref dp, .ref dc, .int (nI n)]))]) [1] rfl
    refine va_calli (va_runV (As := [.int p2]) (rest := []) ⟨hx, hb, hml, hown, hts⟩ (mz_d_has l dC dI cI cJ cZ dr dp dc n p2 s.heap (by first | assumption | omega)) (cwV 1 hts gX7_agrees_X2_has rfl rfl rfl (by decide +kernel) ⟨Nat.le_of_ble_eq_true rfl, Nat.le_of_ble_eq_true rfl⟩) ⟨fun a U g mk q => mz_blP q, va_recv hK hPc (ci := 2) (q0 := 0) rfl rfl, fun U hU hW => ⟨rfl, hU, hPc, va_K.moved hW.alike hK, mz_nw hW hN⟩⟩ rfl rfl hl.1 rfl (lv_room (Nat.le_of_ble_eq_true rfl)) dX7_agrees_16 ⟨Nat.le_of_ble_eq_true rfl, Nat.le_of_ble_eq_true rfl⟩) hS (fun q _ h => h.elim) (fun q h => h.elim) (fun r_16 u t H1 locs ht hvm hw_16 hB hz1 hk1 hS => ?_)
    have hE : s.heap = H1 := hB.symm.trans ht
    subst hE
    rcases (show (r_16 = 1 ∧ ∃ j : Nat, j < n ∧ p2 = nI j) ∨ r_16 = 0 from hw_16) with ⟨rfl, j_16, hj_16, he_16⟩ | rfl
    · skip
      subst he_16
      refine lv_if_eq (tgt := 46) hx hb dX7_agrees_19 (by decide) (fun c_19 => absurd c_19 (by decide +kernel)) (fun _ => ?_)
      refine lv_aload_n hx hb dX7_agrees_22 rfl (lv_at hl 0 rfl) ?_
      refine lv_iload_n hx hb dX7_agrees_23 rfl (lv_at hl 3 rfl) ?_
      have hPc := hP.sub (ws' := [(mx, .inr (7, [.ref dr, .ref th, .ref bk, .ref wt, .ref tt, .ref lh, .ref la, .int sh, .long ab, .long be])), (dr, .inr (2, [.ref dp, .ref dc, .int (nI n)]))]) [0, 1] rfl
      refine va_calli (va_runV (As := [.int p3]) (rest := []) ⟨hx, hb, hml, hown, hts⟩ (mz_x_isHeap l dC dI cI cJ cZ mx dr th bk wt tt lh la sh ab be dp dc n p3 s.heap (by first | assumption | omega)) (cwV 1 hts gX7_agrees_X7_isHeap rfl rfl rfl (by decide +kernel) ⟨Nat.le_of_ble_eq_true rfl, Nat.le_of_ble_eq_true rfl⟩) ⟨fun a U g mk q => mz_blP q, va_recv hK hPc (ci := 7) (q0 := 0) rfl rfl, fun U hU hW => ⟨rfl, hU, hPc, va_K.moved hW.alike hK, mz_nw hW hN⟩⟩ rfl rfl hl.1 rfl (lv_room (Nat.le_of_ble_eq_true rfl)) dX7_agrees_24 ⟨Nat.le_of_ble_eq_true rfl, Nat.le_of_ble_eq_true rfl⟩) hS (fun q _ h => h.elim) (fun q h => h.elim) (fun r_24 u t H1 locs ht hvm hw_24 hB hz1 hk1 hS => ?_)
      have hE : s.heap = H1 := hB.symm.trans ht
      subst hE
      refine lv_if_eq (tgt := 46) hx hb dX7_agrees_27 (by decide) (fun c_27 => ?_) (fun c_27 => ?_)
      · skip
        refine lv_iconst (v := (-1)) hx hb dX7_agrees_46 (by decide +kernel) ?_
        have hP9 := hP.sub (ws' := [(mx, .inr (7, [.ref dr, .ref th, .ref bk, .ref wt, .ref tt, .ref lh, .ref la, .int sh, .long ab, .long be])), (dr, .inr (2, [.ref dp, .ref dc, .int (nI n)])), (dp, .inl (cI, 8, .inl fp)), (bk, .inr (1, [.ref bp])), (bp, .inl (cI, 1024, .inl fb)), (wt, .inr (6, [.ref wo, .int ev])), (wo, .inl (cJ, 256, .inr (.inl fw))), (tt, .inr (5, [.ref b1, .ref b2, .ref b3])), (b1, .inr (0, [.ref b1l, .int (nI u1)])), (b1l, .inl (cJ, 128, .inr (.inl f1))), (b2, .inr (0, [.ref b2l, .int (nI u2)])), (b2l, .inl (cJ, 128, .inr (.inl f2))), (b3, .inr (0, [.ref b3l, .int (nI u3)])), (b3l, .inl (cJ, 128, .inr (.inl f3)))]) [0, 1, 2, 3, 4, 5, 6, 7, 8, 9, 10, 11, 12, 13] rfl
        have hD9 := hD.sub (ws' := [(mx, .inr (7, [.ref dr, .ref th, .ref bk, .ref wt, .ref tt, .ref lh, .ref la, .int sh, .long ab, .long be])), (dr, .inr (2, [.ref dp, .ref dc, .int (nI n)])), (dp, .inl (cI, 8, .inl fp)), (bk, .inr (1, [.ref bp])), (bp, .inl (cI, 1024, .inl fb)), (wt, .inr (6, [.ref wo, .int ev])), (wo, .inl (cJ, 256, .inr (.inl fw))), (tt, .inr (5, [.ref b1, .ref b2, .ref b3])), (b1, .inr (0, [.ref b1l, .int (nI u1)])), (b1l, .inl (cJ, 128, .inr (.inl f1))), (b2, .inr (0, [.ref b2l, .int (nI u2)])), (b2l, .inl (cJ, 128, .inr (.inl f2))), (b3, .inr (0, [.ref b3l, .int (nI u3)])), (b3l, .inl (cJ, 128, .inr (.inl f3)))]) [0, 1, 2, 3, 4, 5, 6, 7, 8, 9, 10, 11, 12, 13] (by decide) rfl
        refine W.widen (k := 0) (n := 0) (Nat.le_of_ble_eq_true rfl) (Nat.le_of_ble_eq_true rfl) ?_
        exact W.iret (v := (-1)) hx hb hr (fun t ht hW => ⟨⟨(-1), (), rfl, trivial, ev, fw, u1, f1, u2, f2, u3, f3, (by first | assumption | omega), (by first | assumption | omega), (by first | assumption | omega), by rw [ht]; exact hP9, hD9⟩, hS.F ht⟩) hS.2.2 dX7_agrees_47
      · skip
        refine lv_iload_n hx hb dX7_agrees_30 rfl (lv_at hl 3 rfl) ?_
        refine lv_iload_n hx hb dX7_agrees_31 rfl (lv_at hl 1 rfl) ?_
        have hPc := hP.sub (ws' := []) [] rfl
        refine va_calli (va_runS (As := [.int p3, .int (nI j_5)]) (rest := []) ⟨hx, hb, hml, hown, hts⟩ (mz_g_inHeap l dC dI cI cJ cZ p3 (nI j_5) s.heap ) (va_cwS 2 hts gX7_agrees_X7_inHeap rfl rfl rfl (by decide +kernel) ⟨Nat.le_of_ble_eq_true rfl, Nat.le_of_ble_eq_true rfl⟩) ⟨fun a U g mk q => mz_blP q, fun U hU hW => ⟨rfl, hU, hPc, va_K.moved hW.alike hK, mz_nw hW hN⟩⟩ rfl rfl hl.1 rfl (lv_room (Nat.le_of_ble_eq_true rfl)) dX7_agrees_32 ⟨Nat.le_of_ble_eq_true rfl, Nat.le_of_ble_eq_true rfl⟩) hS (fun q _ h => h.elim) (fun q h => h.elim) (fun r_32 u t H1 locs ht hvm hw_32 hB hz1 hk1 hS => ?_)
        have hE : s.heap = H1 := hB.symm.trans ht
        subst hE
        refine lv_if_ne (tgt := 46) hx hb dX7_agrees_35 (by decide) (fun c_35 => ?_) (fun c_35 => ?_)
        · skip
          refine lv_iconst (v := (-1)) hx hb dX7_agrees_46 (by decide +kernel) ?_
          have hP9 := hP.sub (ws' := [(mx, .inr (7, [.ref dr, .ref th, .ref bk, .ref wt, .ref tt, .ref lh, .ref la, .int sh, .long ab, .long be])), (dr, .inr (2, [.ref dp, .ref dc, .int (nI n)])), (dp, .inl (cI, 8, .inl fp)), (bk, .inr (1, [.ref bp])), (bp, .inl (cI, 1024, .inl fb)), (wt, .inr (6, [.ref wo, .int ev])), (wo, .inl (cJ, 256, .inr (.inl fw))), (tt, .inr (5, [.ref b1, .ref b2, .ref b3])), (b1, .inr (0, [.ref b1l, .int (nI u1)])), (b1l, .inl (cJ, 128, .inr (.inl f1))), (b2, .inr (0, [.ref b2l, .int (nI u2)])), (b2l, .inl (cJ, 128, .inr (.inl f2))), (b3, .inr (0, [.ref b3l, .int (nI u3)])), (b3l, .inl (cJ, 128, .inr (.inl f3)))]) [0, 1, 2, 3, 4, 5, 6, 7, 8, 9, 10, 11, 12, 13] rfl
          have hD9 := hD.sub (ws' := [(mx, .inr (7, [.ref dr, .ref th, .ref bk, .ref wt, .ref tt, .ref lh, .ref la, .int sh, .long ab, .long be])), (dr, .inr (2, [.ref dp, .ref dc, .int (nI n)])), (dp, .inl (cI, 8, .inl fp)), (bk, .inr (1, [.ref bp])), (bp, .inl (cI, 1024, .inl fb)), (wt, .inr (6, [.ref wo, .int ev])), (wo, .inl (cJ, 256, .inr (.inl fw))), (tt, .inr (5, [.ref b1, .ref b2, .ref b3])), (b1, .inr (0, [.ref b1l, .int (nI u1)])), (b1l, .inl (cJ, 128, .inr (.inl f1))), (b2, .inr (0, [.ref b2l, .int (nI u2)])), (b2l, .inl (cJ, 128, .inr (.inl f2))), (b3, .inr (0, [.ref b3l, .int (nI u3)])), (b3l, .inl (cJ, 128, .inr (.inl f3)))]) [0, 1, 2, 3, 4, 5, 6, 7, 8, 9, 10, 11, 12, 13] (by decide) rfl
          refine W.widen (k := 0) (n := 0) (Nat.le_of_ble_eq_true rfl) (Nat.le_of_ble_eq_true rfl) ?_
          exact W.iret (v := (-1)) hx hb hr (fun t ht hW => ⟨⟨(-1), (), rfl, trivial, ev, fw, u1, f1, u2, f2, u3, f3, (by first | assumption | omega), (by first | assumption | omega), (by first | assumption | omega), by rw [ht]; exact hP9, hD9⟩, hS.F ht⟩) hS.2.2 dX7_agrees_47
        · skip
          refine lv_iload_n hx hb dX7_agrees_38 rfl (lv_at hl 3 rfl) ?_
          refine lv_iload_n hx hb dX7_agrees_39 rfl (lv_at hl 2 rfl) ?_
          have hPc := hP.sub (ws' := []) [] rfl
          refine va_calli (va_runS (As := [.int p3, .int (nI j_16)]) (rest := []) ⟨hx, hb, hml, hown, hts⟩ (mz_g_inHeap l dC dI cI cJ cZ p3 (nI j_16) s.heap ) (va_cwS 2 hts gX7_agrees_X7_inHeap rfl rfl rfl (by decide +kernel) ⟨Nat.le_of_ble_eq_true rfl, Nat.le_of_ble_eq_true rfl⟩) ⟨fun a U g mk q => mz_blP q, fun U hU hW => ⟨rfl, hU, hPc, va_K.moved hW.alike hK, mz_nw hW hN⟩⟩ rfl rfl hl.1 rfl (lv_room (Nat.le_of_ble_eq_true rfl)) dX7_agrees_40 ⟨Nat.le_of_ble_eq_true rfl, Nat.le_of_ble_eq_true rfl⟩) hS (fun q _ h => h.elim) (fun q h => h.elim) (fun r_40 u t H1 locs ht hvm hw_40 hB hz1 hk1 hS => ?_)
          have hE : s.heap = H1 := hB.symm.trans ht
          subst hE
          refine lv_if_eq (tgt := 48) hx hb dX7_agrees_43 (by decide) (fun c_43 => ?_) (fun c_43 => ?_)
          · skip
            refine lv_iload hx hb dX7_agrees_48 (lv_at hl 4 rfl) ?_
            have hPc := hP.sub (ws' := []) [] rfl
            refine va_calli (va_runS (As := [.int p4]) (rest := []) ⟨hx, hb, hml, hown, hts⟩ (mz_g_isBit l dC dI cI cJ cZ p4 s.heap ) (va_cwS 1 hts gX7_agrees_X7_isBit rfl rfl rfl (by decide +kernel) ⟨Nat.le_of_ble_eq_true rfl, Nat.le_of_ble_eq_true rfl⟩) ⟨fun a U g mk q => mz_blP q, fun U hU hW => ⟨rfl, hU, hPc, va_K.moved hW.alike hK, mz_nw hW hN⟩⟩ rfl rfl hl.1 rfl (lv_room (Nat.le_of_ble_eq_true rfl)) dX7_agrees_50 ⟨Nat.le_of_ble_eq_true rfl, Nat.le_of_ble_eq_true rfl⟩) hS (fun q _ h => h.elim) (fun q h => h.elim) (fun r_50 u t H1 locs ht hvm hw_50 hB hz1 hk1 hS => ?_)
            have hE : s.heap = H1 := hB.symm.trans ht
            subst hE
            refine lv_if_eq (tgt := 64) hx hb dX7_agrees_53 (by decide) (fun c_53 => ?_) (fun c_53 => ?_)
            · skip
              refine lv_iconst (v := (-1)) hx hb dX7_agrees_64 (by decide +kernel) ?_
              have hP9 := hP.sub (ws' := [(mx, .inr (7, [.ref dr, .ref th, .ref bk, .ref wt, .ref tt, .ref lh, .ref la, .int sh, .long ab, .long be])), (dr, .inr (2, [.ref dp, .ref dc, .int (nI n)])), (dp, .inl (cI, 8, .inl fp)), (bk, .inr (1, [.ref bp])), (bp, .inl (cI, 1024, .inl fb)), (wt, .inr (6, [.ref wo, .int ev])), (wo, .inl (cJ, 256, .inr (.inl fw))), (tt, .inr (5, [.ref b1, .ref b2, .ref b3])), (b1, .inr (0, [.ref b1l, .int (nI u1)])), (b1l, .inl (cJ, 128, .inr (.inl f1))), (b2, .inr (0, [.ref b2l, .int (nI u2)])), (b2l, .inl (cJ, 128, .inr (.inl f2))), (b3, .inr (0, [.ref b3l, .int (nI u3)])), (b3l, .inl (cJ, 128, .inr (.inl f3)))]) [0, 1, 2, 3, 4, 5, 6, 7, 8, 9, 10, 11, 12, 13] rfl
              have hD9 := hD.sub (ws' := [(mx, .inr (7, [.ref dr, .ref th, .ref bk, .ref wt, .ref tt, .ref lh, .ref la, .int sh, .long ab, .long be])), (dr, .inr (2, [.ref dp, .ref dc, .int (nI n)])), (dp, .inl (cI, 8, .inl fp)), (bk, .inr (1, [.ref bp])), (bp, .inl (cI, 1024, .inl fb)), (wt, .inr (6, [.ref wo, .int ev])), (wo, .inl (cJ, 256, .inr (.inl fw))), (tt, .inr (5, [.ref b1, .ref b2, .ref b3])), (b1, .inr (0, [.ref b1l, .int (nI u1)])), (b1l, .inl (cJ, 128, .inr (.inl f1))), (b2, .inr (0, [.ref b2l, .int (nI u2)])), (b2l, .inl (cJ, 128, .inr (.inl f2))), (b3, .inr (0, [.ref b3l, .int (nI u3)])), (b3l, .inl (cJ, 128, .inr (.inl f3)))]) [0, 1, 2, 3, 4, 5, 6, 7, 8, 9, 10, 11, 12, 13] (by decide) rfl
              refine W.widen (k := 0) (n := 0) (Nat.le_of_ble_eq_true rfl) (Nat.le_of_ble_eq_true rfl) ?_
              exact W.iret (v := (-1)) hx hb hr (fun t ht hW => ⟨⟨(-1), (), rfl, trivial, ev, fw, u1, f1, u2, f2, u3, f3, (by first | assumption | omega), (by first | assumption | omega), (by first | assumption | omega), by rw [ht]; exact hP9, hD9⟩, hS.F ht⟩) hS.2.2 dX7_agrees_65
            · skip
              refine lv_iload hx hb dX7_agrees_56 (lv_at hl 5 rfl) ?_
              have hPc := hP.sub (ws' := []) [] rfl
              refine va_calli (va_runS (As := [.int p5]) (rest := []) ⟨hx, hb, hml, hown, hts⟩ (mz_g_isBit l dC dI cI cJ cZ p5 s.heap ) (va_cwS 1 hts gX7_agrees_X7_isBit rfl rfl rfl (by decide +kernel) ⟨Nat.le_of_ble_eq_true rfl, Nat.le_of_ble_eq_true rfl⟩) ⟨fun a U g mk q => mz_blP q, fun U hU hW => ⟨rfl, hU, hPc, va_K.moved hW.alike hK, mz_nw hW hN⟩⟩ rfl rfl hl.1 rfl (lv_room (Nat.le_of_ble_eq_true rfl)) dX7_agrees_58 ⟨Nat.le_of_ble_eq_true rfl, Nat.le_of_ble_eq_true rfl⟩) hS (fun q _ h => h.elim) (fun q h => h.elim) (fun r_58 u t H1 locs ht hvm hw_58 hB hz1 hk1 hS => ?_)
              have hE : s.heap = H1 := hB.symm.trans ht
              subst hE
              refine lv_if_ne (tgt := 66) hx hb dX7_agrees_61 (by decide) (fun c_61 => ?_) (fun c_61 => ?_)
              · skip
                refine lv_aload_n hx hb dX7_agrees_66 rfl (lv_at hl 0 rfl) ?_
                refine va_get (D := (dC, dI)) (ci := 7) (v := .ref wt) (C := RX7) (T := TX7) (N := 10) hx hb hts hiX7 hown hK hP 0 rfl rfl 3 (by decide) (hts (.fieldLink RX7 29 "MadeItSo" "weights" "LMadeItSo$Weights;") (by decide +kernel)) (fun _ h9 => h9) rfl dX7_agrees_67 ?_
                refine lv_aload_n hx hb dX7_agrees_70 rfl (lv_at hl 0 rfl) ?_
                refine va_get (D := (dC, dI)) (ci := 7) (v := .ref dr) (C := RX7) (T := TX7) (N := 10) hx hb hts hiX7 hown hK hP 0 rfl rfl 0 (by decide) (hts (.fieldLink RX7 12 "MadeItSo" "drawing" "LMadeItSo$Drawing;") (by decide +kernel)) (fun _ h9 => h9) rfl dX7_agrees_71 ?_
                refine lv_aload_n hx hb dX7_agrees_74 rfl (lv_at hl 0 rfl) ?_
                refine va_get (D := (dC, dI)) (ci := 7) (v := .ref bk) (C := RX7) (T := TX7) (N := 10) hx hb hts hiX7 hown hK hP 0 rfl rfl 2 (by decide) (hts (.fieldLink RX7 22 "MadeItSo" "books" "LMadeItSo$Books;") (by decide +kernel)) (fun _ h9 => h9) rfl dX7_agrees_75 ?_
                refine lv_iload_n hx hb dX7_agrees_78 rfl (lv_at hl 1 rfl) ?_
                refine lv_iload hx hb dX7_agrees_79 (lv_at hl 4 rfl) ?_
                have hPc := hP.sub (ws' := []) [] rfl
                refine va_calli (va_runS (As := [.int (nI j_5), .int p4]) (rest := [.ref bk, .ref dr, .ref wt]) ⟨hx, hb, hml, hown, hts⟩ (mz_g_settingOf l dC dI cI cJ cZ (nI j_5) p4 s.heap ) (va_cwS 2 hts gX7_agrees_X7_settingOf rfl rfl rfl (by decide +kernel) ⟨Nat.le_of_ble_eq_true rfl, Nat.le_of_ble_eq_true rfl⟩) ⟨fun a U g mk q => mz_blP q, fun U hU hW => ⟨rfl, hU, hPc, va_K.moved hW.alike hK, mz_nw hW hN⟩⟩ rfl rfl hl.1 rfl (lv_room (Nat.le_of_ble_eq_true rfl)) dX7_agrees_81 ⟨Nat.le_of_ble_eq_true rfl, Nat.le_of_ble_eq_true rfl⟩) hS (fun q _ h => h.elim) (fun q h => h.elim) (fun r_81 u t H1 locs ht hvm hw_81 hB hz1 hk1 hS => ?_)
                have hE : s.heap = H1 := hB.symm.trans ht
                subst hE
                have hPc := hP.sub (ws' := [(wt, .inr (6, [.ref wo, .int ev])), (wo, .inl (cJ, 256, .inr (.inl fw))), (dr, .inr (2, [.ref dp, .ref dc, .int (nI n)])), (dp, .inl (cI, 8, .inl fp)), (bk, .inr (1, [.ref bp])), (bp, .inl (cI, 1024, .inl fb))]) [5, 6, 1, 2, 3, 4] rfl
                have hDc := hD.sub (ws' := [(wt, .inr (6, [.ref wo, .int ev])), (wo, .inl (cJ, 256, .inr (.inl fw))), (dr, .inr (2, [.ref dp, .ref dc, .int (nI n)])), (dp, .inl (cI, 8, .inl fp)), (bk, .inr (1, [.ref bp])), (bp, .inl (cI, 1024, .inl fb))]) [5, 6, 1, 2, 3, 4] (by decide) rfl
                have hFc := va_free (wc := [(wt, .inr (6, [.ref wo, .int ev])), (wo, .inl (cJ, 256, .inr (.inl fw))), (dr, .inr (2, [.ref dp, .ref dc, .int (nI n)])), (dp, .inl (cI, 8, .inl fp)), (bk, .inr (1, [.ref bp])), (bp, .inl (cI, 1024, .inl fb))]) hD hS hA [5, 6, 1, 2, 3, 4] rfl
                refine va_callv (va_runV (As := [.ref dr, .ref bk, .int r_81]) (rest := []) ⟨hx, hb, hml, hown, hts⟩ (mz_w_weigh l dC dI cI cJ cZ wt wo ev fw dr dp dc n fp bk bp fb r_81 s.heap.size (by first | assumption | omega)) (cwV 3 hts gX7_agrees_X6_weigh rfl rfl rfl (by decide +kernel) ⟨Nat.le_of_ble_eq_true rfl, Nat.le_of_ble_eq_true rfl⟩) ⟨fun a U g mk q => mz_blI q, va_recv hK hPc (ci := 6) (q0 := 0) rfl rfl, fun U hU hW => ⟨rfl, by rw [hU], by rw [hU]; exact hPc, va_K.moved hW.alike hK, hDc.weaken (fun _ _ _ _ => trivial), mz_nw hW hN⟩⟩ rfl rfl hl.1 rfl (lv_room (Nat.le_of_ble_eq_true rfl)) dX7_agrees_84 ⟨Nat.le_of_ble_eq_true rfl, Nat.le_of_ble_eq_true rfl⟩) hS (fun q _ h => hFc q h) hFc (fun u t H1 locs ht hvm hw_84 hB hz1 hk1 hS => ?_)
                obtain ⟨gev_84, gw_84, hP1, hD1⟩ := hB
                rw [ht] at hP1
                obtain ⟨hP, hD⟩ := va_join (wr := [(mx, .inr (7, [.ref dr, .ref th, .ref bk, .ref wt, .ref tt, .ref lh, .ref la, .int sh, .long ab, .long be])), (tt, .inr (5, [.ref b1, .ref b2, .ref b3])), (b1, .inr (0, [.ref b1l, .int (nI u1)])), (b1l, .inl (cJ, 128, .inr (.inl f1))), (b2, .inr (0, [.ref b2l, .int (nI u2)])), (b2l, .inl (cJ, 128, .inr (.inl f2))), (b3, .inr (0, [.ref b3l, .int (nI u3)])), (b3l, .inl (cJ, 128, .inr (.inl f3)))]) (w1 := [(wt, .inr (6, [.ref wo, .int gev_84])), (wo, .inl (cJ, 256, .inr (.inl gw_84))), (dr, .inr (2, [.ref dp, .ref dc, .int (nI n)])), (dp, .inl (cI, 8, .inl fp)), (bk, .inr (1, [.ref bp])), (bp, .inl (cI, 1024, .inl fb))]) hP hD [5, 6, 1, 2, 3, 4] [0, 7, 8, 9, 10, 11, 12, 13] rfl rfl (by decide) (by decide) hk1 hFc hP1 hD1
                generalize H1 = H at hP hS ⊢
                have hP : va_P (dC, dI) vwCl [(mx, .inr (7, [.ref dr, .ref th, .ref bk, .ref wt, .ref tt, .ref lh, .ref la, .int sh, .long ab, .long be])), (tt, .inr (5, [.ref b1, .ref b2, .ref b3])), (b1, .inr (0, [.ref b1l, .int (nI u1)])), (b1l, .inl (cJ, 128, .inr (.inl f1))), (b2, .inr (0, [.ref b2l, .int (nI u2)])), (b2l, .inl (cJ, 128, .inr (.inl f2))), (b3, .inr (0, [.ref b3l, .int (nI u3)])), (b3l, .inl (cJ, 128, .inr (.inl f3))), (wt, .inr (6, [.ref wo, .int gev_84])), (wo, .inl (cJ, 256, .inr (.inl gw_84))), (dr, .inr (2, [.ref dp, .ref dc, .int (nI n)])), (dp, .inl (cI, 8, .inl fp)), (bk, .inr (1, [.ref bp])), (bp, .inl (cI, 1024, .inl fb))] H := hP
                have hD : va_D A [(mx, .inr (7, [.ref dr, .ref th, .ref bk, .ref wt, .ref tt, .ref lh, .ref la, .int sh, .long ab, .long be])), (tt, .inr (5, [.ref b1, .ref b2, .ref b3])), (b1, .inr (0, [.ref b1l, .int (nI u1)])), (b1l, .inl (cJ, 128, .inr (.inl f1))), (b2, .inr (0, [.ref b2l, .int (nI u2)])), (b2l, .inl (cJ, 128, .inr (.inl f2))), (b3, .inr (0, [.ref b3l, .int (nI u3)])), (b3l, .inl (cJ, 128, .inr (.inl f3))), (wt, .inr (6, [.ref wo, .int gev_84])), (wo, .inl (cJ, 256, .inr (.inl gw_84))), (dr, .inr (2, [.ref dp, .ref dc, .int (nI n)])), (dp, .inl (cI, 8, .inl fp)), (bk, .inr (1, [.ref bp])), (bp, .inl (cI, 1024, .inl fb))] := hD
                refine lv_aload_n hx hb dX7_agrees_87 rfl (lv_at hl 0 rfl) ?_
                refine va_get (D := (dC, dI)) (ci := 7) (v := .ref wt) (C := RX7) (T := TX7) (N := 10) hx hb hts hiX7 hown hK hP 0 rfl rfl 3 (by decide) (hts (.fieldLink RX7 29 "MadeItSo" "weights" "LMadeItSo$Weights;") (by decide +kernel)) (fun _ h9 => h9) rfl dX7_agrees_88 ?_
                refine lv_iload_n hx hb dX7_agrees_91 rfl (lv_at hl 2 rfl) ?_
                have hPc := hP.sub (ws' := []) [] rfl
                refine va_calli (va_runS (As := [.int (nI j_16)]) (rest := [.ref wt]) ⟨hx, hb, hml, hown, hts⟩ (mz_g_bit l dC dI cI cJ cZ (nI j_16) H ) (va_cwS 1 hts gX7_agrees_X7_bit rfl rfl rfl (by decide +kernel) ⟨Nat.le_of_ble_eq_true rfl, Nat.le_of_ble_eq_true rfl⟩) ⟨fun a U g mk q => mz_blP q, fun U hU hW => ⟨rfl, hU, hPc, va_K.moved hW.alike hK, mz_nw hW hN⟩⟩ rfl rfl hl.1 rfl (lv_room (Nat.le_of_ble_eq_true rfl)) dX7_agrees_92 ⟨Nat.le_of_ble_eq_true rfl, Nat.le_of_ble_eq_true rfl⟩) hS (fun q _ h => h.elim) (fun q h => h.elim) (fun r_92 u t H1 locs ht hvm hw_92 hB hz1 hk1 hS => ?_)
                have hE : H = H1 := hB.symm.trans ht
                subst hE
                obtain rfl : r_92 = (1 <<< ((nI j_16) &&& 31)) := hw_92
                refine lv_iload_n hx hb dX7_agrees_95 rfl (lv_at hl 2 rfl) ?_
                refine lv_iload hx hb dX7_agrees_96 (lv_at hl 5 rfl) ?_
                have hPc := hP.sub (ws' := []) [] rfl
                refine va_calli (va_runS (As := [.int (nI j_16), .int p5]) (rest := [.int (1 <<< ((nI j_16) &&& 31)), .ref wt]) ⟨hx, hb, hml, hown, hts⟩ (mz_g_settingOf l dC dI cI cJ cZ (nI j_16) p5 H ) (va_cwS 2 hts gX7_agrees_X7_settingOf rfl rfl rfl (by decide +kernel) ⟨Nat.le_of_ble_eq_true rfl, Nat.le_of_ble_eq_true rfl⟩) ⟨fun a U g mk q => mz_blP q, fun U hU hW => ⟨rfl, hU, hPc, va_K.moved hW.alike hK, mz_nw hW hN⟩⟩ rfl rfl hl.1 rfl (lv_room (Nat.le_of_ble_eq_true rfl)) dX7_agrees_98 ⟨Nat.le_of_ble_eq_true rfl, Nat.le_of_ble_eq_true rfl⟩) hS (fun q _ h => h.elim) (fun q h => h.elim) (fun r_98 u t H1 locs ht hvm hw_98 hB hz1 hk1 hS => ?_)
                have hE : H = H1 := hB.symm.trans ht
                subst hE
                have hPc := hP.sub (ws' := []) [] rfl
                refine va_calli (va_runS (As := [.int r_98]) (rest := [.int (1 <<< ((nI j_16) &&& 31)), .ref wt]) ⟨hx, hb, hml, hown, hts⟩ (mz_g_onesOf l dC dI cI cJ cZ r_98 H ) (va_cwS 1 hts gX7_agrees_X7_onesOf rfl rfl rfl (by decide +kernel) ⟨Nat.le_of_ble_eq_true rfl, Nat.le_of_ble_eq_true rfl⟩) ⟨fun a U g mk q => mz_blP q, fun U hU hW => ⟨rfl, hU, hPc, va_K.moved hW.alike hK, mz_nw hW hN⟩⟩ rfl rfl hl.1 rfl (lv_room (Nat.le_of_ble_eq_true rfl)) dX7_agrees_101 ⟨Nat.le_of_ble_eq_true rfl, Nat.le_of_ble_eq_true rfl⟩) hS (fun q _ h => h.elim) (fun q h => h.elim) (fun r_101 u t H1 locs ht hvm hw_101 hB hz1 hk1 hS => ?_)
                have hE : H = H1 := hB.symm.trans ht
                subst hE
                have hPc := hP.sub (ws' := [(wt, .inr (6, [.ref wo, .int gev_84])), (wo, .inl (cJ, 256, .inr (.inl gw_84)))]) [8, 9] rfl
                refine va_calll (va_runV (As := [.int (1 <<< ((nI j_16) &&& 31)), .int r_101]) (rest := []) ⟨hx, hb, hml, hown, hts⟩ (mz_w_having l dC dI cI cJ cZ wt wo gev_84 gw_84 (1 <<< ((nI j_16) &&& 31)) r_101 H ) (cwV 2 hts gX7_agrees_X6_having rfl rfl rfl (by decide +kernel) ⟨Nat.le_of_ble_eq_true rfl, Nat.le_of_ble_eq_true rfl⟩) ⟨fun a U g mk q => mz_blP q, va_recv hK hPc (ci := 6) (q0 := 0) rfl rfl, fun U hU hW => ⟨rfl, hU, hPc, va_K.moved hW.alike hK, mz_nw hW hN⟩⟩ rfl rfl hl.1 rfl (lv_room (Nat.le_of_ble_eq_true rfl)) dX7_agrees_104 ⟨Nat.le_of_ble_eq_true rfl, Nat.le_of_ble_eq_true rfl⟩) hS (fun q _ h => h.elim) (fun q h => h.elim) (fun r_104 u t H1 locs ht hvm hw_104 hB hz1 hk1 hS => ?_)
                have hE : H = H1 := hB.symm.trans ht
                subst hE
                refine lv_lstore (lv' := [(6, .long r_104), (0, .ref mx), (1, .int (nI j_5)), (2, .int (nI j_16)), (3, .int p3), (4, .int p4), (5, .int p5)]) hx hb dX7_agrees_107 hl (by decide) rfl (fun ls hl => ?_)
                refine lv_aload_n hx hb dX7_agrees_109 rfl (lv_at hl 1 rfl) ?_
                refine va_get (D := (dC, dI)) (ci := 7) (v := .ref wt) (C := RX7) (T := TX7) (N := 10) hx hb hts hiX7 hown hK hP 0 rfl rfl 3 (by decide) (hts (.fieldLink RX7 29 "MadeItSo" "weights" "LMadeItSo$Weights;") (by decide +kernel)) (fun _ h9 => h9) rfl dX7_agrees_110 ?_
                refine lv_aload_n hx hb dX7_agrees_113 rfl (lv_at hl 1 rfl) ?_
                refine va_get (D := (dC, dI)) (ci := 7) (v := .ref dr) (C := RX7) (T := TX7) (N := 10) hx hb hts hiX7 hown hK hP 0 rfl rfl 0 (by decide) (hts (.fieldLink RX7 12 "MadeItSo" "drawing" "LMadeItSo$Drawing;") (by decide +kernel)) (fun _ h9 => h9) rfl dX7_agrees_114 ?_
                refine lv_aload_n hx hb dX7_agrees_117 rfl (lv_at hl 1 rfl) ?_
                refine va_get (D := (dC, dI)) (ci := 7) (v := .ref bk) (C := RX7) (T := TX7) (N := 10) hx hb hts hiX7 hown hK hP 0 rfl rfl 2 (by decide) (hts (.fieldLink RX7 22 "MadeItSo" "books" "LMadeItSo$Books;") (by decide +kernel)) (fun _ h9 => h9) rfl dX7_agrees_118 ?_
                refine lv_iconst (v := 0) hx hb dX7_agrees_121 (by decide +kernel) ?_
                have hPc := hP.sub (ws' := [(wt, .inr (6, [.ref wo, .int gev_84])), (wo, .inl (cJ, 256, .inr (.inl gw_84))), (dr, .inr (2, [.ref dp, .ref dc, .int (nI n)])), (dp, .inl (cI, 8, .inl fp)), (bk, .inr (1, [.ref bp])), (bp, .inl (cI, 1024, .inl fb))]) [8, 9, 10, 11, 12, 13] rfl
                have hDc := hD.sub (ws' := [(wt, .inr (6, [.ref wo, .int gev_84])), (wo, .inl (cJ, 256, .inr (.inl gw_84))), (dr, .inr (2, [.ref dp, .ref dc, .int (nI n)])), (dp, .inl (cI, 8, .inl fp)), (bk, .inr (1, [.ref bp])), (bp, .inl (cI, 1024, .inl fb))]) [8, 9, 10, 11, 12, 13] (by decide) rfl
                have hFc := va_free (wc := [(wt, .inr (6, [.ref wo, .int gev_84])), (wo, .inl (cJ, 256, .inr (.inl gw_84))), (dr, .inr (2, [.ref dp, .ref dc, .int (nI n)])), (dp, .inl (cI, 8, .inl fp)), (bk, .inr (1, [.ref bp])), (bp, .inl (cI, 1024, .inl fb))]) hD hS hA [8, 9, 10, 11, 12, 13] rfl
                refine va_callv (va_runV (As := [.ref dr, .ref bk, .int 0]) (rest := []) ⟨hx, hb, hml, hown, hts⟩ (mz_w_weigh l dC dI cI cJ cZ wt wo gev_84 gw_84 dr dp dc n fp bk bp fb 0 H.size (by first | assumption | omega)) (cwV 3 hts gX7_agrees_X6_weigh rfl rfl rfl (by decide +kernel) ⟨Nat.le_of_ble_eq_true rfl, Nat.le_of_ble_eq_true rfl⟩) ⟨fun a U g mk q => mz_blI q, va_recv hK hPc (ci := 6) (q0 := 0) rfl rfl, fun U hU hW => ⟨rfl, by rw [hU], by rw [hU]; exact hPc, va_K.moved hW.alike hK, hDc.weaken (fun _ _ _ _ => trivial), mz_nw hW hN⟩⟩ rfl rfl hl.1 rfl (lv_room (Nat.le_of_ble_eq_true rfl)) dX7_agrees_122 ⟨Nat.le_of_ble_eq_true rfl, Nat.le_of_ble_eq_true rfl⟩) hS (fun q _ h => hFc q h) hFc (fun u t H1 locs ht hvm hw_122 hB hz1 hk1 hS => ?_)
                obtain ⟨gev_122, gw_122, hP1, hD1⟩ := hB
                rw [ht] at hP1
                obtain ⟨hP, hD⟩ := va_join (wr := [(mx, .inr (7, [.ref dr, .ref th, .ref bk, .ref wt, .ref tt, .ref lh, .ref la, .int sh, .long ab, .long be])), (tt, .inr (5, [.ref b1, .ref b2, .ref b3])), (b1, .inr (0, [.ref b1l, .int (nI u1)])), (b1l, .inl (cJ, 128, .inr (.inl f1))), (b2, .inr (0, [.ref b2l, .int (nI u2)])), (b2l, .inl (cJ, 128, .inr (.inl f2))), (b3, .inr (0, [.ref b3l, .int (nI u3)])), (b3l, .inl (cJ, 128, .inr (.inl f3)))]) (w1 := [(wt, .inr (6, [.ref wo, .int gev_122])), (wo, .inl (cJ, 256, .inr (.inl gw_122))), (dr, .inr (2, [.ref dp, .ref dc, .int (nI n)])), (dp, .inl (cI, 8, .inl fp)), (bk, .inr (1, [.ref bp])), (bp, .inl (cI, 1024, .inl fb))]) hP hD [8, 9, 10, 11, 12, 13] [0, 1, 2, 3, 4, 5, 6, 7] rfl rfl (by decide) (by decide) hk1 hFc hP1 hD1
                generalize H1 = H at hP hS ⊢
                have hP : va_P (dC, dI) vwCl [(mx, .inr (7, [.ref dr, .ref th, .ref bk, .ref wt, .ref tt, .ref lh, .ref la, .int sh, .long ab, .long be])), (tt, .inr (5, [.ref b1, .ref b2, .ref b3])), (b1, .inr (0, [.ref b1l, .int (nI u1)])), (b1l, .inl (cJ, 128, .inr (.inl f1))), (b2, .inr (0, [.ref b2l, .int (nI u2)])), (b2l, .inl (cJ, 128, .inr (.inl f2))), (b3, .inr (0, [.ref b3l, .int (nI u3)])), (b3l, .inl (cJ, 128, .inr (.inl f3))), (wt, .inr (6, [.ref wo, .int gev_122])), (wo, .inl (cJ, 256, .inr (.inl gw_122))), (dr, .inr (2, [.ref dp, .ref dc, .int (nI n)])), (dp, .inl (cI, 8, .inl fp)), (bk, .inr (1, [.ref bp])), (bp, .inl (cI, 1024, .inl fb))] H := hP
                have hD : va_D A [(mx, .inr (7, [.ref dr, .ref th, .ref bk, .ref wt, .ref tt, .ref lh, .ref la, .int sh, .long ab, .long be])), (tt, .inr (5, [.ref b1, .ref b2, .ref b3])), (b1, .inr (0, [.ref b1l, .int (nI u1)])), (b1l, .inl (cJ, 128, .inr (.inl f1))), (b2, .inr (0, [.ref b2l, .int (nI u2)])), (b2l, .inl (cJ, 128, .inr (.inl f2))), (b3, .inr (0, [.ref b3l, .int (nI u3)])), (b3l, .inl (cJ, 128, .inr (.inl f3))), (wt, .inr (6, [.ref wo, .int gev_122])), (wo, .inl (cJ, 256, .inr (.inl gw_122))), (dr, .inr (2, [.ref dp, .ref dc, .int (nI n)])), (dp, .inl (cI, 8, .inl fp)), (bk, .inr (1, [.ref bp])), (bp, .inl (cI, 1024, .inl fb))] := hD
                refine lv_aload_n hx hb dX7_agrees_125 rfl (lv_at hl 1 rfl) ?_
                refine lv_iload_n hx hb dX7_agrees_126 rfl (lv_at hl 4 rfl) ?_
                refine lv_iload_n hx hb dX7_agrees_127 rfl (lv_at hl 2 rfl) ?_
                refine lv_iload hx hb dX7_agrees_128 (lv_at hl 5 rfl) ?_
                have hPc := hP.sub (ws' := []) [] rfl
                refine va_calli (va_runS (As := [.int (nI j_5), .int p4]) (rest := [.int p3, .ref mx]) ⟨hx, hb, hml, hown, hts⟩ (mz_g_settingOf l dC dI cI cJ cZ (nI j_5) p4 H ) (va_cwS 2 hts gX7_agrees_X7_settingOf rfl rfl rfl (by decide +kernel) ⟨Nat.le_of_ble_eq_true rfl, Nat.le_of_ble_eq_true rfl⟩) ⟨fun a U g mk q => mz_blP q, fun U hU hW => ⟨rfl, hU, hPc, va_K.moved hW.alike hK, mz_nw hW hN⟩⟩ rfl rfl hl.1 rfl (lv_room (Nat.le_of_ble_eq_true rfl)) dX7_agrees_130 ⟨Nat.le_of_ble_eq_true rfl, Nat.le_of_ble_eq_true rfl⟩) hS (fun q _ h => h.elim) (fun q h => h.elim) (fun r_130 u t H1 locs ht hvm hw_130 hB hz1 hk1 hS => ?_)
                have hE : H = H1 := hB.symm.trans ht
                subst hE
                refine lv_iload_n hx hb dX7_agrees_133 rfl (lv_at hl 3 rfl) ?_
                refine lv_iload hx hb dX7_agrees_134 (lv_at hl 6 rfl) ?_
                have hPc := hP.sub (ws' := []) [] rfl
                refine va_calli (va_runS (As := [.int (nI j_16), .int p5]) (rest := [.int r_130, .int p3, .ref mx]) ⟨hx, hb, hml, hown, hts⟩ (mz_g_settingOf l dC dI cI cJ cZ (nI j_16) p5 H ) (va_cwS 2 hts gX7_agrees_X7_settingOf rfl rfl rfl (by decide +kernel) ⟨Nat.le_of_ble_eq_true rfl, Nat.le_of_ble_eq_true rfl⟩) ⟨fun a U g mk q => mz_blP q, fun U hU hW => ⟨rfl, hU, hPc, va_K.moved hW.alike hK, mz_nw hW hN⟩⟩ rfl rfl hl.1 rfl (lv_room (Nat.le_of_ble_eq_true rfl)) dX7_agrees_136 ⟨Nat.le_of_ble_eq_true rfl, Nat.le_of_ble_eq_true rfl⟩) hS (fun q _ h => h.elim) (fun q h => h.elim) (fun r_136 u t H1 locs ht hvm hw_136 hB hz1 hk1 hS => ?_)
                have hE : H = H1 := hB.symm.trans ht
                subst hE
                have hPc := hP.sub (ws' := [(mx, .inr (7, [.ref dr, .ref th, .ref bk, .ref wt, .ref tt, .ref lh, .ref la, .int sh, .long ab, .long be])), (wt, .inr (6, [.ref wo, .int gev_122])), (wo, .inl (cJ, 256, .inr (.inl gw_122))), (tt, .inr (5, [.ref b1, .ref b2, .ref b3])), (b1, .inr (0, [.ref b1l, .int (nI u1)])), (b1l, .inl (cJ, 128, .inr (.inl f1))), (b2, .inr (0, [.ref b2l, .int (nI u2)])), (b2l, .inl (cJ, 128, .inr (.inl f2))), (b3, .inr (0, [.ref b3l, .int (nI u3)])), (b3l, .inl (cJ, 128, .inr (.inl f3)))]) [0, 8, 9, 1, 2, 3, 4, 5, 6, 7] rfl
                have hDc := hD.sub (ws' := [(mx, .inr (7, [.ref dr, .ref th, .ref bk, .ref wt, .ref tt, .ref lh, .ref la, .int sh, .long ab, .long be])), (wt, .inr (6, [.ref wo, .int gev_122])), (wo, .inl (cJ, 256, .inr (.inl gw_122))), (tt, .inr (5, [.ref b1, .ref b2, .ref b3])), (b1, .inr (0, [.ref b1l, .int (nI u1)])), (b1l, .inl (cJ, 128, .inr (.inl f1))), (b2, .inr (0, [.ref b2l, .int (nI u2)])), (b2l, .inl (cJ, 128, .inr (.inl f2))), (b3, .inr (0, [.ref b3l, .int (nI u3)])), (b3l, .inl (cJ, 128, .inr (.inl f3)))]) [0, 8, 9, 1, 2, 3, 4, 5, 6, 7] (by decide) rfl
                have hFc := va_free (wc := [(mx, .inr (7, [.ref dr, .ref th, .ref bk, .ref wt, .ref tt, .ref lh, .ref la, .int sh, .long ab, .long be])), (wt, .inr (6, [.ref wo, .int gev_122])), (wo, .inl (cJ, 256, .inr (.inl gw_122))), (tt, .inr (5, [.ref b1, .ref b2, .ref b3])), (b1, .inr (0, [.ref b1l, .int (nI u1)])), (b1l, .inl (cJ, 128, .inr (.inl f1))), (b2, .inr (0, [.ref b2l, .int (nI u2)])), (b2l, .inl (cJ, 128, .inr (.inl f2))), (b3, .inr (0, [.ref b3l, .int (nI u3)])), (b3l, .inl (cJ, 128, .inr (.inl f3)))]) hD hS hA [0, 8, 9, 1, 2, 3, 4, 5, 6, 7] rfl
                refine va_calli (va_runV (As := [.int p3, .int r_130, .int r_136]) (rest := []) ⟨hx, hb, hml, hown, hts⟩ (mz_x_sumOver l dC dI cI cJ cZ mx dr th bk wt tt lh la sh ab be wo gev_122 gw_122 b1 b1l u1 f1 b2 b2l u2 f2 b3 b3l u3 f3 p3 r_130 r_136 H.size (by first | assumption | omega) (by first | assumption | omega) (by first | assumption | omega)) (cwV 3 hts gX7_agrees_X7_sumOver rfl rfl rfl (by decide +kernel) ⟨Nat.le_of_ble_eq_true rfl, Nat.le_of_ble_eq_true rfl⟩) ⟨fun a U g mk q => mz_blI q, va_recv hK hPc (ci := 7) (q0 := 0) rfl rfl, fun U hU hW => ⟨rfl, by rw [hU], by rw [hU]; exact hPc, va_K.moved hW.alike hK, hDc.weaken (fun _ _ _ _ => trivial), mz_nw hW hN⟩⟩ rfl rfl hl.1 rfl (lv_room (Nat.le_of_ble_eq_true rfl)) dX7_agrees_139 ⟨Nat.le_of_ble_eq_true rfl, Nat.le_of_ble_eq_true rfl⟩) hS (fun q _ h => hFc q h) hFc (fun r_139 u t H1 locs ht hvm hw_139 hB hz1 hk1 hS => ?_)
                obtain ⟨g1_139, h1_139, g2_139, h2_139, g3_139, h3_139, hx0_139, hx1_139, hx2_139, hP1, hD1⟩ := hB
                rw [ht] at hP1
                obtain ⟨hP, hD⟩ := va_join (wr := [(dr, .inr (2, [.ref dp, .ref dc, .int (nI n)])), (dp, .inl (cI, 8, .inl fp)), (bk, .inr (1, [.ref bp])), (bp, .inl (cI, 1024, .inl fb))]) (w1 := [(mx, .inr (7, [.ref dr, .ref th, .ref bk, .ref wt, .ref tt, .ref lh, .ref la, .int sh, .long ab, .long be])), (wt, .inr (6, [.ref wo, .int gev_122])), (wo, .inl (cJ, 256, .inr (.inl gw_122))), (tt, .inr (5, [.ref b1, .ref b2, .ref b3])), (b1, .inr (0, [.ref b1l, .int (nI g1_139)])), (b1l, .inl (cJ, 128, .inr (.inl h1_139))), (b2, .inr (0, [.ref b2l, .int (nI g2_139)])), (b2l, .inl (cJ, 128, .inr (.inl h2_139))), (b3, .inr (0, [.ref b3l, .int (nI g3_139)])), (b3l, .inl (cJ, 128, .inr (.inl h3_139)))]) hP hD [0, 8, 9, 1, 2, 3, 4, 5, 6, 7] [10, 11, 12, 13] rfl rfl (by decide) (by decide) hk1 hFc hP1 hD1
                generalize H1 = H at hP hS ⊢
                have hP : va_P (dC, dI) vwCl [(dr, .inr (2, [.ref dp, .ref dc, .int (nI n)])), (dp, .inl (cI, 8, .inl fp)), (bk, .inr (1, [.ref bp])), (bp, .inl (cI, 1024, .inl fb)), (mx, .inr (7, [.ref dr, .ref th, .ref bk, .ref wt, .ref tt, .ref lh, .ref la, .int sh, .long ab, .long be])), (wt, .inr (6, [.ref wo, .int gev_122])), (wo, .inl (cJ, 256, .inr (.inl gw_122))), (tt, .inr (5, [.ref b1, .ref b2, .ref b3])), (b1, .inr (0, [.ref b1l, .int (nI g1_139)])), (b1l, .inl (cJ, 128, .inr (.inl h1_139))), (b2, .inr (0, [.ref b2l, .int (nI g2_139)])), (b2l, .inl (cJ, 128, .inr (.inl h2_139))), (b3, .inr (0, [.ref b3l, .int (nI g3_139)])), (b3l, .inl (cJ, 128, .inr (.inl h3_139)))] H := hP
                have hD : va_D A [(dr, .inr (2, [.ref dp, .ref dc, .int (nI n)])), (dp, .inl (cI, 8, .inl fp)), (bk, .inr (1, [.ref bp])), (bp, .inl (cI, 1024, .inl fb)), (mx, .inr (7, [.ref dr, .ref th, .ref bk, .ref wt, .ref tt, .ref lh, .ref la, .int sh, .long ab, .long be])), (wt, .inr (6, [.ref wo, .int gev_122])), (wo, .inl (cJ, 256, .inr (.inl gw_122))), (tt, .inr (5, [.ref b1, .ref b2, .ref b3])), (b1, .inr (0, [.ref b1l, .int (nI g1_139)])), (b1l, .inl (cJ, 128, .inr (.inl h1_139))), (b2, .inr (0, [.ref b2l, .int (nI g2_139)])), (b2l, .inl (cJ, 128, .inr (.inl h2_139))), (b3, .inr (0, [.ref b3l, .int (nI g3_139)])), (b3l, .inl (cJ, 128, .inr (.inl h3_139)))] := hD
                refine lv_if_ne (tgt := 148) hx hb dX7_agrees_142 (by decide) (fun c_142 => ?_) (fun c_142 => ?_)
                · skip
                  refine lv_aload_n hx hb dX7_agrees_148 rfl (lv_at hl 1 rfl) ?_
                  refine va_get (D := (dC, dI)) (ci := 7) (v := .ref tt) (C := RX7) (T := TX7) (N := 10) hx hb hts hiX7 hown hK hP 4 rfl rfl 4 (by decide) (hts (.fieldLink RX7 36 "MadeItSo" "total" "LMadeItSo$Total;") (by decide +kernel)) (fun _ h9 => h9) rfl dX7_agrees_149 ?_
                  refine lv_lload hx hb dX7_agrees_152 (lv_at hl 0 rfl) ?_
                  have hPc := hP.sub (ws' := [(tt, .inr (5, [.ref b1, .ref b2, .ref b3])), (b1, .inr (0, [.ref b1l, .int (nI g1_139)])), (b1l, .inl (cJ, 128, .inr (.inl h1_139))), (b2, .inr (0, [.ref b2l, .int (nI g2_139)])), (b2l, .inl (cJ, 128, .inr (.inl h2_139))), (b3, .inr (0, [.ref b3l, .int (nI g3_139)])), (b3l, .inl (cJ, 128, .inr (.inl h3_139)))]) [7, 8, 9, 10, 11, 12, 13] rfl
                  have hDc := hD.sub (ws' := [(tt, .inr (5, [.ref b1, .ref b2, .ref b3])), (b1, .inr (0, [.ref b1l, .int (nI g1_139)])), (b1l, .inl (cJ, 128, .inr (.inl h1_139))), (b2, .inr (0, [.ref b2l, .int (nI g2_139)])), (b2l, .inl (cJ, 128, .inr (.inl h2_139))), (b3, .inr (0, [.ref b3l, .int (nI g3_139)])), (b3l, .inl (cJ, 128, .inr (.inl h3_139)))]) [7, 8, 9, 10, 11, 12, 13] (by decide) rfl
                  have hFc := va_free (wc := [(tt, .inr (5, [.ref b1, .ref b2, .ref b3])), (b1, .inr (0, [.ref b1l, .int (nI g1_139)])), (b1l, .inl (cJ, 128, .inr (.inl h1_139))), (b2, .inr (0, [.ref b2l, .int (nI g2_139)])), (b2l, .inl (cJ, 128, .inr (.inl h2_139))), (b3, .inr (0, [.ref b3l, .int (nI g3_139)])), (b3l, .inl (cJ, 128, .inr (.inl h3_139)))]) hD hS hA [7, 8, 9, 10, 11, 12, 13] rfl
                  refine va_calli (va_runV (As := [.long r_104]) (rest := []) ⟨hx, hb, hml, hown, hts⟩ (mz_t_is l dC dI cI cJ cZ tt b1 b1l g1_139 h1_139 b2 b2l g2_139 h2_139 b3 b3l g3_139 h3_139 r_104 H.size (by first | assumption | omega) (by first | assumption | omega) (by first | assumption | omega)) (cwV 1 hts gX7_agrees_X5_is rfl rfl rfl (by decide +kernel) ⟨Nat.le_of_ble_eq_true rfl, Nat.le_of_ble_eq_true rfl⟩) ⟨fun a U g mk q => mz_blI q, va_recv hK hPc (ci := 5) (q0 := 0) rfl rfl, fun U hU hW => ⟨rfl, by rw [hU], by rw [hU]; exact hPc, va_K.moved hW.alike hK, hDc.weaken (fun _ _ _ _ => trivial), mz_nw hW hN⟩⟩ rfl rfl hl.1 rfl (lv_room (Nat.le_of_ble_eq_true rfl)) dX7_agrees_154 ⟨Nat.le_of_ble_eq_true rfl, Nat.le_of_ble_eq_true rfl⟩) hS (fun q _ h => hFc q h) hFc (fun r_154 u t H1 locs ht hvm hw_154 hB hz1 hk1 hS => ?_)
                  obtain ⟨g1_154, h1_154, g2_154, h2_154, g3_154, h3_154, hx0_154, hx1_154, hx2_154, hP1, hD1⟩ := hB
                  rw [ht] at hP1
                  obtain ⟨hP, hD⟩ := va_join (wr := [(dr, .inr (2, [.ref dp, .ref dc, .int (nI n)])), (dp, .inl (cI, 8, .inl fp)), (bk, .inr (1, [.ref bp])), (bp, .inl (cI, 1024, .inl fb)), (mx, .inr (7, [.ref dr, .ref th, .ref bk, .ref wt, .ref tt, .ref lh, .ref la, .int sh, .long ab, .long be])), (wt, .inr (6, [.ref wo, .int gev_122])), (wo, .inl (cJ, 256, .inr (.inl gw_122)))]) (w1 := [(tt, .inr (5, [.ref b1, .ref b2, .ref b3])), (b1, .inr (0, [.ref b1l, .int (nI g1_154)])), (b1l, .inl (cJ, 128, .inr (.inl h1_154))), (b2, .inr (0, [.ref b2l, .int (nI g2_154)])), (b2l, .inl (cJ, 128, .inr (.inl h2_154))), (b3, .inr (0, [.ref b3l, .int (nI g3_154)])), (b3l, .inl (cJ, 128, .inr (.inl h3_154)))]) hP hD [7, 8, 9, 10, 11, 12, 13] [0, 1, 2, 3, 4, 5, 6] rfl rfl (by decide) (by decide) hk1 hFc hP1 hD1
                  generalize H1 = H at hP hS ⊢
                  have hP : va_P (dC, dI) vwCl [(dr, .inr (2, [.ref dp, .ref dc, .int (nI n)])), (dp, .inl (cI, 8, .inl fp)), (bk, .inr (1, [.ref bp])), (bp, .inl (cI, 1024, .inl fb)), (mx, .inr (7, [.ref dr, .ref th, .ref bk, .ref wt, .ref tt, .ref lh, .ref la, .int sh, .long ab, .long be])), (wt, .inr (6, [.ref wo, .int gev_122])), (wo, .inl (cJ, 256, .inr (.inl gw_122))), (tt, .inr (5, [.ref b1, .ref b2, .ref b3])), (b1, .inr (0, [.ref b1l, .int (nI g1_154)])), (b1l, .inl (cJ, 128, .inr (.inl h1_154))), (b2, .inr (0, [.ref b2l, .int (nI g2_154)])), (b2l, .inl (cJ, 128, .inr (.inl h2_154))), (b3, .inr (0, [.ref b3l, .int (nI g3_154)])), (b3l, .inl (cJ, 128, .inr (.inl h3_154)))] H := hP
                  have hD : va_D A [(dr, .inr (2, [.ref dp, .ref dc, .int (nI n)])), (dp, .inl (cI, 8, .inl fp)), (bk, .inr (1, [.ref bp])), (bp, .inl (cI, 1024, .inl fb)), (mx, .inr (7, [.ref dr, .ref th, .ref bk, .ref wt, .ref tt, .ref lh, .ref la, .int sh, .long ab, .long be])), (wt, .inr (6, [.ref wo, .int gev_122])), (wo, .inl (cJ, 256, .inr (.inl gw_122))), (tt, .inr (5, [.ref b1, .ref b2, .ref b3])), (b1, .inr (0, [.ref b1l, .int (nI g1_154)])), (b1l, .inl (cJ, 128, .inr (.inl h1_154))), (b2, .inr (0, [.ref b2l, .int (nI g2_154)])), (b2l, .inl (cJ, 128, .inr (.inl h2_154))), (b3, .inr (0, [.ref b3l, .int (nI g3_154)])), (b3l, .inl (cJ, 128, .inr (.inl h3_154)))] := hD
                  refine lv_if_eq (tgt := 164) hx hb dX7_agrees_157 (by decide) (fun c_157 => ?_) (fun c_157 => ?_)
                  · skip
                    refine lv_iconst (v := 0) hx hb dX7_agrees_164 (by decide +kernel) ?_
                    have hP9 := hP.sub (ws' := [(mx, .inr (7, [.ref dr, .ref th, .ref bk, .ref wt, .ref tt, .ref lh, .ref la, .int sh, .long ab, .long be])), (dr, .inr (2, [.ref dp, .ref dc, .int (nI n)])), (dp, .inl (cI, 8, .inl fp)), (bk, .inr (1, [.ref bp])), (bp, .inl (cI, 1024, .inl fb)), (wt, .inr (6, [.ref wo, .int gev_122])), (wo, .inl (cJ, 256, .inr (.inl gw_122))), (tt, .inr (5, [.ref b1, .ref b2, .ref b3])), (b1, .inr (0, [.ref b1l, .int (nI g1_154)])), (b1l, .inl (cJ, 128, .inr (.inl h1_154))), (b2, .inr (0, [.ref b2l, .int (nI g2_154)])), (b2l, .inl (cJ, 128, .inr (.inl h2_154))), (b3, .inr (0, [.ref b3l, .int (nI g3_154)])), (b3l, .inl (cJ, 128, .inr (.inl h3_154)))]) [4, 0, 1, 2, 3, 5, 6, 7, 8, 9, 10, 11, 12, 13] rfl
                    have hD9 := hD.sub (ws' := [(mx, .inr (7, [.ref dr, .ref th, .ref bk, .ref wt, .ref tt, .ref lh, .ref la, .int sh, .long ab, .long be])), (dr, .inr (2, [.ref dp, .ref dc, .int (nI n)])), (dp, .inl (cI, 8, .inl fp)), (bk, .inr (1, [.ref bp])), (bp, .inl (cI, 1024, .inl fb)), (wt, .inr (6, [.ref wo, .int gev_122])), (wo, .inl (cJ, 256, .inr (.inl gw_122))), (tt, .inr (5, [.ref b1, .ref b2, .ref b3])), (b1, .inr (0, [.ref b1l, .int (nI g1_154)])), (b1l, .inl (cJ, 128, .inr (.inl h1_154))), (b2, .inr (0, [.ref b2l, .int (nI g2_154)])), (b2l, .inl (cJ, 128, .inr (.inl h2_154))), (b3, .inr (0, [.ref b3l, .int (nI g3_154)])), (b3l, .inl (cJ, 128, .inr (.inl h3_154)))]) [4, 0, 1, 2, 3, 5, 6, 7, 8, 9, 10, 11, 12, 13] (by decide) rfl
                    refine W.widen (k := 0) (n := 0) (Nat.le_of_ble_eq_true rfl) (Nat.le_of_ble_eq_true rfl) ?_
                    exact W.iret (v := 0) hx hb hr (fun t ht hW => ⟨⟨0, (), rfl, trivial, gev_122, gw_122, g1_154, h1_154, g2_154, h2_154, g3_154, h3_154, (by first | assumption | omega), (by first | assumption | omega), (by first | assumption | omega), by rw [ht]; exact hP9, hD9⟩, hS.F ht⟩) hS.2.2 dX7_agrees_165
                  · skip
                    refine lv_iconst (v := 1) hx hb dX7_agrees_160 (by decide +kernel) ?_
                    refine lv_goto (tgt := 165) hx hb dX7_agrees_161 (by decide) ?_
                    have hP9 := hP.sub (ws' := [(mx, .inr (7, [.ref dr, .ref th, .ref bk, .ref wt, .ref tt, .ref lh, .ref la, .int sh, .long ab, .long be])), (dr, .inr (2, [.ref dp, .ref dc, .int (nI n)])), (dp, .inl (cI, 8, .inl fp)), (bk, .inr (1, [.ref bp])), (bp, .inl (cI, 1024, .inl fb)), (wt, .inr (6, [.ref wo, .int gev_122])), (wo, .inl (cJ, 256, .inr (.inl gw_122))), (tt, .inr (5, [.ref b1, .ref b2, .ref b3])), (b1, .inr (0, [.ref b1l, .int (nI g1_154)])), (b1l, .inl (cJ, 128, .inr (.inl h1_154))), (b2, .inr (0, [.ref b2l, .int (nI g2_154)])), (b2l, .inl (cJ, 128, .inr (.inl h2_154))), (b3, .inr (0, [.ref b3l, .int (nI g3_154)])), (b3l, .inl (cJ, 128, .inr (.inl h3_154)))]) [4, 0, 1, 2, 3, 5, 6, 7, 8, 9, 10, 11, 12, 13] rfl
                    have hD9 := hD.sub (ws' := [(mx, .inr (7, [.ref dr, .ref th, .ref bk, .ref wt, .ref tt, .ref lh, .ref la, .int sh, .long ab, .long be])), (dr, .inr (2, [.ref dp, .ref dc, .int (nI n)])), (dp, .inl (cI, 8, .inl fp)), (bk, .inr (1, [.ref bp])), (bp, .inl (cI, 1024, .inl fb)), (wt, .inr (6, [.ref wo, .int gev_122])), (wo, .inl (cJ, 256, .inr (.inl gw_122))), (tt, .inr (5, [.ref b1, .ref b2, .ref b3])), (b1, .inr (0, [.ref b1l, .int (nI g1_154)])), (b1l, .inl (cJ, 128, .inr (.inl h1_154))), (b2, .inr (0, [.ref b2l, .int (nI g2_154)])), (b2l, .inl (cJ, 128, .inr (.inl h2_154))), (b3, .inr (0, [.ref b3l, .int (nI g3_154)])), (b3l, .inl (cJ, 128, .inr (.inl h3_154)))]) [4, 0, 1, 2, 3, 5, 6, 7, 8, 9, 10, 11, 12, 13] (by decide) rfl
                    refine W.widen (k := 0) (n := 0) (Nat.le_of_ble_eq_true rfl) (Nat.le_of_ble_eq_true rfl) ?_
                    exact W.iret (v := 1) hx hb hr (fun t ht hW => ⟨⟨1, (), rfl, trivial, gev_122, gw_122, g1_154, h1_154, g2_154, h2_154, g3_154, h3_154, (by first | assumption | omega), (by first | assumption | omega), (by first | assumption | omega), by rw [ht]; exact hP9, hD9⟩, hS.F ht⟩) hS.2.2 dX7_agrees_165
                · skip
                  refine lv_bipush (v := (-2)) hx hb dX7_agrees_145 (by decide +kernel) ?_
                  have hP9 := hP.sub (ws' := [(mx, .inr (7, [.ref dr, .ref th, .ref bk, .ref wt, .ref tt, .ref lh, .ref la, .int sh, .long ab, .long be])), (dr, .inr (2, [.ref dp, .ref dc, .int (nI n)])), (dp, .inl (cI, 8, .inl fp)), (bk, .inr (1, [.ref bp])), (bp, .inl (cI, 1024, .inl fb)), (wt, .inr (6, [.ref wo, .int gev_122])), (wo, .inl (cJ, 256, .inr (.inl gw_122))), (tt, .inr (5, [.ref b1, .ref b2, .ref b3])), (b1, .inr (0, [.ref b1l, .int (nI g1_139)])), (b1l, .inl (cJ, 128, .inr (.inl h1_139))), (b2, .inr (0, [.ref b2l, .int (nI g2_139)])), (b2l, .inl (cJ, 128, .inr (.inl h2_139))), (b3, .inr (0, [.ref b3l, .int (nI g3_139)])), (b3l, .inl (cJ, 128, .inr (.inl h3_139)))]) [4, 0, 1, 2, 3, 5, 6, 7, 8, 9, 10, 11, 12, 13] rfl
                  have hD9 := hD.sub (ws' := [(mx, .inr (7, [.ref dr, .ref th, .ref bk, .ref wt, .ref tt, .ref lh, .ref la, .int sh, .long ab, .long be])), (dr, .inr (2, [.ref dp, .ref dc, .int (nI n)])), (dp, .inl (cI, 8, .inl fp)), (bk, .inr (1, [.ref bp])), (bp, .inl (cI, 1024, .inl fb)), (wt, .inr (6, [.ref wo, .int gev_122])), (wo, .inl (cJ, 256, .inr (.inl gw_122))), (tt, .inr (5, [.ref b1, .ref b2, .ref b3])), (b1, .inr (0, [.ref b1l, .int (nI g1_139)])), (b1l, .inl (cJ, 128, .inr (.inl h1_139))), (b2, .inr (0, [.ref b2l, .int (nI g2_139)])), (b2l, .inl (cJ, 128, .inr (.inl h2_139))), (b3, .inr (0, [.ref b3l, .int (nI g3_139)])), (b3l, .inl (cJ, 128, .inr (.inl h3_139)))]) [4, 0, 1, 2, 3, 5, 6, 7, 8, 9, 10, 11, 12, 13] (by decide) rfl
                  refine W.widen (k := 0) (n := 0) (Nat.le_of_ble_eq_true rfl) (Nat.le_of_ble_eq_true rfl) ?_
                  exact W.iret (v := (-2)) hx hb hr (fun t ht hW => ⟨⟨(-2), (), rfl, trivial, gev_122, gw_122, g1_139, h1_139, g2_139, h2_139, g3_139, h3_139, (by first | assumption | omega), (by first | assumption | omega), (by first | assumption | omega), by rw [ht]; exact hP9, hD9⟩, hS.F ht⟩) hS.2.2 dX7_agrees_147
              · skip
                refine lv_iconst (v := (-1)) hx hb dX7_agrees_64 (by decide +kernel) ?_
                have hP9 := hP.sub (ws' := [(mx, .inr (7, [.ref dr, .ref th, .ref bk, .ref wt, .ref tt, .ref lh, .ref la, .int sh, .long ab, .long be])), (dr, .inr (2, [.ref dp, .ref dc, .int (nI n)])), (dp, .inl (cI, 8, .inl fp)), (bk, .inr (1, [.ref bp])), (bp, .inl (cI, 1024, .inl fb)), (wt, .inr (6, [.ref wo, .int ev])), (wo, .inl (cJ, 256, .inr (.inl fw))), (tt, .inr (5, [.ref b1, .ref b2, .ref b3])), (b1, .inr (0, [.ref b1l, .int (nI u1)])), (b1l, .inl (cJ, 128, .inr (.inl f1))), (b2, .inr (0, [.ref b2l, .int (nI u2)])), (b2l, .inl (cJ, 128, .inr (.inl f2))), (b3, .inr (0, [.ref b3l, .int (nI u3)])), (b3l, .inl (cJ, 128, .inr (.inl f3)))]) [0, 1, 2, 3, 4, 5, 6, 7, 8, 9, 10, 11, 12, 13] rfl
                have hD9 := hD.sub (ws' := [(mx, .inr (7, [.ref dr, .ref th, .ref bk, .ref wt, .ref tt, .ref lh, .ref la, .int sh, .long ab, .long be])), (dr, .inr (2, [.ref dp, .ref dc, .int (nI n)])), (dp, .inl (cI, 8, .inl fp)), (bk, .inr (1, [.ref bp])), (bp, .inl (cI, 1024, .inl fb)), (wt, .inr (6, [.ref wo, .int ev])), (wo, .inl (cJ, 256, .inr (.inl fw))), (tt, .inr (5, [.ref b1, .ref b2, .ref b3])), (b1, .inr (0, [.ref b1l, .int (nI u1)])), (b1l, .inl (cJ, 128, .inr (.inl f1))), (b2, .inr (0, [.ref b2l, .int (nI u2)])), (b2l, .inl (cJ, 128, .inr (.inl f2))), (b3, .inr (0, [.ref b3l, .int (nI u3)])), (b3l, .inl (cJ, 128, .inr (.inl f3)))]) [0, 1, 2, 3, 4, 5, 6, 7, 8, 9, 10, 11, 12, 13] (by decide) rfl
                refine W.widen (k := 0) (n := 0) (Nat.le_of_ble_eq_true rfl) (Nat.le_of_ble_eq_true rfl) ?_
                exact W.iret (v := (-1)) hx hb hr (fun t ht hW => ⟨⟨(-1), (), rfl, trivial, ev, fw, u1, f1, u2, f2, u3, f3, (by first | assumption | omega), (by first | assumption | omega), (by first | assumption | omega), by rw [ht]; exact hP9, hD9⟩, hS.F ht⟩) hS.2.2 dX7_agrees_65
          · skip
            refine lv_iconst (v := (-1)) hx hb dX7_agrees_46 (by decide +kernel) ?_
            have hP9 := hP.sub (ws' := [(mx, .inr (7, [.ref dr, .ref th, .ref bk, .ref wt, .ref tt, .ref lh, .ref la, .int sh, .long ab, .long be])), (dr, .inr (2, [.ref dp, .ref dc, .int (nI n)])), (dp, .inl (cI, 8, .inl fp)), (bk, .inr (1, [.ref bp])), (bp, .inl (cI, 1024, .inl fb)), (wt, .inr (6, [.ref wo, .int ev])), (wo, .inl (cJ, 256, .inr (.inl fw))), (tt, .inr (5, [.ref b1, .ref b2, .ref b3])), (b1, .inr (0, [.ref b1l, .int (nI u1)])), (b1l, .inl (cJ, 128, .inr (.inl f1))), (b2, .inr (0, [.ref b2l, .int (nI u2)])), (b2l, .inl (cJ, 128, .inr (.inl f2))), (b3, .inr (0, [.ref b3l, .int (nI u3)])), (b3l, .inl (cJ, 128, .inr (.inl f3)))]) [0, 1, 2, 3, 4, 5, 6, 7, 8, 9, 10, 11, 12, 13] rfl
            have hD9 := hD.sub (ws' := [(mx, .inr (7, [.ref dr, .ref th, .ref bk, .ref wt, .ref tt, .ref lh, .ref la, .int sh, .long ab, .long be])), (dr, .inr (2, [.ref dp, .ref dc, .int (nI n)])), (dp, .inl (cI, 8, .inl fp)), (bk, .inr (1, [.ref bp])), (bp, .inl (cI, 1024, .inl fb)), (wt, .inr (6, [.ref wo, .int ev])), (wo, .inl (cJ, 256, .inr (.inl fw))), (tt, .inr (5, [.ref b1, .ref b2, .ref b3])), (b1, .inr (0, [.ref b1l, .int (nI u1)])), (b1l, .inl (cJ, 128, .inr (.inl f1))), (b2, .inr (0, [.ref b2l, .int (nI u2)])), (b2l, .inl (cJ, 128, .inr (.inl f2))), (b3, .inr (0, [.ref b3l, .int (nI u3)])), (b3l, .inl (cJ, 128, .inr (.inl f3)))]) [0, 1, 2, 3, 4, 5, 6, 7, 8, 9, 10, 11, 12, 13] (by decide) rfl
            refine W.widen (k := 0) (n := 0) (Nat.le_of_ble_eq_true rfl) (Nat.le_of_ble_eq_true rfl) ?_
            exact W.iret (v := (-1)) hx hb hr (fun t ht hW => ⟨⟨(-1), (), rfl, trivial, ev, fw, u1, f1, u2, f2, u3, f3, (by first | assumption | omega), (by first | assumption | omega), (by first | assumption | omega), by rw [ht]; exact hP9, hD9⟩, hS.F ht⟩) hS.2.2 dX7_agrees_47
    · skip
      refine lv_if_eq (tgt := 46) hx hb dX7_agrees_19 (by decide) (fun _ => ?_) (fun c_19 => absurd (by decide +kernel) c_19)
      refine lv_iconst (v := (-1)) hx hb dX7_agrees_46 (by decide +kernel) ?_
      have hP9 := hP.sub (ws' := [(mx, .inr (7, [.ref dr, .ref th, .ref bk, .ref wt, .ref tt, .ref lh, .ref la, .int sh, .long ab, .long be])), (dr, .inr (2, [.ref dp, .ref dc, .int (nI n)])), (dp, .inl (cI, 8, .inl fp)), (bk, .inr (1, [.ref bp])), (bp, .inl (cI, 1024, .inl fb)), (wt, .inr (6, [.ref wo, .int ev])), (wo, .inl (cJ, 256, .inr (.inl fw))), (tt, .inr (5, [.ref b1, .ref b2, .ref b3])), (b1, .inr (0, [.ref b1l, .int (nI u1)])), (b1l, .inl (cJ, 128, .inr (.inl f1))), (b2, .inr (0, [.ref b2l, .int (nI u2)])), (b2l, .inl (cJ, 128, .inr (.inl f2))), (b3, .inr (0, [.ref b3l, .int (nI u3)])), (b3l, .inl (cJ, 128, .inr (.inl f3)))]) [0, 1, 2, 3, 4, 5, 6, 7, 8, 9, 10, 11, 12, 13] rfl
      have hD9 := hD.sub (ws' := [(mx, .inr (7, [.ref dr, .ref th, .ref bk, .ref wt, .ref tt, .ref lh, .ref la, .int sh, .long ab, .long be])), (dr, .inr (2, [.ref dp, .ref dc, .int (nI n)])), (dp, .inl (cI, 8, .inl fp)), (bk, .inr (1, [.ref bp])), (bp, .inl (cI, 1024, .inl fb)), (wt, .inr (6, [.ref wo, .int ev])), (wo, .inl (cJ, 256, .inr (.inl fw))), (tt, .inr (5, [.ref b1, .ref b2, .ref b3])), (b1, .inr (0, [.ref b1l, .int (nI u1)])), (b1l, .inl (cJ, 128, .inr (.inl f1))), (b2, .inr (0, [.ref b2l, .int (nI u2)])), (b2l, .inl (cJ, 128, .inr (.inl f2))), (b3, .inr (0, [.ref b3l, .int (nI u3)])), (b3l, .inl (cJ, 128, .inr (.inl f3)))]) [0, 1, 2, 3, 4, 5, 6, 7, 8, 9, 10, 11, 12, 13] (by decide) rfl
      refine W.widen (k := 0) (n := 0) (Nat.le_of_ble_eq_true rfl) (Nat.le_of_ble_eq_true rfl) ?_
      exact W.iret (v := (-1)) hx hb hr (fun t ht hW => ⟨⟨(-1), (), rfl, trivial, ev, fw, u1, f1, u2, f2, u3, f3, (by first | assumption | omega), (by first | assumption | omega), (by first | assumption | omega), by rw [ht]; exact hP9, hD9⟩, hS.F ht⟩) hS.2.2 dX7_agrees_47
  · skip
    refine lv_if_eq (tgt := 46) hx hb dX7_agrees_8 (by decide) (fun _ => ?_) (fun c_8 => absurd (by decide +kernel) c_8)
    refine lv_iconst (v := (-1)) hx hb dX7_agrees_46 (by decide +kernel) ?_
    have hP9 := hP.sub (ws' := [(mx, .inr (7, [.ref dr, .ref th, .ref bk, .ref wt, .ref tt, .ref lh, .ref la, .int sh, .long ab, .long be])), (dr, .inr (2, [.ref dp, .ref dc, .int (nI n)])), (dp, .inl (cI, 8, .inl fp)), (bk, .inr (1, [.ref bp])), (bp, .inl (cI, 1024, .inl fb)), (wt, .inr (6, [.ref wo, .int ev])), (wo, .inl (cJ, 256, .inr (.inl fw))), (tt, .inr (5, [.ref b1, .ref b2, .ref b3])), (b1, .inr (0, [.ref b1l, .int (nI u1)])), (b1l, .inl (cJ, 128, .inr (.inl f1))), (b2, .inr (0, [.ref b2l, .int (nI u2)])), (b2l, .inl (cJ, 128, .inr (.inl f2))), (b3, .inr (0, [.ref b3l, .int (nI u3)])), (b3l, .inl (cJ, 128, .inr (.inl f3)))]) [0, 1, 2, 3, 4, 5, 6, 7, 8, 9, 10, 11, 12, 13] rfl
    have hD9 := hD.sub (ws' := [(mx, .inr (7, [.ref dr, .ref th, .ref bk, .ref wt, .ref tt, .ref lh, .ref la, .int sh, .long ab, .long be])), (dr, .inr (2, [.ref dp, .ref dc, .int (nI n)])), (dp, .inl (cI, 8, .inl fp)), (bk, .inr (1, [.ref bp])), (bp, .inl (cI, 1024, .inl fb)), (wt, .inr (6, [.ref wo, .int ev])), (wo, .inl (cJ, 256, .inr (.inl fw))), (tt, .inr (5, [.ref b1, .ref b2, .ref b3])), (b1, .inr (0, [.ref b1l, .int (nI u1)])), (b1l, .inl (cJ, 128, .inr (.inl f1))), (b2, .inr (0, [.ref b2l, .int (nI u2)])), (b2l, .inl (cJ, 128, .inr (.inl f2))), (b3, .inr (0, [.ref b3l, .int (nI u3)])), (b3l, .inl (cJ, 128, .inr (.inl f3)))]) [0, 1, 2, 3, 4, 5, 6, 7, 8, 9, 10, 11, 12, 13] (by decide) rfl
    refine W.widen (k := 0) (n := 0) (Nat.le_of_ble_eq_true rfl) (Nat.le_of_ble_eq_true rfl) ?_
    exact W.iret (v := (-1)) hx hb hr (fun t ht hW => ⟨⟨(-1), (), rfl, trivial, ev, fw, u1, f1, u2, f2, u3, f3, (by first | assumption | omega), (by first | assumption | omega), (by first | assumption | omega), by rw [ht]; exact hP9, hD9⟩, hS.F ht⟩) hS.2.2 dX7_agrees_47
set_option maxHeartbeats 1000000 in
set_option maxRecDepth 100000 in
theorem mz_x_alike (l : Launch) (dC : Nat → ClassId) (dI : Nat → Nat → Nat) (cI cJ cZ : ClassId) (mx : Nat) (dr : Nat) (th : Nat) (bk : Nat) (wt : Nat) (tt : Nat) (lh : Nat) (la : Nat) (sh : Int32) (ab : Int64) (be : Int64) (dp : Nat) (dc : Nat) (n : Nat) (fp : Nat → Int32) (fc : Nat → Int32) (lw : Nat) (fl : Nat → Int32) (sz : Nat) (hn : n ≤ 8) : Met l yX7_alike wsX7_alike ({ frames := 6, cells := 0, slots := 0, locals := 137 }) (va_Pc [.ref mx] (fun U => U.heap.size = sz ∧ va_P (dC, dI) vwCl [(mx, .inr (7, [.ref dr, .ref th, .ref bk, .ref wt, .ref tt, .ref lh, .ref la, .int sh, .long ab, .long be])), (dr, .inr (2, [.ref dp, .ref dc, .int (nI n)])), (dp, .inl (cI, 8, .inl fp)), (dc, .inl (cI, 8, .inl fc)), (la, .inr (4, [.ref lw])), (lw, .inl (cI, 256, .inl fl))] U.heap ∧ va_K (dC, dI) vwCl [(cI, FieldType.int), (cJ, FieldType.long), (cZ, FieldType.boolean)] U ∧ va_D (fun _ => True) [(mx, .inr (7, [.ref dr, .ref th, .ref bk, .ref wt, .ref tt, .ref lh, .ref la, .int sh, .long ab, .long be])), (dr, .inr (2, [.ref dp, .ref dc, .int (nI n)])), (dp, .inl (cI, 8, .inl fp)), (dc, .inl (cI, 8, .inl fc)), (la, .inr (4, [.ref lw])), (lw, .inl (cI, 256, .inl fl))] ∧ mz_N U)) (va_Qi (fun (r : Int32) (_ : Unit) => True) (fun _ t => ∃ (gl : Nat → Int32), va_P (dC, dI) vwCl [(mx, .inr (7, [.ref dr, .ref th, .ref bk, .ref wt, .ref tt, .ref lh, .ref la, .int sh, .long ab, .long be])), (dr, .inr (2, [.ref dp, .ref dc, .int (nI n)])), (dp, .inl (cI, 8, .inl fp)), (dc, .inl (cI, 8, .inl fc)), (la, .inr (4, [.ref lw])), (lw, .inl (cI, 256, .inl gl))] t.heap ∧ va_D (va_A [(mx, .inr (7, [.ref dr, .ref th, .ref bk, .ref wt, .ref tt, .ref lh, .ref la, .int sh, .long ab, .long be])), (dr, .inr (2, [.ref dp, .ref dc, .int (nI n)])), (dp, .inl (cI, 8, .inl fp)), (dc, .inl (cI, 8, .inl fc)), (la, .inr (4, [.ref lw])), (lw, .inl (cI, 256, .inl fl))] sz) [(mx, .inr (7, [.ref dr, .ref th, .ref bk, .ref wt, .ref tt, .ref lh, .ref la, .int sh, .long ab, .long be])), (dr, .inr (2, [.ref dp, .ref dc, .int (nI n)])), (dp, .inl (cI, 8, .inl fp)), (dc, .inl (cI, 8, .inl fc)), (la, .inr (4, [.ref lw])), (lw, .inl (cI, 256, .inl gl))]) (va_A [(mx, .inr (7, [.ref dr, .ref th, .ref bk, .ref wt, .ref tt, .ref lh, .ref la, .int sh, .long ab, .long be])), (dr, .inr (2, [.ref dp, .ref dc, .int (nI n)])), (dp, .inl (cI, 8, .inl fp)), (dc, .inl (cI, 8, .inl fc)), (la, .inr (4, [.ref lw])), (lw, .inl (cI, 256, .inl fl))] sz)) 0 0 (va_A [(mx, .inr (7, [.ref dr, .ref th, .ref bk, .ref wt, .ref tt, .ref lh, .ref la, .int sh, .long ab, .long be])), (dr, .inr (2, [.ref dp, .ref dc, .int (nI n)])), (dp, .inl (cI, 8, .inl fp)), (dc, .inl (cI, 8, .inl fc)), (la, .inr (4, [.ref lw])), (lw, .inl (cI, 256, .inl fl))] sz) := by
  refine Met.ofW (cc := cX7_alike) (maxL := 1) (ret := (some .int)) (by decide) rfl ?_
  intro p e s m args below meth c s₁ B hml hv
  obtain ⟨rfl, hsz, hP, hK, hD0, hN⟩ := hv
  subst hsz
  have hx := B.exec
  have hb := B.bytes
  have hr := B.returns
  have hts := atoms_spec (ws := wsX7_alike) B.pre
  have hown : s.vm.findClass RX7 = some m.cls := findClass_of_methodNamed B.named
  have hlocks := B.notSynchronized
  have hD := hD0.self (sz := s.heap.size)
  generalize hAe : va_A [(mx, .inr (7, [.ref dr, .ref th, .ref bk, .ref wt, .ref tt, .ref lh, .ref la, .int sh, .long ab, .long be])), (dr, .inr (2, [.ref dp, .ref dc, .int (nI n)])), (dp, .inl (cI, 8, .inl fp)), (dc, .inl (cI, 8, .inl fc)), (la, .inr (4, [.ref lw])), (lw, .inl (cI, 256, .inl fl))] s.heap.size = A at hD ⊢
  have hA : ∀ q : Nat, s.heap.size ≤ q → A q := fun q h => by rw [← hAe]; exact Or.inr h
  have hS : va_S A s.heap s.heap [] := va_S.rf
  have hiX7 : ∀ w ∈ u_ws RX7 TX7 10, w ∈ wsX7_alike := by decide +kernel
  have hl := lv_entry ([.ref mx]) (n := 1) (Nat.le_of_ble_eq_true rfl)
  rw [lg_entry_eq]
  generalize (lg_sl ([.ref mx]) ++ List.replicate (1 - (lg_sl ([.ref mx])).length) Slot.unset).toArray = ls at hl ⊢
  have hl : lv_has ls 1 [(0, .ref mx)] := hl
  refine lv_aload_n hx hb dX7_alike_0 rfl (lv_at hl 0 rfl) ?_
  refine va_get (D := (dC, dI)) (ci := 7) (v := .ref la) (C := RX7) (T := TX7) (N := 10) hx hb hts hiX7 hown hK hP 0 rfl rfl 6 (by decide) (hts (.fieldLink RX7 50 "MadeItSo" "lookalikes" "LMadeItSo$Lookalikes;") (by decide +kernel)) (fun _ h9 => h9) rfl dX7_alike_1 ?_
  refine lv_aload_n hx hb dX7_alike_4 rfl (lv_at hl 0 rfl) ?_
  refine va_get (D := (dC, dI)) (ci := 7) (v := .ref dr) (C := RX7) (T := TX7) (N := 10) hx hb hts hiX7 hown hK hP 0 rfl rfl 0 (by decide) (hts (.fieldLink RX7 12 "MadeItSo" "drawing" "LMadeItSo$Drawing;") (by decide +kernel)) (fun _ h9 => h9) rfl dX7_alike_5 ?_
  refine lv_iconst (v := (-1)) hx hb dX7_alike_8 (by decide +kernel) ?_
  refine lv_iconst (v := (-1)) hx hb dX7_alike_9 (by decide +kernel) ?_
  have hPc := hP.sub (ws' := [(la, .inr (4, [.ref lw])), (lw, .inl (cI, 256, .inl fl)), (dr, .inr (2, [.ref dp, .ref dc, .int (nI n)])), (dp, .inl (cI, 8, .inl fp)), (dc, .inl (cI, 8, .inl fc))]) [4, 5, 1, 2, 3] rfl
  have hDc := hD.sub (ws' := [(la, .inr (4, [.ref lw])), (lw, .inl (cI, 256, .inl fl)), (dr, .inr (2, [.ref dp, .ref dc, .int (nI n)])), (dp, .inl (cI, 8, .inl fp)), (dc, .inl (cI, 8, .inl fc))]) [4, 5, 1, 2, 3] (by decide) rfl
  have hFc := va_free (wc := [(la, .inr (4, [.ref lw])), (lw, .inl (cI, 256, .inl fl)), (dr, .inr (2, [.ref dp, .ref dc, .int (nI n)])), (dp, .inl (cI, 8, .inl fp)), (dc, .inl (cI, 8, .inl fc))]) hD hS hA [4, 5, 1, 2, 3] rfl
  refine va_calli (va_runV (As := [.ref dr, .int (-1), .int (-1)]) (rest := []) ⟨hx, hb, hml, hown, hts⟩ (mz_k_reckon l dC dI cI cJ cZ la lw fl dr dp dc n fp fc (-1) (-1) s.heap.size (by first | assumption | omega)) (cwV 3 hts gX7_alike_X4_reckon rfl rfl rfl (by decide +kernel) ⟨Nat.le_of_ble_eq_true rfl, Nat.le_of_ble_eq_true rfl⟩) ⟨fun a U g mk q => mz_blI q, va_recv hK hPc (ci := 4) (q0 := 0) rfl rfl, fun U hU hW => ⟨rfl, by rw [hU], by rw [hU]; exact hPc, va_K.moved hW.alike hK, hDc.weaken (fun _ _ _ _ => trivial), mz_nw hW hN⟩⟩ rfl rfl hl.1 rfl (lv_room (Nat.le_of_ble_eq_true rfl)) dX7_alike_10 ⟨Nat.le_of_ble_eq_true rfl, Nat.le_of_ble_eq_true rfl⟩) hS (fun q _ h => hFc q h) hFc (fun r_10 u t H1 locs ht hvm hw_10 hB hz1 hk1 hS => ?_)
  obtain ⟨gl_10, hP1, hD1⟩ := hB
  rw [ht] at hP1
  obtain ⟨hP, hD⟩ := va_join (wr := [(mx, .inr (7, [.ref dr, .ref th, .ref bk, .ref wt, .ref tt, .ref lh, .ref la, .int sh, .long ab, .long be]))]) (w1 := [(la, .inr (4, [.ref lw])), (lw, .inl (cI, 256, .inl gl_10)), (dr, .inr (2, [.ref dp, .ref dc, .int (nI n)])), (dp, .inl (cI, 8, .inl fp)), (dc, .inl (cI, 8, .inl fc))]) hP hD [4, 5, 1, 2, 3] [0] rfl rfl (by decide) (by decide) hk1 hFc hP1 hD1
  generalize H1 = H at hP hS ⊢
  have hP : va_P (dC, dI) vwCl [(mx, .inr (7, [.ref dr, .ref th, .ref bk, .ref wt, .ref tt, .ref lh, .ref la, .int sh, .long ab, .long be])), (la, .inr (4, [.ref lw])), (lw, .inl (cI, 256, .inl gl_10)), (dr, .inr (2, [.ref dp, .ref dc, .int (nI n)])), (dp, .inl (cI, 8, .inl fp)), (dc, .inl (cI, 8, .inl fc))] H := hP
  have hD : va_D A [(mx, .inr (7, [.ref dr, .ref th, .ref bk, .ref wt, .ref tt, .ref lh, .ref la, .int sh, .long ab, .long be])), (la, .inr (4, [.ref lw])), (lw, .inl (cI, 256, .inl gl_10)), (dr, .inr (2, [.ref dp, .ref dc, .int (nI n)])), (dp, .inl (cI, 8, .inl fp)), (dc, .inl (cI, 8, .inl fc))] := hD
  have hP9 := hP.sub (ws' := [(mx, .inr (7, [.ref dr, .ref th, .ref bk, .ref wt, .ref tt, .ref lh, .ref la, .int sh, .long ab, .long be])), (dr, .inr (2, [.ref dp, .ref dc, .int (nI n)])), (dp, .inl (cI, 8, .inl fp)), (dc, .inl (cI, 8, .inl fc)), (la, .inr (4, [.ref lw])), (lw, .inl (cI, 256, .inl gl_10))]) [0, 3, 4, 5, 1, 2] rfl
  have hD9 := hD.sub (ws' := [(mx, .inr (7, [.ref dr, .ref th, .ref bk, .ref wt, .ref tt, .ref lh, .ref la, .int sh, .long ab, .long be])), (dr, .inr (2, [.ref dp, .ref dc, .int (nI n)])), (dp, .inl (cI, 8, .inl fp)), (dc, .inl (cI, 8, .inl fc)), (la, .inr (4, [.ref lw])), (lw, .inl (cI, 256, .inl gl_10))]) [0, 3, 4, 5, 1, 2] (by decide) rfl
  refine W.widen (k := 0) (n := 0) (Nat.le_of_ble_eq_true rfl) (Nat.le_of_ble_eq_true rfl) ?_
  exact W.iret (v := r_10) hx hb hr (fun t ht hW => ⟨⟨r_10, (), rfl, trivial, gl_10, by rw [ht]; exact hP9, hD9⟩, hS.F ht⟩) hS.2.2 dX7_alike_13
set_option maxHeartbeats 1000000 in
set_option maxRecDepth 100000 in
theorem mz_x_fixed (l : Launch) (dC : Nat → ClassId) (dI : Nat → Nat → Nat) (cI cJ cZ : ClassId) (mx : Nat) (dr : Nat) (th : Nat) (bk : Nat) (wt : Nat) (tt : Nat) (lh : Nat) (la : Nat) (sh : Int32) (ab : Int64) (be : Int64) (dp : Nat) (dc : Nat) (n : Nat) (fp : Nat → Int32) (fc : Nat → Int32) (lw : Nat) (fl : Nat → Int32) (p1 : Int32) (p2 : Int32) (sz : Nat) (hn : n ≤ 8) : Met l yX7_fixed wsX7_fixed ({ frames := 6, cells := 0, slots := 0, locals := 137 }) (va_Pc [.ref mx, .int p1, .int p2] (fun U => U.heap.size = sz ∧ va_P (dC, dI) vwCl [(mx, .inr (7, [.ref dr, .ref th, .ref bk, .ref wt, .ref tt, .ref lh, .ref la, .int sh, .long ab, .long be])), (dr, .inr (2, [.ref dp, .ref dc, .int (nI n)])), (dp, .inl (cI, 8, .inl fp)), (dc, .inl (cI, 8, .inl fc)), (la, .inr (4, [.ref lw])), (lw, .inl (cI, 256, .inl fl))] U.heap ∧ va_K (dC, dI) vwCl [(cI, FieldType.int), (cJ, FieldType.long), (cZ, FieldType.boolean)] U ∧ va_D (fun _ => True) [(mx, .inr (7, [.ref dr, .ref th, .ref bk, .ref wt, .ref tt, .ref lh, .ref la, .int sh, .long ab, .long be])), (dr, .inr (2, [.ref dp, .ref dc, .int (nI n)])), (dp, .inl (cI, 8, .inl fp)), (dc, .inl (cI, 8, .inl fc)), (la, .inr (4, [.ref lw])), (lw, .inl (cI, 256, .inl fl))] ∧ mz_N U)) (va_Qi (fun (r : Int32) (_ : Unit) => r = 0 ∨ r = 1) (fun _ t => ∃ (gl : Nat → Int32), va_P (dC, dI) vwCl [(mx, .inr (7, [.ref dr, .ref th, .ref bk, .ref wt, .ref tt, .ref lh, .ref la, .int sh, .long ab, .long be])), (dr, .inr (2, [.ref dp, .ref dc, .int (nI n)])), (dp, .inl (cI, 8, .inl fp)), (dc, .inl (cI, 8, .inl fc)), (la, .inr (4, [.ref lw])), (lw, .inl (cI, 256, .inl gl))] t.heap ∧ va_D (va_A [(mx, .inr (7, [.ref dr, .ref th, .ref bk, .ref wt, .ref tt, .ref lh, .ref la, .int sh, .long ab, .long be])), (dr, .inr (2, [.ref dp, .ref dc, .int (nI n)])), (dp, .inl (cI, 8, .inl fp)), (dc, .inl (cI, 8, .inl fc)), (la, .inr (4, [.ref lw])), (lw, .inl (cI, 256, .inl fl))] sz) [(mx, .inr (7, [.ref dr, .ref th, .ref bk, .ref wt, .ref tt, .ref lh, .ref la, .int sh, .long ab, .long be])), (dr, .inr (2, [.ref dp, .ref dc, .int (nI n)])), (dp, .inl (cI, 8, .inl fp)), (dc, .inl (cI, 8, .inl fc)), (la, .inr (4, [.ref lw])), (lw, .inl (cI, 256, .inl gl))]) (va_A [(mx, .inr (7, [.ref dr, .ref th, .ref bk, .ref wt, .ref tt, .ref lh, .ref la, .int sh, .long ab, .long be])), (dr, .inr (2, [.ref dp, .ref dc, .int (nI n)])), (dp, .inl (cI, 8, .inl fp)), (dc, .inl (cI, 8, .inl fc)), (la, .inr (4, [.ref lw])), (lw, .inl (cI, 256, .inl fl))] sz)) 0 0 (va_A [(mx, .inr (7, [.ref dr, .ref th, .ref bk, .ref wt, .ref tt, .ref lh, .ref la, .int sh, .long ab, .long be])), (dr, .inr (2, [.ref dp, .ref dc, .int (nI n)])), (dp, .inl (cI, 8, .inl fp)), (dc, .inl (cI, 8, .inl fc)), (la, .inr (4, [.ref lw])), (lw, .inl (cI, 256, .inl fl))] sz) := by
  refine Met.ofW (cc := cX7_fixed) (maxL := 3) (ret := (some .boolean)) (by decide) rfl ?_
  intro p e s m args below meth c s₁ B hml hv
  obtain ⟨rfl, hsz, hP, hK, hD0, hN⟩ := hv
  subst hsz
  have hx := B.exec
  have hb := B.bytes
  have hr := B.returns
  have hts := atoms_spec (ws := wsX7_fixed) B.pre
  have hown : s.vm.findClass RX7 = some m.cls := findClass_of_methodNamed B.named
  have hlocks := B.notSynchronized
  have hD := hD0.self (sz := s.heap.size)
  generalize hAe : va_A [(mx, .inr (7, [.ref dr, .ref th, .ref bk, .ref wt, .ref tt, .ref lh, .ref la, .int sh, .long ab, .long be])), (dr, .inr (2, [.ref dp, .ref dc, .int (nI n)])), (dp, .inl (cI, 8, .inl fp)), (dc, .inl (cI, 8, .inl fc)), (la, .inr (4, [.ref lw])), (lw, .inl (cI, 256, .inl fl))] s.heap.size = A at hD ⊢
  have hA : ∀ q : Nat, s.heap.size ≤ q → A q := fun q h => by rw [← hAe]; exact Or.inr h
  have hS : va_S A s.heap s.heap [] := va_S.rf
  have hiX7 : ∀ w ∈ u_ws RX7 TX7 10, w ∈ wsX7_fixed := by decide +kernel
  have hl := lv_entry ([.ref mx, .int p1, .int p2]) (n := 3) (Nat.le_of_ble_eq_true rfl)
  rw [lg_entry_eq]
  generalize (lg_sl ([.ref mx, .int p1, .int p2]) ++ List.replicate (3 - (lg_sl ([.ref mx, .int p1, .int p2])).length) Slot.unset).toArray = ls at hl ⊢
  have hl : lv_has ls 3 [(0, .ref mx), (1, .int p1), (2, .int p2)] := hl
  refine lv_aload_n hx hb dX7_fixed_0 rfl (lv_at hl 0 rfl) ?_
  refine va_get (D := (dC, dI)) (ci := 7) (v := .ref dr) (C := RX7) (T := TX7) (N := 10) hx hb hts hiX7 hown hK hP 0 rfl rfl 0 (by decide) (hts (.fieldLink RX7 12 "MadeItSo" "drawing" "LMadeItSo$Drawing;") (by decide +kernel)) (fun _ h9 => h9) rfl dX7_fixed_1 ?_
  refine lv_iload_n hx hb dX7_fixed_4 rfl (lv_at hl 1 rfl) ?_
  refine lv_iload_n hx hb dX7_fixed_5 rfl (lv_at hl 2 rfl) ?_
  have hPc := hP.sub (ws' := [(dr, .inr (2, [.ref dp, .ref dc, .int (nI n)])), (dc, .inl (cI, 8, .inl fc))]) [1, 3] rfl
  refine va_calli (va_runV (As := [.int p1, .int p2]) (rest := []) ⟨hx, hb, hml, hown, hts⟩ (mz_d_leads l dC dI cI cJ cZ dr dp dc n fc p1 p2 s.heap (by first | assumption | omega)) (cwV 2 hts gX7_fixed_X2_leads rfl rfl rfl (by decide +kernel) ⟨Nat.le_of_ble_eq_true rfl, Nat.le_of_ble_eq_true rfl⟩) ⟨fun a U g mk q => mz_blP q, va_recv hK hPc (ci := 2) (q0 := 0) rfl rfl, fun U hU hW => ⟨rfl, hU, hPc, va_K.moved hW.alike hK, mz_nw hW hN⟩⟩ rfl rfl hl.1 rfl (lv_room (Nat.le_of_ble_eq_true rfl)) dX7_fixed_6 ⟨Nat.le_of_ble_eq_true rfl, Nat.le_of_ble_eq_true rfl⟩) hS (fun q _ h => h.elim) (fun q h => h.elim) (fun r_6 u t H1 locs ht hvm hw_6 hB hz1 hk1 hS => ?_)
  have hE : s.heap = H1 := hB.symm.trans ht
  subst hE
  refine lv_if_ne (tgt := 14) hx hb dX7_fixed_9 (by decide) (fun c_9 => ?_) (fun c_9 => ?_)
  · skip
    refine lv_aload_n hx hb dX7_fixed_14 rfl (lv_at hl 0 rfl) ?_
    refine va_get (D := (dC, dI)) (ci := 7) (v := .ref la) (C := RX7) (T := TX7) (N := 10) hx hb hts hiX7 hown hK hP 0 rfl rfl 6 (by decide) (hts (.fieldLink RX7 50 "MadeItSo" "lookalikes" "LMadeItSo$Lookalikes;") (by decide +kernel)) (fun _ h9 => h9) rfl dX7_fixed_15 ?_
    refine lv_aload_n hx hb dX7_fixed_18 rfl (lv_at hl 0 rfl) ?_
    refine va_get (D := (dC, dI)) (ci := 7) (v := .ref dr) (C := RX7) (T := TX7) (N := 10) hx hb hts hiX7 hown hK hP 0 rfl rfl 0 (by decide) (hts (.fieldLink RX7 12 "MadeItSo" "drawing" "LMadeItSo$Drawing;") (by decide +kernel)) (fun _ h9 => h9) rfl dX7_fixed_19 ?_
    refine lv_iload_n hx hb dX7_fixed_22 rfl (lv_at hl 2 rfl) ?_
    refine lv_iload_n hx hb dX7_fixed_23 rfl (lv_at hl 1 rfl) ?_
    have hPc := hP.sub (ws' := [(la, .inr (4, [.ref lw])), (lw, .inl (cI, 256, .inl fl)), (dr, .inr (2, [.ref dp, .ref dc, .int (nI n)])), (dp, .inl (cI, 8, .inl fp)), (dc, .inl (cI, 8, .inl fc))]) [4, 5, 1, 2, 3] rfl
    have hDc := hD.sub (ws' := [(la, .inr (4, [.ref lw])), (lw, .inl (cI, 256, .inl fl)), (dr, .inr (2, [.ref dp, .ref dc, .int (nI n)])), (dp, .inl (cI, 8, .inl fp)), (dc, .inl (cI, 8, .inl fc))]) [4, 5, 1, 2, 3] (by decide) rfl
    have hFc := va_free (wc := [(la, .inr (4, [.ref lw])), (lw, .inl (cI, 256, .inl fl)), (dr, .inr (2, [.ref dp, .ref dc, .int (nI n)])), (dp, .inl (cI, 8, .inl fp)), (dc, .inl (cI, 8, .inl fc))]) hD hS hA [4, 5, 1, 2, 3] rfl
    refine va_calli (va_runV (As := [.ref dr, .int p2, .int p1]) (rest := []) ⟨hx, hb, hml, hown, hts⟩ (mz_k_reckon l dC dI cI cJ cZ la lw fl dr dp dc n fp fc p2 p1 s.heap.size (by first | assumption | omega)) (cwV 3 hts gX7_fixed_X4_reckon rfl rfl rfl (by decide +kernel) ⟨Nat.le_of_ble_eq_true rfl, Nat.le_of_ble_eq_true rfl⟩) ⟨fun a U g mk q => mz_blI q, va_recv hK hPc (ci := 4) (q0 := 0) rfl rfl, fun U hU hW => ⟨rfl, by rw [hU], by rw [hU]; exact hPc, va_K.moved hW.alike hK, hDc.weaken (fun _ _ _ _ => trivial), mz_nw hW hN⟩⟩ rfl rfl hl.1 rfl (lv_room (Nat.le_of_ble_eq_true rfl)) dX7_fixed_24 ⟨Nat.le_of_ble_eq_true rfl, Nat.le_of_ble_eq_true rfl⟩) hS (fun q _ h => hFc q h) hFc (fun r_24 u t H1 locs ht hvm hw_24 hB hz1 hk1 hS => ?_)
    obtain ⟨gl_24, hP1, hD1⟩ := hB
    rw [ht] at hP1
    obtain ⟨hP, hD⟩ := va_join (wr := [(mx, .inr (7, [.ref dr, .ref th, .ref bk, .ref wt, .ref tt, .ref lh, .ref la, .int sh, .long ab, .long be]))]) (w1 := [(la, .inr (4, [.ref lw])), (lw, .inl (cI, 256, .inl gl_24)), (dr, .inr (2, [.ref dp, .ref dc, .int (nI n)])), (dp, .inl (cI, 8, .inl fp)), (dc, .inl (cI, 8, .inl fc))]) hP hD [4, 5, 1, 2, 3] [0] rfl rfl (by decide) (by decide) hk1 hFc hP1 hD1
    generalize H1 = H at hP hS ⊢
    have hP : va_P (dC, dI) vwCl [(mx, .inr (7, [.ref dr, .ref th, .ref bk, .ref wt, .ref tt, .ref lh, .ref la, .int sh, .long ab, .long be])), (la, .inr (4, [.ref lw])), (lw, .inl (cI, 256, .inl gl_24)), (dr, .inr (2, [.ref dp, .ref dc, .int (nI n)])), (dp, .inl (cI, 8, .inl fp)), (dc, .inl (cI, 8, .inl fc))] H := hP
    have hD : va_D A [(mx, .inr (7, [.ref dr, .ref th, .ref bk, .ref wt, .ref tt, .ref lh, .ref la, .int sh, .long ab, .long be])), (la, .inr (4, [.ref lw])), (lw, .inl (cI, 256, .inl gl_24)), (dr, .inr (2, [.ref dp, .ref dc, .int (nI n)])), (dp, .inl (cI, 8, .inl fp)), (dc, .inl (cI, 8, .inl fc))] := hD
    refine lv_if_ne (tgt := 34) hx hb dX7_fixed_27 (by decide) (fun c_27 => ?_) (fun c_27 => ?_)
    · skip
      refine lv_iconst (v := 0) hx hb dX7_fixed_34 (by decide +kernel) ?_
      have hP9 := hP.sub (ws' := [(mx, .inr (7, [.ref dr, .ref th, .ref bk, .ref wt, .ref tt, .ref lh, .ref la, .int sh, .long ab, .long be])), (dr, .inr (2, [.ref dp, .ref dc, .int (nI n)])), (dp, .inl (cI, 8, .inl fp)), (dc, .inl (cI, 8, .inl fc)), (la, .inr (4, [.ref lw])), (lw, .inl (cI, 256, .inl gl_24))]) [0, 3, 4, 5, 1, 2] rfl
      have hD9 := hD.sub (ws' := [(mx, .inr (7, [.ref dr, .ref th, .ref bk, .ref wt, .ref tt, .ref lh, .ref la, .int sh, .long ab, .long be])), (dr, .inr (2, [.ref dp, .ref dc, .int (nI n)])), (dp, .inl (cI, 8, .inl fp)), (dc, .inl (cI, 8, .inl fc)), (la, .inr (4, [.ref lw])), (lw, .inl (cI, 256, .inl gl_24))]) [0, 3, 4, 5, 1, 2] (by decide) rfl
      refine W.widen (k := 0) (n := 0) (Nat.le_of_ble_eq_true rfl) (Nat.le_of_ble_eq_true rfl) ?_
      exact W.zret (v := 0) hx hb hr (mz_nz (by decide +kernel)) (fun t ht hW => ⟨⟨0, (), rfl, Or.inl rfl, gl_24, by rw [ht]; exact hP9, hD9⟩, hS.F ht⟩) hS.2.2 dX7_fixed_35
    · skip
      refine lv_iconst (v := 1) hx hb dX7_fixed_30 (by decide +kernel) ?_
      refine lv_goto (tgt := 35) hx hb dX7_fixed_31 (by decide) ?_
      have hP9 := hP.sub (ws' := [(mx, .inr (7, [.ref dr, .ref th, .ref bk, .ref wt, .ref tt, .ref lh, .ref la, .int sh, .long ab, .long be])), (dr, .inr (2, [.ref dp, .ref dc, .int (nI n)])), (dp, .inl (cI, 8, .inl fp)), (dc, .inl (cI, 8, .inl fc)), (la, .inr (4, [.ref lw])), (lw, .inl (cI, 256, .inl gl_24))]) [0, 3, 4, 5, 1, 2] rfl
      have hD9 := hD.sub (ws' := [(mx, .inr (7, [.ref dr, .ref th, .ref bk, .ref wt, .ref tt, .ref lh, .ref la, .int sh, .long ab, .long be])), (dr, .inr (2, [.ref dp, .ref dc, .int (nI n)])), (dp, .inl (cI, 8, .inl fp)), (dc, .inl (cI, 8, .inl fc)), (la, .inr (4, [.ref lw])), (lw, .inl (cI, 256, .inl gl_24))]) [0, 3, 4, 5, 1, 2] (by decide) rfl
      refine W.widen (k := 0) (n := 0) (Nat.le_of_ble_eq_true rfl) (Nat.le_of_ble_eq_true rfl) ?_
      exact W.zret (v := 1) hx hb hr (mz_nz (by decide +kernel)) (fun t ht hW => ⟨⟨1, (), rfl, Or.inr rfl, gl_24, by rw [ht]; exact hP9, hD9⟩, hS.F ht⟩) hS.2.2 dX7_fixed_35
  · skip
    refine lv_iconst (v := 0) hx hb dX7_fixed_12 (by decide +kernel) ?_
    have hP9 := hP.sub (ws' := [(mx, .inr (7, [.ref dr, .ref th, .ref bk, .ref wt, .ref tt, .ref lh, .ref la, .int sh, .long ab, .long be])), (dr, .inr (2, [.ref dp, .ref dc, .int (nI n)])), (dp, .inl (cI, 8, .inl fp)), (dc, .inl (cI, 8, .inl fc)), (la, .inr (4, [.ref lw])), (lw, .inl (cI, 256, .inl fl))]) [0, 1, 2, 3, 4, 5] rfl
    have hD9 := hD.sub (ws' := [(mx, .inr (7, [.ref dr, .ref th, .ref bk, .ref wt, .ref tt, .ref lh, .ref la, .int sh, .long ab, .long be])), (dr, .inr (2, [.ref dp, .ref dc, .int (nI n)])), (dp, .inl (cI, 8, .inl fp)), (dc, .inl (cI, 8, .inl fc)), (la, .inr (4, [.ref lw])), (lw, .inl (cI, 256, .inl fl))]) [0, 1, 2, 3, 4, 5] (by decide) rfl
    refine W.widen (k := 0) (n := 0) (Nat.le_of_ble_eq_true rfl) (Nat.le_of_ble_eq_true rfl) ?_
    exact W.zret (v := 0) hx hb hr (mz_nz (by decide +kernel)) (fun t ht hW => ⟨⟨0, (), rfl, Or.inl rfl, fl, by rw [ht]; exact hP9, hD9⟩, hS.F ht⟩) hS.2.2 dX7_fixed_13
set_option maxHeartbeats 1000000 in
set_option maxRecDepth 100000 in
theorem mz_x_otherwise (l : Launch) (dC : Nat → ClassId) (dI : Nat → Nat → Nat) (cI cJ cZ : ClassId) (mx : Nat) (dr : Nat) (th : Nat) (bk : Nat) (wt : Nat) (tt : Nat) (lh : Nat) (la : Nat) (sh : Int32) (ab : Int64) (be : Int64) (dp : Nat) (dc : Nat) (n : Nat) (fp : Nat → Int32) (bp : Nat) (fb : Nat → Int32) (wo : Nat) (ev : Int32) (fw : Nat → Int64) (p1 : Int32) (p2 : Int32) (p3 : Int32) (sz : Nat) (hn : n ≤ 8) : Met l yX7_otherwise wsX7_otherwise ({ frames := 4, cells := 0, slots := 0, locals := 101 }) (va_Pc [.ref mx, .int p1, .int p2, .int p3] (fun U => U.heap.size = sz ∧ va_P (dC, dI) vwCl [(mx, .inr (7, [.ref dr, .ref th, .ref bk, .ref wt, .ref tt, .ref lh, .ref la, .int sh, .long ab, .long be])), (dr, .inr (2, [.ref dp, .ref dc, .int (nI n)])), (dp, .inl (cI, 8, .inl fp)), (bk, .inr (1, [.ref bp])), (bp, .inl (cI, 1024, .inl fb)), (wt, .inr (6, [.ref wo, .int ev])), (wo, .inl (cJ, 256, .inr (.inl fw)))] U.heap ∧ va_K (dC, dI) vwCl [(cI, FieldType.int), (cJ, FieldType.long), (cZ, FieldType.boolean)] U ∧ va_D (fun _ => True) [(mx, .inr (7, [.ref dr, .ref th, .ref bk, .ref wt, .ref tt, .ref lh, .ref la, .int sh, .long ab, .long be])), (dr, .inr (2, [.ref dp, .ref dc, .int (nI n)])), (dp, .inl (cI, 8, .inl fp)), (bk, .inr (1, [.ref bp])), (bp, .inl (cI, 1024, .inl fb)), (wt, .inr (6, [.ref wo, .int ev])), (wo, .inl (cJ, 256, .inr (.inl fw)))] ∧ mz_N U)) (va_Ql (fun (r : Int64) (_ : Unit) => True) (fun _ t => ∃ (gev : Int32), ∃ (gw : Nat → Int64), va_P (dC, dI) vwCl [(mx, .inr (7, [.ref dr, .ref th, .ref bk, .ref wt, .ref tt, .ref lh, .ref la, .int sh, .long ab, .long be])), (dr, .inr (2, [.ref dp, .ref dc, .int (nI n)])), (dp, .inl (cI, 8, .inl fp)), (bk, .inr (1, [.ref bp])), (bp, .inl (cI, 1024, .inl fb)), (wt, .inr (6, [.ref wo, .int gev])), (wo, .inl (cJ, 256, .inr (.inl gw)))] t.heap ∧ va_D (va_A [(mx, .inr (7, [.ref dr, .ref th, .ref bk, .ref wt, .ref tt, .ref lh, .ref la, .int sh, .long ab, .long be])), (dr, .inr (2, [.ref dp, .ref dc, .int (nI n)])), (dp, .inl (cI, 8, .inl fp)), (bk, .inr (1, [.ref bp])), (bp, .inl (cI, 1024, .inl fb)), (wt, .inr (6, [.ref wo, .int ev])), (wo, .inl (cJ, 256, .inr (.inl fw)))] sz) [(mx, .inr (7, [.ref dr, .ref th, .ref bk, .ref wt, .ref tt, .ref lh, .ref la, .int sh, .long ab, .long be])), (dr, .inr (2, [.ref dp, .ref dc, .int (nI n)])), (dp, .inl (cI, 8, .inl fp)), (bk, .inr (1, [.ref bp])), (bp, .inl (cI, 1024, .inl fb)), (wt, .inr (6, [.ref wo, .int gev])), (wo, .inl (cJ, 256, .inr (.inl gw)))]) (va_A [(mx, .inr (7, [.ref dr, .ref th, .ref bk, .ref wt, .ref tt, .ref lh, .ref la, .int sh, .long ab, .long be])), (dr, .inr (2, [.ref dp, .ref dc, .int (nI n)])), (dp, .inl (cI, 8, .inl fp)), (bk, .inr (1, [.ref bp])), (bp, .inl (cI, 1024, .inl fb)), (wt, .inr (6, [.ref wo, .int ev])), (wo, .inl (cJ, 256, .inr (.inl fw)))] sz)) 0 0 (va_A [(mx, .inr (7, [.ref dr, .ref th, .ref bk, .ref wt, .ref tt, .ref lh, .ref la, .int sh, .long ab, .long be])), (dr, .inr (2, [.ref dp, .ref dc, .int (nI n)])), (dp, .inl (cI, 8, .inl fp)), (bk, .inr (1, [.ref bp])), (bp, .inl (cI, 1024, .inl fb)), (wt, .inr (6, [.ref wo, .int ev])), (wo, .inl (cJ, 256, .inr (.inl fw)))] sz) := by
  refine Met.ofW (cc := cX7_otherwise) (maxL := 8) (ret := (some .long)) (by decide) rfl ?_
  intro p e s m args below meth c s₁ B hml hv
  obtain ⟨rfl, hsz, hP, hK, hD0, hN⟩ := hv
  subst hsz
  have hx := B.exec
  have hb := B.bytes
  have hr := B.returns
  have hts := atoms_spec (ws := wsX7_otherwise) B.pre
  have hown : s.vm.findClass RX7 = some m.cls := findClass_of_methodNamed B.named
  have hlocks := B.notSynchronized
  have hD := hD0.self (sz := s.heap.size)
  generalize hAe : va_A [(mx, .inr (7, [.ref dr, .ref th, .ref bk, .ref wt, .ref tt, .ref lh, .ref la, .int sh, .long ab, .long be])), (dr, .inr (2, [.ref dp, .ref dc, .int (nI n)])), (dp, .inl (cI, 8, .inl fp)), (bk, .inr (1, [.ref bp])), (bp, .inl (cI, 1024, .inl fb)), (wt, .inr (6, [.ref wo, .int ev])), (wo, .inl (cJ, 256, .inr (.inl fw)))] s.heap.size = A at hD ⊢
  have hA : ∀ q : Nat, s.heap.size ≤ q → A q := fun q h => by rw [← hAe]; exact Or.inr h
  have hS : va_S A s.heap s.heap [] := va_S.rf
  have hiX7 : ∀ w ∈ u_ws RX7 TX7 10, w ∈ wsX7_otherwise := by decide +kernel
  have hl := lv_entry ([.ref mx, .int p1, .int p2, .int p3]) (n := 8) (Nat.le_of_ble_eq_true rfl)
  rw [lg_entry_eq]
  generalize (lg_sl ([.ref mx, .int p1, .int p2, .int p3]) ++ List.replicate (8 - (lg_sl ([.ref mx, .int p1, .int p2, .int p3])).length) Slot.unset).toArray = ls at hl ⊢
  have hl : lv_has ls 8 [(0, .ref mx), (1, .int p1), (2, .int p2), (3, .int p3)] := hl
  refine lv_aload_n hx hb dX7_otherwise_0 rfl (lv_at hl 0 rfl) ?_
  refine lv_iload_n hx hb dX7_otherwise_1 rfl (lv_at hl 1 rfl) ?_
  refine lv_iload_n hx hb dX7_otherwise_2 rfl (lv_at hl 2 rfl) ?_
  have hPc := hP.sub (ws' := [(mx, .inr (7, [.ref dr, .ref th, .ref bk, .ref wt, .ref tt, .ref lh, .ref la, .int sh, .long ab, .long be])), (dr, .inr (2, [.ref dp, .ref dc, .int (nI n)]))]) [0, 1] rfl
  refine va_calli (va_runV (As := [.int p1, .int p2]) (rest := []) ⟨hx, hb, hml, hown, hts⟩ (mz_x_areTwo l dC dI cI cJ cZ mx dr th bk wt tt lh la sh ab be dp dc n p1 p2 s.heap (by first | assumption | omega)) (cwV 2 hts gX7_otherwise_X7_areTwo rfl rfl rfl (by decide +kernel) ⟨Nat.le_of_ble_eq_true rfl, Nat.le_of_ble_eq_true rfl⟩) ⟨fun a U g mk q => mz_blP q, va_recv hK hPc (ci := 7) (q0 := 0) rfl rfl, fun U hU hW => ⟨rfl, hU, hPc, va_K.moved hW.alike hK, mz_nw hW hN⟩⟩ rfl rfl hl.1 rfl (lv_room (Nat.le_of_ble_eq_true rfl)) dX7_otherwise_3 ⟨Nat.le_of_ble_eq_true rfl, Nat.le_of_ble_eq_true rfl⟩) hS (fun q _ h => h.elim) (fun q h => h.elim) (fun r_3 u t H1 locs ht hvm hw_3 hB hz1 hk1 hS => ?_)
  have hE : s.heap = H1 := hB.symm.trans ht
  subst hE
  refine lv_if_eq (tgt := 18) hx hb dX7_otherwise_6 (by decide) (fun c_6 => ?_) (fun c_6 => ?_)
  · skip
    refine lv_ldc2 hx hb hown (hts (.constantLong RX7 121 (-1)) (by decide +kernel)) dX7_otherwise_18 ?_
    have hP9 := hP.sub (ws' := [(mx, .inr (7, [.ref dr, .ref th, .ref bk, .ref wt, .ref tt, .ref lh, .ref la, .int sh, .long ab, .long be])), (dr, .inr (2, [.ref dp, .ref dc, .int (nI n)])), (dp, .inl (cI, 8, .inl fp)), (bk, .inr (1, [.ref bp])), (bp, .inl (cI, 1024, .inl fb)), (wt, .inr (6, [.ref wo, .int ev])), (wo, .inl (cJ, 256, .inr (.inl fw)))]) [0, 1, 2, 3, 4, 5, 6] rfl
    have hD9 := hD.sub (ws' := [(mx, .inr (7, [.ref dr, .ref th, .ref bk, .ref wt, .ref tt, .ref lh, .ref la, .int sh, .long ab, .long be])), (dr, .inr (2, [.ref dp, .ref dc, .int (nI n)])), (dp, .inl (cI, 8, .inl fp)), (bk, .inr (1, [.ref bp])), (bp, .inl (cI, 1024, .inl fb)), (wt, .inr (6, [.ref wo, .int ev])), (wo, .inl (cJ, 256, .inr (.inl fw)))]) [0, 1, 2, 3, 4, 5, 6] (by decide) rfl
    refine W.widen (k := 0) (n := 0) (Nat.le_of_ble_eq_true rfl) (Nat.le_of_ble_eq_true rfl) ?_
    exact W.lret (v := (-1)) hx hb hr (fun t ht hW => ⟨⟨(-1), (), rfl, trivial, ev, fw, by rw [ht]; exact hP9, hD9⟩, hS.F ht⟩) hS.2.2 dX7_otherwise_21
  · skip
    refine lv_iload_n hx hb dX7_otherwise_9 rfl (lv_at hl 3 rfl) ?_
    refine lv_if_lt (tgt := 18) hx hb dX7_otherwise_10 (by decide) (fun c_10 => ?_) (fun c_10 => ?_)
    · skip
      refine lv_ldc2 hx hb hown (hts (.constantLong RX7 121 (-1)) (by decide +kernel)) dX7_otherwise_18 ?_
      have hP9 := hP.sub (ws' := [(mx, .inr (7, [.ref dr, .ref th, .ref bk, .ref wt, .ref tt, .ref lh, .ref la, .int sh, .long ab, .long be])), (dr, .inr (2, [.ref dp, .ref dc, .int (nI n)])), (dp, .inl (cI, 8, .inl fp)), (bk, .inr (1, [.ref bp])), (bp, .inl (cI, 1024, .inl fb)), (wt, .inr (6, [.ref wo, .int ev])), (wo, .inl (cJ, 256, .inr (.inl fw)))]) [0, 1, 2, 3, 4, 5, 6] rfl
      have hD9 := hD.sub (ws' := [(mx, .inr (7, [.ref dr, .ref th, .ref bk, .ref wt, .ref tt, .ref lh, .ref la, .int sh, .long ab, .long be])), (dr, .inr (2, [.ref dp, .ref dc, .int (nI n)])), (dp, .inl (cI, 8, .inl fp)), (bk, .inr (1, [.ref bp])), (bp, .inl (cI, 1024, .inl fb)), (wt, .inr (6, [.ref wo, .int ev])), (wo, .inl (cJ, 256, .inr (.inl fw)))]) [0, 1, 2, 3, 4, 5, 6] (by decide) rfl
      refine W.widen (k := 0) (n := 0) (Nat.le_of_ble_eq_true rfl) (Nat.le_of_ble_eq_true rfl) ?_
      exact W.lret (v := (-1)) hx hb hr (fun t ht hW => ⟨⟨(-1), (), rfl, trivial, ev, fw, by rw [ht]; exact hP9, hD9⟩, hS.F ht⟩) hS.2.2 dX7_otherwise_21
    · skip
      refine lv_iload_n hx hb dX7_otherwise_13 rfl (lv_at hl 3 rfl) ?_
      refine lv_iconst (v := 4) hx hb dX7_otherwise_14 (by decide +kernel) ?_
      refine lv_icmp_le (tgt := 22) hx hb dX7_otherwise_15 (by decide) (fun c_15 => ?_) (fun c_15 => ?_)
      · skip
        refine lv_aload_n hx hb dX7_otherwise_22 rfl (lv_at hl 0 rfl) ?_
        refine va_get (D := (dC, dI)) (ci := 7) (v := .ref wt) (C := RX7) (T := TX7) (N := 10) hx hb hts hiX7 hown hK hP 0 rfl rfl 3 (by decide) (hts (.fieldLink RX7 29 "MadeItSo" "weights" "LMadeItSo$Weights;") (by decide +kernel)) (fun _ h9 => h9) rfl dX7_otherwise_23 ?_
        refine lv_aload_n hx hb dX7_otherwise_26 rfl (lv_at hl 0 rfl) ?_
        refine va_get (D := (dC, dI)) (ci := 7) (v := .ref dr) (C := RX7) (T := TX7) (N := 10) hx hb hts hiX7 hown hK hP 0 rfl rfl 0 (by decide) (hts (.fieldLink RX7 12 "MadeItSo" "drawing" "LMadeItSo$Drawing;") (by decide +kernel)) (fun _ h9 => h9) rfl dX7_otherwise_27 ?_
        refine lv_aload_n hx hb dX7_otherwise_30 rfl (lv_at hl 0 rfl) ?_
        refine va_get (D := (dC, dI)) (ci := 7) (v := .ref bk) (C := RX7) (T := TX7) (N := 10) hx hb hts hiX7 hown hK hP 0 rfl rfl 2 (by decide) (hts (.fieldLink RX7 22 "MadeItSo" "books" "LMadeItSo$Books;") (by decide +kernel)) (fun _ h9 => h9) rfl dX7_otherwise_31 ?_
        refine lv_iload_n hx hb dX7_otherwise_34 rfl (lv_at hl 1 rfl) ?_
        refine lv_iconst (v := 1) hx hb dX7_otherwise_35 (by decide +kernel) ?_
        have hPc := hP.sub (ws' := []) [] rfl
        refine va_calli (va_runS (As := [.int p1, .int 1]) (rest := [.ref bk, .ref dr, .ref wt]) ⟨hx, hb, hml, hown, hts⟩ (mz_g_settingOf l dC dI cI cJ cZ p1 1 s.heap ) (va_cwS 2 hts gX7_otherwise_X7_settingOf rfl rfl rfl (by decide +kernel) ⟨Nat.le_of_ble_eq_true rfl, Nat.le_of_ble_eq_true rfl⟩) ⟨fun a U g mk q => mz_blP q, fun U hU hW => ⟨rfl, hU, hPc, va_K.moved hW.alike hK, mz_nw hW hN⟩⟩ rfl rfl hl.1 rfl (lv_room (Nat.le_of_ble_eq_true rfl)) dX7_otherwise_36 ⟨Nat.le_of_ble_eq_true rfl, Nat.le_of_ble_eq_true rfl⟩) hS (fun q _ h => h.elim) (fun q h => h.elim) (fun r_36 u t H1 locs ht hvm hw_36 hB hz1 hk1 hS => ?_)
        have hE : s.heap = H1 := hB.symm.trans ht
        subst hE
        have hPc := hP.sub (ws' := [(wt, .inr (6, [.ref wo, .int ev])), (wo, .inl (cJ, 256, .inr (.inl fw))), (dr, .inr (2, [.ref dp, .ref dc, .int (nI n)])), (dp, .inl (cI, 8, .inl fp)), (bk, .inr (1, [.ref bp])), (bp, .inl (cI, 1024, .inl fb))]) [5, 6, 1, 2, 3, 4] rfl
        have hDc := hD.sub (ws' := [(wt, .inr (6, [.ref wo, .int ev])), (wo, .inl (cJ, 256, .inr (.inl fw))), (dr, .inr (2, [.ref dp, .ref dc, .int (nI n)])), (dp, .inl (cI, 8, .inl fp)), (bk, .inr (1, [.ref bp])), (bp, .inl (cI, 1024, .inl fb))]) [5, 6, 1, 2, 3, 4] (by decide) rfl
        have hFc := va_free (wc := [(wt, .inr (6, [.ref wo, .int ev])), (wo, .inl (cJ, 256, .inr (.inl fw))), (dr, .inr (2, [.ref dp, .ref dc, .int (nI n)])), (dp, .inl (cI, 8, .inl fp)), (bk, .inr (1, [.ref bp])), (bp, .inl (cI, 1024, .inl fb))]) hD hS hA [5, 6, 1, 2, 3, 4] rfl
        refine va_callv (va_runV (As := [.ref dr, .ref bk, .int r_36]) (rest := []) ⟨hx, hb, hml, hown, hts⟩ (mz_w_weigh l dC dI cI cJ cZ wt wo ev fw dr dp dc n fp bk bp fb r_36 s.heap.size (by first | assumption | omega)) (cwV 3 hts gX7_otherwise_X6_weigh rfl rfl rfl (by decide +kernel) ⟨Nat.le_of_ble_eq_true rfl, Nat.le_of_ble_eq_true rfl⟩) ⟨fun a U g mk q => mz_blI q, va_recv hK hPc (ci := 6) (q0 := 0) rfl rfl, fun U hU hW => ⟨rfl, by rw [hU], by rw [hU]; exact hPc, va_K.moved hW.alike hK, hDc.weaken (fun _ _ _ _ => trivial), mz_nw hW hN⟩⟩ rfl rfl hl.1 rfl (lv_room (Nat.le_of_ble_eq_true rfl)) dX7_otherwise_39 ⟨Nat.le_of_ble_eq_true rfl, Nat.le_of_ble_eq_true rfl⟩) hS (fun q _ h => hFc q h) hFc (fun u t H1 locs ht hvm hw_39 hB hz1 hk1 hS => ?_)
        obtain ⟨gev_39, gw_39, hP1, hD1⟩ := hB
        rw [ht] at hP1
        obtain ⟨hP, hD⟩ := va_join (wr := [(mx, .inr (7, [.ref dr, .ref th, .ref bk, .ref wt, .ref tt, .ref lh, .ref la, .int sh, .long ab, .long be]))]) (w1 := [(wt, .inr (6, [.ref wo, .int gev_39])), (wo, .inl (cJ, 256, .inr (.inl gw_39))), (dr, .inr (2, [.ref dp, .ref dc, .int (nI n)])), (dp, .inl (cI, 8, .inl fp)), (bk, .inr (1, [.ref bp])), (bp, .inl (cI, 1024, .inl fb))]) hP hD [5, 6, 1, 2, 3, 4] [0] rfl rfl (by decide) (by decide) hk1 hFc hP1 hD1
        generalize H1 = H at hP hS ⊢
        have hP : va_P (dC, dI) vwCl [(mx, .inr (7, [.ref dr, .ref th, .ref bk, .ref wt, .ref tt, .ref lh, .ref la, .int sh, .long ab, .long be])), (wt, .inr (6, [.ref wo, .int gev_39])), (wo, .inl (cJ, 256, .inr (.inl gw_39))), (dr, .inr (2, [.ref dp, .ref dc, .int (nI n)])), (dp, .inl (cI, 8, .inl fp)), (bk, .inr (1, [.ref bp])), (bp, .inl (cI, 1024, .inl fb))] H := hP
        have hD : va_D A [(mx, .inr (7, [.ref dr, .ref th, .ref bk, .ref wt, .ref tt, .ref lh, .ref la, .int sh, .long ab, .long be])), (wt, .inr (6, [.ref wo, .int gev_39])), (wo, .inl (cJ, 256, .inr (.inl gw_39))), (dr, .inr (2, [.ref dp, .ref dc, .int (nI n)])), (dp, .inl (cI, 8, .inl fp)), (bk, .inr (1, [.ref bp])), (bp, .inl (cI, 1024, .inl fb))] := hD
        refine lv_aload_n hx hb dX7_otherwise_42 rfl (lv_at hl 0 rfl) ?_
        refine va_get (D := (dC, dI)) (ci := 7) (v := .ref wt) (C := RX7) (T := TX7) (N := 10) hx hb hts hiX7 hown hK hP 0 rfl rfl 3 (by decide) (hts (.fieldLink RX7 29 "MadeItSo" "weights" "LMadeItSo$Weights;") (by decide +kernel)) (fun _ h9 => h9) rfl dX7_otherwise_43 ?_
        refine lv_iload_n hx hb dX7_otherwise_46 rfl (lv_at hl 2 rfl) ?_
        have hPc := hP.sub (ws' := []) [] rfl
        refine va_calli (va_runS (As := [.int p2]) (rest := [.ref wt]) ⟨hx, hb, hml, hown, hts⟩ (mz_g_bit l dC dI cI cJ cZ p2 H ) (va_cwS 1 hts gX7_otherwise_X7_bit rfl rfl rfl (by decide +kernel) ⟨Nat.le_of_ble_eq_true rfl, Nat.le_of_ble_eq_true rfl⟩) ⟨fun a U g mk q => mz_blP q, fun U hU hW => ⟨rfl, hU, hPc, va_K.moved hW.alike hK, mz_nw hW hN⟩⟩ rfl rfl hl.1 rfl (lv_room (Nat.le_of_ble_eq_true rfl)) dX7_otherwise_47 ⟨Nat.le_of_ble_eq_true rfl, Nat.le_of_ble_eq_true rfl⟩) hS (fun q _ h => h.elim) (fun q h => h.elim) (fun r_47 u t H1 locs ht hvm hw_47 hB hz1 hk1 hS => ?_)
        have hE : H = H1 := hB.symm.trans ht
        subst hE
        obtain rfl : r_47 = (1 <<< (p2 &&& 31)) := hw_47
        refine lv_iload_n hx hb dX7_otherwise_50 rfl (lv_at hl 2 rfl) ?_
        have hPc := hP.sub (ws' := []) [] rfl
        refine va_calli (va_runS (As := [.int p2]) (rest := [.int (1 <<< (p2 &&& 31)), .ref wt]) ⟨hx, hb, hml, hown, hts⟩ (mz_g_bit l dC dI cI cJ cZ p2 H ) (va_cwS 1 hts gX7_otherwise_X7_bit rfl rfl rfl (by decide +kernel) ⟨Nat.le_of_ble_eq_true rfl, Nat.le_of_ble_eq_true rfl⟩) ⟨fun a U g mk q => mz_blP q, fun U hU hW => ⟨rfl, hU, hPc, va_K.moved hW.alike hK, mz_nw hW hN⟩⟩ rfl rfl hl.1 rfl (lv_room (Nat.le_of_ble_eq_true rfl)) dX7_otherwise_51 ⟨Nat.le_of_ble_eq_true rfl, Nat.le_of_ble_eq_true rfl⟩) hS (fun q _ h => h.elim) (fun q h => h.elim) (fun r_51 u t H1 locs ht hvm hw_51 hB hz1 hk1 hS => ?_)
        have hE : H = H1 := hB.symm.trans ht
        subst hE
        obtain rfl : r_51 = (1 <<< (p2 &&& 31)) := hw_51
        have hPc := hP.sub (ws' := [(wt, .inr (6, [.ref wo, .int gev_39])), (wo, .inl (cJ, 256, .inr (.inl gw_39)))]) [1, 2] rfl
        refine va_calll (va_runV (As := [.int (1 <<< (p2 &&& 31)), .int (1 <<< (p2 &&& 31))]) (rest := []) ⟨hx, hb, hml, hown, hts⟩ (mz_w_having l dC dI cI cJ cZ wt wo gev_39 gw_39 (1 <<< (p2 &&& 31)) (1 <<< (p2 &&& 31)) H ) (cwV 2 hts gX7_otherwise_X6_having rfl rfl rfl (by decide +kernel) ⟨Nat.le_of_ble_eq_true rfl, Nat.le_of_ble_eq_true rfl⟩) ⟨fun a U g mk q => mz_blP q, va_recv hK hPc (ci := 6) (q0 := 0) rfl rfl, fun U hU hW => ⟨rfl, hU, hPc, va_K.moved hW.alike hK, mz_nw hW hN⟩⟩ rfl rfl hl.1 rfl (lv_room (Nat.le_of_ble_eq_true rfl)) dX7_otherwise_54 ⟨Nat.le_of_ble_eq_true rfl, Nat.le_of_ble_eq_true rfl⟩) hS (fun q _ h => h.elim) (fun q h => h.elim) (fun r_54 u t H1 locs ht hvm hw_54 hB hz1 hk1 hS => ?_)
        have hE : H = H1 := hB.symm.trans ht
        subst hE
        refine lv_lstore (lv' := [(4, .long r_54), (0, .ref mx), (1, .int p1), (2, .int p2), (3, .int p3)]) hx hb dX7_otherwise_57 hl (by decide) rfl (fun ls hl => ?_)
        refine lv_aload_n hx hb dX7_otherwise_59 rfl (lv_at hl 1 rfl) ?_
        refine va_get (D := (dC, dI)) (ci := 7) (v := .ref wt) (C := RX7) (T := TX7) (N := 10) hx hb hts hiX7 hown hK hP 0 rfl rfl 3 (by decide) (hts (.fieldLink RX7 29 "MadeItSo" "weights" "LMadeItSo$Weights;") (by decide +kernel)) (fun _ h9 => h9) rfl dX7_otherwise_60 ?_
        refine lv_aload_n hx hb dX7_otherwise_63 rfl (lv_at hl 1 rfl) ?_
        refine va_get (D := (dC, dI)) (ci := 7) (v := .ref dr) (C := RX7) (T := TX7) (N := 10) hx hb hts hiX7 hown hK hP 0 rfl rfl 0 (by decide) (hts (.fieldLink RX7 12 "MadeItSo" "drawing" "LMadeItSo$Drawing;") (by decide +kernel)) (fun _ h9 => h9) rfl dX7_otherwise_64 ?_
        refine lv_aload_n hx hb dX7_otherwise_67 rfl (lv_at hl 1 rfl) ?_
        refine va_get (D := (dC, dI)) (ci := 7) (v := .ref bk) (C := RX7) (T := TX7) (N := 10) hx hb hts hiX7 hown hK hP 0 rfl rfl 2 (by decide) (hts (.fieldLink RX7 22 "MadeItSo" "books" "LMadeItSo$Books;") (by decide +kernel)) (fun _ h9 => h9) rfl dX7_otherwise_68 ?_
        refine lv_iload_n hx hb dX7_otherwise_71 rfl (lv_at hl 2 rfl) ?_
        refine lv_iconst (v := 0) hx hb dX7_otherwise_72 (by decide +kernel) ?_
        have hPc := hP.sub (ws' := []) [] rfl
        refine va_calli (va_runS (As := [.int p1, .int 0]) (rest := [.ref bk, .ref dr, .ref wt]) ⟨hx, hb, hml, hown, hts⟩ (mz_g_settingOf l dC dI cI cJ cZ p1 0 H ) (va_cwS 2 hts gX7_otherwise_X7_settingOf rfl rfl rfl (by decide +kernel) ⟨Nat.le_of_ble_eq_true rfl, Nat.le_of_ble_eq_true rfl⟩) ⟨fun a U g mk q => mz_blP q, fun U hU hW => ⟨rfl, hU, hPc, va_K.moved hW.alike hK, mz_nw hW hN⟩⟩ rfl rfl hl.1 rfl (lv_room (Nat.le_of_ble_eq_true rfl)) dX7_otherwise_73 ⟨Nat.le_of_ble_eq_true rfl, Nat.le_of_ble_eq_true rfl⟩) hS (fun q _ h => h.elim) (fun q h => h.elim) (fun r_73 u t H1 locs ht hvm hw_73 hB hz1 hk1 hS => ?_)
        have hE : H = H1 := hB.symm.trans ht
        subst hE
        have hPc := hP.sub (ws' := [(wt, .inr (6, [.ref wo, .int gev_39])), (wo, .inl (cJ, 256, .inr (.inl gw_39))), (dr, .inr (2, [.ref dp, .ref dc, .int (nI n)])), (dp, .inl (cI, 8, .inl fp)), (bk, .inr (1, [.ref bp])), (bp, .inl (cI, 1024, .inl fb))]) [1, 2, 3, 4, 5, 6] rfl
        have hDc := hD.sub (ws' := [(wt, .inr (6, [.ref wo, .int gev_39])), (wo, .inl (cJ, 256, .inr (.inl gw_39))), (dr, .inr (2, [.ref dp, .ref dc, .int (nI n)])), (dp, .inl (cI, 8, .inl fp)), (bk, .inr (1, [.ref bp])), (bp, .inl (cI, 1024, .inl fb))]) [1, 2, 3, 4, 5, 6] (by decide) rfl
        have hFc := va_free (wc := [(wt, .inr (6, [.ref wo, .int gev_39])), (wo, .inl (cJ, 256, .inr (.inl gw_39))), (dr, .inr (2, [.ref dp, .ref dc, .int (nI n)])), (dp, .inl (cI, 8, .inl fp)), (bk, .inr (1, [.ref bp])), (bp, .inl (cI, 1024, .inl fb))]) hD hS hA [1, 2, 3, 4, 5, 6] rfl
        refine va_callv (va_runV (As := [.ref dr, .ref bk, .int r_73]) (rest := []) ⟨hx, hb, hml, hown, hts⟩ (mz_w_weigh l dC dI cI cJ cZ wt wo gev_39 gw_39 dr dp dc n fp bk bp fb r_73 H.size (by first | assumption | omega)) (cwV 3 hts gX7_otherwise_X6_weigh rfl rfl rfl (by decide +kernel) ⟨Nat.le_of_ble_eq_true rfl, Nat.le_of_ble_eq_true rfl⟩) ⟨fun a U g mk q => mz_blI q, va_recv hK hPc (ci := 6) (q0 := 0) rfl rfl, fun U hU hW => ⟨rfl, by rw [hU], by rw [hU]; exact hPc, va_K.moved hW.alike hK, hDc.weaken (fun _ _ _ _ => trivial), mz_nw hW hN⟩⟩ rfl rfl hl.1 rfl (lv_room (Nat.le_of_ble_eq_true rfl)) dX7_otherwise_76 ⟨Nat.le_of_ble_eq_true rfl, Nat.le_of_ble_eq_true rfl⟩) hS (fun q _ h => hFc q h) hFc (fun u t H1 locs ht hvm hw_76 hB hz1 hk1 hS => ?_)
        obtain ⟨gev_76, gw_76, hP1, hD1⟩ := hB
        rw [ht] at hP1
        obtain ⟨hP, hD⟩ := va_join (wr := [(mx, .inr (7, [.ref dr, .ref th, .ref bk, .ref wt, .ref tt, .ref lh, .ref la, .int sh, .long ab, .long be]))]) (w1 := [(wt, .inr (6, [.ref wo, .int gev_76])), (wo, .inl (cJ, 256, .inr (.inl gw_76))), (dr, .inr (2, [.ref dp, .ref dc, .int (nI n)])), (dp, .inl (cI, 8, .inl fp)), (bk, .inr (1, [.ref bp])), (bp, .inl (cI, 1024, .inl fb))]) hP hD [1, 2, 3, 4, 5, 6] [0] rfl rfl (by decide) (by decide) hk1 hFc hP1 hD1
        generalize H1 = H at hP hS ⊢
        have hP : va_P (dC, dI) vwCl [(mx, .inr (7, [.ref dr, .ref th, .ref bk, .ref wt, .ref tt, .ref lh, .ref la, .int sh, .long ab, .long be])), (wt, .inr (6, [.ref wo, .int gev_76])), (wo, .inl (cJ, 256, .inr (.inl gw_76))), (dr, .inr (2, [.ref dp, .ref dc, .int (nI n)])), (dp, .inl (cI, 8, .inl fp)), (bk, .inr (1, [.ref bp])), (bp, .inl (cI, 1024, .inl fb))] H := hP
        have hD : va_D A [(mx, .inr (7, [.ref dr, .ref th, .ref bk, .ref wt, .ref tt, .ref lh, .ref la, .int sh, .long ab, .long be])), (wt, .inr (6, [.ref wo, .int gev_76])), (wo, .inl (cJ, 256, .inr (.inl gw_76))), (dr, .inr (2, [.ref dp, .ref dc, .int (nI n)])), (dp, .inl (cI, 8, .inl fp)), (bk, .inr (1, [.ref bp])), (bp, .inl (cI, 1024, .inl fb))] := hD
        refine lv_aload_n hx hb dX7_otherwise_79 rfl (lv_at hl 1 rfl) ?_
        refine va_get (D := (dC, dI)) (ci := 7) (v := .ref wt) (C := RX7) (T := TX7) (N := 10) hx hb hts hiX7 hown hK hP 0 rfl rfl 3 (by decide) (hts (.fieldLink RX7 29 "MadeItSo" "weights" "LMadeItSo$Weights;") (by decide +kernel)) (fun _ h9 => h9) rfl dX7_otherwise_80 ?_
        refine lv_iload_n hx hb dX7_otherwise_83 rfl (lv_at hl 3 rfl) ?_
        have hPc := hP.sub (ws' := []) [] rfl
        refine va_calli (va_runS (As := [.int p2]) (rest := [.ref wt]) ⟨hx, hb, hml, hown, hts⟩ (mz_g_bit l dC dI cI cJ cZ p2 H ) (va_cwS 1 hts gX7_otherwise_X7_bit rfl rfl rfl (by decide +kernel) ⟨Nat.le_of_ble_eq_true rfl, Nat.le_of_ble_eq_true rfl⟩) ⟨fun a U g mk q => mz_blP q, fun U hU hW => ⟨rfl, hU, hPc, va_K.moved hW.alike hK, mz_nw hW hN⟩⟩ rfl rfl hl.1 rfl (lv_room (Nat.le_of_ble_eq_true rfl)) dX7_otherwise_84 ⟨Nat.le_of_ble_eq_true rfl, Nat.le_of_ble_eq_true rfl⟩) hS (fun q _ h => h.elim) (fun q h => h.elim) (fun r_84 u t H1 locs ht hvm hw_84 hB hz1 hk1 hS => ?_)
        have hE : H = H1 := hB.symm.trans ht
        subst hE
        obtain rfl : r_84 = (1 <<< (p2 &&& 31)) := hw_84
        refine lv_iload_n hx hb dX7_otherwise_87 rfl (lv_at hl 3 rfl) ?_
        have hPc := hP.sub (ws' := []) [] rfl
        refine va_calli (va_runS (As := [.int p2]) (rest := [.int (1 <<< (p2 &&& 31)), .ref wt]) ⟨hx, hb, hml, hown, hts⟩ (mz_g_bit l dC dI cI cJ cZ p2 H ) (va_cwS 1 hts gX7_otherwise_X7_bit rfl rfl rfl (by decide +kernel) ⟨Nat.le_of_ble_eq_true rfl, Nat.le_of_ble_eq_true rfl⟩) ⟨fun a U g mk q => mz_blP q, fun U hU hW => ⟨rfl, hU, hPc, va_K.moved hW.alike hK, mz_nw hW hN⟩⟩ rfl rfl hl.1 rfl (lv_room (Nat.le_of_ble_eq_true rfl)) dX7_otherwise_88 ⟨Nat.le_of_ble_eq_true rfl, Nat.le_of_ble_eq_true rfl⟩) hS (fun q _ h => h.elim) (fun q h => h.elim) (fun r_88 u t H1 locs ht hvm hw_88 hB hz1 hk1 hS => ?_)
        have hE : H = H1 := hB.symm.trans ht
        subst hE
        obtain rfl : r_88 = (1 <<< (p2 &&& 31)) := hw_88
        have hPc := hP.sub (ws' := [(wt, .inr (6, [.ref wo, .int gev_76])), (wo, .inl (cJ, 256, .inr (.inl gw_76)))]) [1, 2] rfl
        refine va_calll (va_runV (As := [.int (1 <<< (p2 &&& 31)), .int (1 <<< (p2 &&& 31))]) (rest := []) ⟨hx, hb, hml, hown, hts⟩ (mz_w_having l dC dI cI cJ cZ wt wo gev_76 gw_76 (1 <<< (p2 &&& 31)) (1 <<< (p2 &&& 31)) H ) (cwV 2 hts gX7_otherwise_X6_having rfl rfl rfl (by decide +kernel) ⟨Nat.le_of_ble_eq_true rfl, Nat.le_of_ble_eq_true rfl⟩) ⟨fun a U g mk q => mz_blP q, va_recv hK hPc (ci := 6) (q0 := 0) rfl rfl, fun U hU hW => ⟨rfl, hU, hPc, va_K.moved hW.alike hK, mz_nw hW hN⟩⟩ rfl rfl hl.1 rfl (lv_room (Nat.le_of_ble_eq_true rfl)) dX7_otherwise_91 ⟨Nat.le_of_ble_eq_true rfl, Nat.le_of_ble_eq_true rfl⟩) hS (fun q _ h => h.elim) (fun q h => h.elim) (fun r_91 u t H1 locs ht hvm hw_91 hB hz1 hk1 hS => ?_)
        have hE : H = H1 := hB.symm.trans ht
        subst hE
        refine lv_lstore (lv' := [(6, .long r_91), (4, .long r_54), (0, .ref mx), (1, .int p1), (2, .int p2), (3, .int p3)]) hx hb dX7_otherwise_94 hl (by decide) rfl (fun ls hl => ?_)
        refine lv_aload_n hx hb dX7_otherwise_96 rfl (lv_at hl 2 rfl) ?_
        refine va_get (D := (dC, dI)) (ci := 7) (v := .ref wt) (C := RX7) (T := TX7) (N := 10) hx hb hts hiX7 hown hK hP 0 rfl rfl 3 (by decide) (hts (.fieldLink RX7 29 "MadeItSo" "weights" "LMadeItSo$Weights;") (by decide +kernel)) (fun _ h9 => h9) rfl dX7_otherwise_97 ?_
        refine lv_aload_n hx hb dX7_otherwise_100 rfl (lv_at hl 2 rfl) ?_
        refine va_get (D := (dC, dI)) (ci := 7) (v := .ref dr) (C := RX7) (T := TX7) (N := 10) hx hb hts hiX7 hown hK hP 0 rfl rfl 0 (by decide) (hts (.fieldLink RX7 12 "MadeItSo" "drawing" "LMadeItSo$Drawing;") (by decide +kernel)) (fun _ h9 => h9) rfl dX7_otherwise_101 ?_
        refine lv_aload_n hx hb dX7_otherwise_104 rfl (lv_at hl 2 rfl) ?_
        refine va_get (D := (dC, dI)) (ci := 7) (v := .ref bk) (C := RX7) (T := TX7) (N := 10) hx hb hts hiX7 hown hK hP 0 rfl rfl 2 (by decide) (hts (.fieldLink RX7 22 "MadeItSo" "books" "LMadeItSo$Books;") (by decide +kernel)) (fun _ h9 => h9) rfl dX7_otherwise_105 ?_
        refine lv_iconst (v := 0) hx hb dX7_otherwise_108 (by decide +kernel) ?_
        have hPc := hP.sub (ws' := [(wt, .inr (6, [.ref wo, .int gev_76])), (wo, .inl (cJ, 256, .inr (.inl gw_76))), (dr, .inr (2, [.ref dp, .ref dc, .int (nI n)])), (dp, .inl (cI, 8, .inl fp)), (bk, .inr (1, [.ref bp])), (bp, .inl (cI, 1024, .inl fb))]) [1, 2, 3, 4, 5, 6] rfl
        have hDc := hD.sub (ws' := [(wt, .inr (6, [.ref wo, .int gev_76])), (wo, .inl (cJ, 256, .inr (.inl gw_76))), (dr, .inr (2, [.ref dp, .ref dc, .int (nI n)])), (dp, .inl (cI, 8, .inl fp)), (bk, .inr (1, [.ref bp])), (bp, .inl (cI, 1024, .inl fb))]) [1, 2, 3, 4, 5, 6] (by decide) rfl
        have hFc := va_free (wc := [(wt, .inr (6, [.ref wo, .int gev_76])), (wo, .inl (cJ, 256, .inr (.inl gw_76))), (dr, .inr (2, [.ref dp, .ref dc, .int (nI n)])), (dp, .inl (cI, 8, .inl fp)), (bk, .inr (1, [.ref bp])), (bp, .inl (cI, 1024, .inl fb))]) hD hS hA [1, 2, 3, 4, 5, 6] rfl
        refine va_callv (va_runV (As := [.ref dr, .ref bk, .int 0]) (rest := []) ⟨hx, hb, hml, hown, hts⟩ (mz_w_weigh l dC dI cI cJ cZ wt wo gev_76 gw_76 dr dp dc n fp bk bp fb 0 H.size (by first | assumption | omega)) (cwV 3 hts gX7_otherwise_X6_weigh rfl rfl rfl (by decide +kernel) ⟨Nat.le_of_ble_eq_true rfl, Nat.le_of_ble_eq_true rfl⟩) ⟨fun a U g mk q => mz_blI q, va_recv hK hPc (ci := 6) (q0 := 0) rfl rfl, fun U hU hW => ⟨rfl, by rw [hU], by rw [hU]; exact hPc, va_K.moved hW.alike hK, hDc.weaken (fun _ _ _ _ => trivial), mz_nw hW hN⟩⟩ rfl rfl hl.1 rfl (lv_room (Nat.le_of_ble_eq_true rfl)) dX7_otherwise_109 ⟨Nat.le_of_ble_eq_true rfl, Nat.le_of_ble_eq_true rfl⟩) hS (fun q _ h => hFc q h) hFc (fun u t H1 locs ht hvm hw_109 hB hz1 hk1 hS => ?_)
        obtain ⟨gev_109, gw_109, hP1, hD1⟩ := hB
        rw [ht] at hP1
        obtain ⟨hP, hD⟩ := va_join (wr := [(mx, .inr (7, [.ref dr, .ref th, .ref bk, .ref wt, .ref tt, .ref lh, .ref la, .int sh, .long ab, .long be]))]) (w1 := [(wt, .inr (6, [.ref wo, .int gev_109])), (wo, .inl (cJ, 256, .inr (.inl gw_109))), (dr, .inr (2, [.ref dp, .ref dc, .int (nI n)])), (dp, .inl (cI, 8, .inl fp)), (bk, .inr (1, [.ref bp])), (bp, .inl (cI, 1024, .inl fb))]) hP hD [1, 2, 3, 4, 5, 6] [0] rfl rfl (by decide) (by decide) hk1 hFc hP1 hD1
        generalize H1 = H at hP hS ⊢
        have hP : va_P (dC, dI) vwCl [(mx, .inr (7, [.ref dr, .ref th, .ref bk, .ref wt, .ref tt, .ref lh, .ref la, .int sh, .long ab, .long be])), (wt, .inr (6, [.ref wo, .int gev_109])), (wo, .inl (cJ, 256, .inr (.inl gw_109))), (dr, .inr (2, [.ref dp, .ref dc, .int (nI n)])), (dp, .inl (cI, 8, .inl fp)), (bk, .inr (1, [.ref bp])), (bp, .inl (cI, 1024, .inl fb))] H := hP
        have hD : va_D A [(mx, .inr (7, [.ref dr, .ref th, .ref bk, .ref wt, .ref tt, .ref lh, .ref la, .int sh, .long ab, .long be])), (wt, .inr (6, [.ref wo, .int gev_109])), (wo, .inl (cJ, 256, .inr (.inl gw_109))), (dr, .inr (2, [.ref dp, .ref dc, .int (nI n)])), (dp, .inl (cI, 8, .inl fp)), (bk, .inr (1, [.ref bp])), (bp, .inl (cI, 1024, .inl fb))] := hD
        refine lv_iload_n hx hb dX7_otherwise_112 rfl (lv_at hl 5 rfl) ?_
        by_cases hs_0 : p3 = 0
        · refine mz_ti (y := 0) hs_0 ?_
          refine lv_tableIn (tgt := 144) (off := 31) hx hb dX7_otherwise_113 (by decide +kernel) (by decide +kernel) (by decide +kernel) (by decide) ?_
          refine lv_aload_n hx hb dX7_otherwise_144 rfl (lv_at hl 2 rfl) ?_
          refine lv_iload_n hx hb dX7_otherwise_145 rfl (lv_at hl 4 rfl) ?_
          refine lv_lload hx hb dX7_otherwise_146 (lv_at hl 1 rfl) ?_
          refine lv_lload hx hb dX7_otherwise_148 (lv_at hl 0 rfl) ?_
          have hPc := hP.sub (ws' := [(mx, .inr (7, [.ref dr, .ref th, .ref bk, .ref wt, .ref tt, .ref lh, .ref la, .int sh, .long ab, .long be])), (wt, .inr (6, [.ref wo, .int gev_109])), (wo, .inl (cJ, 256, .inr (.inl gw_109)))]) [0, 1, 2] rfl
          refine va_calll (va_runV (As := [.int p2, .long r_54, .long r_91]) (rest := []) ⟨hx, hb, hml, hown, hts⟩ (mz_x_leastOfBoth l dC dI cI cJ cZ mx dr th bk wt tt lh la sh ab be wo gev_109 gw_109 p2 r_54 r_91 H ) (cwV 3 hts gX7_otherwise_X7_leastOfBoth rfl rfl rfl (by decide +kernel) ⟨Nat.le_of_ble_eq_true rfl, Nat.le_of_ble_eq_true rfl⟩) ⟨fun a U g mk q => mz_blP q, va_recv hK hPc (ci := 7) (q0 := 0) rfl rfl, fun U hU hW => ⟨rfl, hU, hPc, va_K.moved hW.alike hK, mz_nw hW hN⟩⟩ rfl rfl hl.1 rfl (lv_room (Nat.le_of_ble_eq_true rfl)) dX7_otherwise_150 ⟨Nat.le_of_ble_eq_true rfl, Nat.le_of_ble_eq_true rfl⟩) hS (fun q _ h => h.elim) (fun q h => h.elim) (fun r_150 u t H1 locs ht hvm hw_150 hB hz1 hk1 hS => ?_)
          have hE : H = H1 := hB.symm.trans ht
          subst hE
          have hP9 := hP.sub (ws' := [(mx, .inr (7, [.ref dr, .ref th, .ref bk, .ref wt, .ref tt, .ref lh, .ref la, .int sh, .long ab, .long be])), (dr, .inr (2, [.ref dp, .ref dc, .int (nI n)])), (dp, .inl (cI, 8, .inl fp)), (bk, .inr (1, [.ref bp])), (bp, .inl (cI, 1024, .inl fb)), (wt, .inr (6, [.ref wo, .int gev_109])), (wo, .inl (cJ, 256, .inr (.inl gw_109)))]) [0, 3, 4, 5, 6, 1, 2] rfl
          have hD9 := hD.sub (ws' := [(mx, .inr (7, [.ref dr, .ref th, .ref bk, .ref wt, .ref tt, .ref lh, .ref la, .int sh, .long ab, .long be])), (dr, .inr (2, [.ref dp, .ref dc, .int (nI n)])), (dp, .inl (cI, 8, .inl fp)), (bk, .inr (1, [.ref bp])), (bp, .inl (cI, 1024, .inl fb)), (wt, .inr (6, [.ref wo, .int gev_109])), (wo, .inl (cJ, 256, .inr (.inl gw_109)))]) [0, 3, 4, 5, 6, 1, 2] (by decide) rfl
          refine W.widen (k := 0) (n := 0) (Nat.le_of_ble_eq_true rfl) (Nat.le_of_ble_eq_true rfl) ?_
          exact W.lret (v := r_150) hx hb hr (fun t ht hW => ⟨⟨r_150, (), rfl, trivial, gev_109, gw_109, by rw [ht]; exact hP9, hD9⟩, hS.F ht⟩) hS.2.2 dX7_otherwise_153
        by_cases hs_1 : p3 = 1
        · refine mz_ti (y := 1) hs_1 ?_
          refine lv_tableIn (tgt := 154) (off := 41) hx hb dX7_otherwise_113 (by decide +kernel) (by decide +kernel) (by decide +kernel) (by decide) ?_
          refine lv_aload_n hx hb dX7_otherwise_154 rfl (lv_at hl 2 rfl) ?_
          refine lv_iload_n hx hb dX7_otherwise_155 rfl (lv_at hl 3 rfl) ?_
          refine lv_iload_n hx hb dX7_otherwise_156 rfl (lv_at hl 4 rfl) ?_
          refine lv_lload hx hb dX7_otherwise_157 (lv_at hl 1 rfl) ?_
          refine lv_lload hx hb dX7_otherwise_159 (lv_at hl 0 rfl) ?_
          have hPc := hP.sub (ws' := [(mx, .inr (7, [.ref dr, .ref th, .ref bk, .ref wt, .ref tt, .ref lh, .ref la, .int sh, .long ab, .long be])), (wt, .inr (6, [.ref wo, .int gev_109])), (wo, .inl (cJ, 256, .inr (.inl gw_109)))]) [0, 1, 2] rfl
          refine va_calll (va_runV (As := [.int p1, .int p2, .long r_54, .long r_91]) (rest := []) ⟨hx, hb, hml, hown, hts⟩ (mz_x_mostOfBoth l dC dI cI cJ cZ mx dr th bk wt tt lh la sh ab be wo gev_109 gw_109 p1 p2 r_54 r_91 H ) (cwV 4 hts gX7_otherwise_X7_mostOfBoth rfl rfl rfl (by decide +kernel) ⟨Nat.le_of_ble_eq_true rfl, Nat.le_of_ble_eq_true rfl⟩) ⟨fun a U g mk q => mz_blP q, va_recv hK hPc (ci := 7) (q0 := 0) rfl rfl, fun U hU hW => ⟨rfl, hU, hPc, va_K.moved hW.alike hK, mz_nw hW hN⟩⟩ rfl rfl hl.1 rfl (lv_room (Nat.le_of_ble_eq_true rfl)) dX7_otherwise_161 ⟨Nat.le_of_ble_eq_true rfl, Nat.le_of_ble_eq_true rfl⟩) hS (fun q _ h => h.elim) (fun q h => h.elim) (fun r_161 u t H1 locs ht hvm hw_161 hB hz1 hk1 hS => ?_)
          have hE : H = H1 := hB.symm.trans ht
          subst hE
          have hP9 := hP.sub (ws' := [(mx, .inr (7, [.ref dr, .ref th, .ref bk, .ref wt, .ref tt, .ref lh, .ref la, .int sh, .long ab, .long be])), (dr, .inr (2, [.ref dp, .ref dc, .int (nI n)])), (dp, .inl (cI, 8, .inl fp)), (bk, .inr (1, [.ref bp])), (bp, .inl (cI, 1024, .inl fb)), (wt, .inr (6, [.ref wo, .int gev_109])), (wo, .inl (cJ, 256, .inr (.inl gw_109)))]) [0, 3, 4, 5, 6, 1, 2] rfl
          have hD9 := hD.sub (ws' := [(mx, .inr (7, [.ref dr, .ref th, .ref bk, .ref wt, .ref tt, .ref lh, .ref la, .int sh, .long ab, .long be])), (dr, .inr (2, [.ref dp, .ref dc, .int (nI n)])), (dp, .inl (cI, 8, .inl fp)), (bk, .inr (1, [.ref bp])), (bp, .inl (cI, 1024, .inl fb)), (wt, .inr (6, [.ref wo, .int gev_109])), (wo, .inl (cJ, 256, .inr (.inl gw_109)))]) [0, 3, 4, 5, 6, 1, 2] (by decide) rfl
          refine W.widen (k := 0) (n := 0) (Nat.le_of_ble_eq_true rfl) (Nat.le_of_ble_eq_true rfl) ?_
          exact W.lret (v := r_161) hx hb hr (fun t ht hW => ⟨⟨r_161, (), rfl, trivial, gev_109, gw_109, by rw [ht]; exact hP9, hD9⟩, hS.F ht⟩) hS.2.2 dX7_otherwise_164
        by_cases hs_2 : p3 = 2
        · refine mz_ti (y := 2) hs_2 ?_
          refine lv_tableIn (tgt := 165) (off := 52) hx hb dX7_otherwise_113 (by decide +kernel) (by decide +kernel) (by decide +kernel) (by decide) ?_
          refine lv_lconst (v := 0) hx hb dX7_otherwise_165 (by decide +kernel) ?_
          refine lv_aload_n hx hb dX7_otherwise_166 rfl (lv_at hl 2 rfl) ?_
          refine va_get (D := (dC, dI)) (ci := 7) (v := .ref wt) (C := RX7) (T := TX7) (N := 10) hx hb hts hiX7 hown hK hP 0 rfl rfl 3 (by decide) (hts (.fieldLink RX7 29 "MadeItSo" "weights" "LMadeItSo$Weights;") (by decide +kernel)) (fun _ h9 => h9) rfl dX7_otherwise_167 ?_
          refine lv_iload_n hx hb dX7_otherwise_170 rfl (lv_at hl 4 rfl) ?_
          have hPc := hP.sub (ws' := []) [] rfl
          refine va_calli (va_runS (As := [.int p2]) (rest := [.ref wt, .long 0]) ⟨hx, hb, hml, hown, hts⟩ (mz_g_bit l dC dI cI cJ cZ p2 H ) (va_cwS 1 hts gX7_otherwise_X7_bit rfl rfl rfl (by decide +kernel) ⟨Nat.le_of_ble_eq_true rfl, Nat.le_of_ble_eq_true rfl⟩) ⟨fun a U g mk q => mz_blP q, fun U hU hW => ⟨rfl, hU, hPc, va_K.moved hW.alike hK, mz_nw hW hN⟩⟩ rfl rfl hl.1 rfl (lv_room (Nat.le_of_ble_eq_true rfl)) dX7_otherwise_171 ⟨Nat.le_of_ble_eq_true rfl, Nat.le_of_ble_eq_true rfl⟩) hS (fun q _ h => h.elim) (fun q h => h.elim) (fun r_171 u t H1 locs ht hvm hw_171 hB hz1 hk1 hS => ?_)
          have hE : H = H1 := hB.symm.trans ht
          subst hE
          obtain rfl : r_171 = (1 <<< (p2 &&& 31)) := hw_171
          refine lv_iload_n hx hb dX7_otherwise_174 rfl (lv_at hl 4 rfl) ?_
          have hPc := hP.sub (ws' := []) [] rfl
          refine va_calli (va_runS (As := [.int p2]) (rest := [.int (1 <<< (p2 &&& 31)), .ref wt, .long 0]) ⟨hx, hb, hml, hown, hts⟩ (mz_g_bit l dC dI cI cJ cZ p2 H ) (va_cwS 1 hts gX7_otherwise_X7_bit rfl rfl rfl (by decide +kernel) ⟨Nat.le_of_ble_eq_true rfl, Nat.le_of_ble_eq_true rfl⟩) ⟨fun a U g mk q => mz_blP q, fun U hU hW => ⟨rfl, hU, hPc, va_K.moved hW.alike hK, mz_nw hW hN⟩⟩ rfl rfl hl.1 rfl (lv_room (Nat.le_of_ble_eq_true rfl)) dX7_otherwise_175 ⟨Nat.le_of_ble_eq_true rfl, Nat.le_of_ble_eq_true rfl⟩) hS (fun q _ h => h.elim) (fun q h => h.elim) (fun r_175 u t H1 locs ht hvm hw_175 hB hz1 hk1 hS => ?_)
          have hE : H = H1 := hB.symm.trans ht
          subst hE
          obtain rfl : r_175 = (1 <<< (p2 &&& 31)) := hw_175
          have hPc := hP.sub (ws' := [(wt, .inr (6, [.ref wo, .int gev_109])), (wo, .inl (cJ, 256, .inr (.inl gw_109)))]) [1, 2] rfl
          refine va_calll (va_runV (As := [.int (1 <<< (p2 &&& 31)), .int (1 <<< (p2 &&& 31))]) (rest := [.long 0]) ⟨hx, hb, hml, hown, hts⟩ (mz_w_having l dC dI cI cJ cZ wt wo gev_109 gw_109 (1 <<< (p2 &&& 31)) (1 <<< (p2 &&& 31)) H ) (cwV 2 hts gX7_otherwise_X6_having rfl rfl rfl (by decide +kernel) ⟨Nat.le_of_ble_eq_true rfl, Nat.le_of_ble_eq_true rfl⟩) ⟨fun a U g mk q => mz_blP q, va_recv hK hPc (ci := 6) (q0 := 0) rfl rfl, fun U hU hW => ⟨rfl, hU, hPc, va_K.moved hW.alike hK, mz_nw hW hN⟩⟩ rfl rfl hl.1 rfl (lv_room (Nat.le_of_ble_eq_true rfl)) dX7_otherwise_178 ⟨Nat.le_of_ble_eq_true rfl, Nat.le_of_ble_eq_true rfl⟩) hS (fun q _ h => h.elim) (fun q h => h.elim) (fun r_178 u t H1 locs ht hvm hw_178 hB hz1 hk1 hS => ?_)
          have hE : H = H1 := hB.symm.trans ht
          subst hE
          refine lv_lload hx hb dX7_otherwise_181 (lv_at hl 0 rfl) ?_
          refine lv_lsub hx hb dX7_otherwise_183 ?_
          refine lv_topl (fun v_183 ev_183 => ?_)
          refine va_mmax_long hx hb (by rw [hml]; exact hl.1.symm) hown (hts (.methodLink RX7 199 Lib.MathLoose.max_long.x) (by decide +kernel)) (hts (.static Lib.MathLoose.max_long.x) (by decide +kernel)) (hts (.initialized "java/lang/Math") (by decide +kernel)) (hts (.code Lib.MathLoose.max_long.x Lib.MathLoose.max_long.code 4 (some .long)) (by decide +kernel)) (Nat.le_of_ble_eq_true rfl) (Nat.le_of_ble_eq_true rfl) (Nat.le_of_ble_eq_true rfl) (Nat.le_of_ble_eq_true rfl) dX7_otherwise_184 ?_
          refine lv_topl (fun v_184 ev_184 => ?_)
          have hP9 := hP.sub (ws' := [(mx, .inr (7, [.ref dr, .ref th, .ref bk, .ref wt, .ref tt, .ref lh, .ref la, .int sh, .long ab, .long be])), (dr, .inr (2, [.ref dp, .ref dc, .int (nI n)])), (dp, .inl (cI, 8, .inl fp)), (bk, .inr (1, [.ref bp])), (bp, .inl (cI, 1024, .inl fb)), (wt, .inr (6, [.ref wo, .int gev_109])), (wo, .inl (cJ, 256, .inr (.inl gw_109)))]) [0, 3, 4, 5, 6, 1, 2] rfl
          have hD9 := hD.sub (ws' := [(mx, .inr (7, [.ref dr, .ref th, .ref bk, .ref wt, .ref tt, .ref lh, .ref la, .int sh, .long ab, .long be])), (dr, .inr (2, [.ref dp, .ref dc, .int (nI n)])), (dp, .inl (cI, 8, .inl fp)), (bk, .inr (1, [.ref bp])), (bp, .inl (cI, 1024, .inl fb)), (wt, .inr (6, [.ref wo, .int gev_109])), (wo, .inl (cJ, 256, .inr (.inl gw_109)))]) [0, 3, 4, 5, 6, 1, 2] (by decide) rfl
          refine W.widen (k := 0) (n := 0) (Nat.le_of_ble_eq_true rfl) (Nat.le_of_ble_eq_true rfl) ?_
          exact W.lret (v := v_184) hx hb hr (fun t ht hW => ⟨⟨v_184, (), rfl, trivial, gev_109, gw_109, by rw [ht]; exact hP9, hD9⟩, hS.F ht⟩) hS.2.2 dX7_otherwise_187
        by_cases hs_3 : p3 = 3
        · refine mz_ti (y := 3) hs_3 ?_
          refine lv_tableIn (tgt := 188) (off := 75) hx hb dX7_otherwise_113 (by decide +kernel) (by decide +kernel) (by decide +kernel) (by decide) ?_
          refine lv_aload_n hx hb dX7_otherwise_188 rfl (lv_at hl 2 rfl) ?_
          refine lv_iload_n hx hb dX7_otherwise_189 rfl (lv_at hl 3 rfl) ?_
          refine lv_iload_n hx hb dX7_otherwise_190 rfl (lv_at hl 4 rfl) ?_
          refine lv_lload hx hb dX7_otherwise_191 (lv_at hl 0 rfl) ?_
          have hPc := hP.sub (ws' := [(mx, .inr (7, [.ref dr, .ref th, .ref bk, .ref wt, .ref tt, .ref lh, .ref la, .int sh, .long ab, .long be])), (wt, .inr (6, [.ref wo, .int gev_109])), (wo, .inl (cJ, 256, .inr (.inl gw_109)))]) [0, 1, 2] rfl
          refine va_calll (va_runV (As := [.int p1, .int p2, .long r_91]) (rest := []) ⟨hx, hb, hml, hown, hts⟩ (mz_x_mostOfNeed l dC dI cI cJ cZ mx dr th bk wt tt lh la sh ab be wo gev_109 gw_109 p1 p2 r_91 H ) (cwV 3 hts gX7_otherwise_X7_mostOfNeed rfl rfl rfl (by decide +kernel) ⟨Nat.le_of_ble_eq_true rfl, Nat.le_of_ble_eq_true rfl⟩) ⟨fun a U g mk q => mz_blP q, va_recv hK hPc (ci := 7) (q0 := 0) rfl rfl, fun U hU hW => ⟨rfl, hU, hPc, va_K.moved hW.alike hK, mz_nw hW hN⟩⟩ rfl rfl hl.1 rfl (lv_room (Nat.le_of_ble_eq_true rfl)) dX7_otherwise_193 ⟨Nat.le_of_ble_eq_true rfl, Nat.le_of_ble_eq_true rfl⟩) hS (fun q _ h => h.elim) (fun q h => h.elim) (fun r_193 u t H1 locs ht hvm hw_193 hB hz1 hk1 hS => ?_)
          have hE : H = H1 := hB.symm.trans ht
          subst hE
          have hP9 := hP.sub (ws' := [(mx, .inr (7, [.ref dr, .ref th, .ref bk, .ref wt, .ref tt, .ref lh, .ref la, .int sh, .long ab, .long be])), (dr, .inr (2, [.ref dp, .ref dc, .int (nI n)])), (dp, .inl (cI, 8, .inl fp)), (bk, .inr (1, [.ref bp])), (bp, .inl (cI, 1024, .inl fb)), (wt, .inr (6, [.ref wo, .int gev_109])), (wo, .inl (cJ, 256, .inr (.inl gw_109)))]) [0, 3, 4, 5, 6, 1, 2] rfl
          have hD9 := hD.sub (ws' := [(mx, .inr (7, [.ref dr, .ref th, .ref bk, .ref wt, .ref tt, .ref lh, .ref la, .int sh, .long ab, .long be])), (dr, .inr (2, [.ref dp, .ref dc, .int (nI n)])), (dp, .inl (cI, 8, .inl fp)), (bk, .inr (1, [.ref bp])), (bp, .inl (cI, 1024, .inl fb)), (wt, .inr (6, [.ref wo, .int gev_109])), (wo, .inl (cJ, 256, .inr (.inl gw_109)))]) [0, 3, 4, 5, 6, 1, 2] (by decide) rfl
          refine W.widen (k := 0) (n := 0) (Nat.le_of_ble_eq_true rfl) (Nat.le_of_ble_eq_true rfl) ?_
          exact W.lret (v := r_193) hx hb hr (fun t ht hW => ⟨⟨r_193, (), rfl, trivial, gev_109, gw_109, by rw [ht]; exact hP9, hD9⟩, hS.F ht⟩) hS.2.2 dX7_otherwise_196
        refine lv_tableOut (tgt := 197) hx hb dX7_otherwise_113 (mz_sw3 hs_0 hs_1 hs_2 hs_3) (by decide) ?_
        refine lv_aload_n hx hb dX7_otherwise_197 rfl (lv_at hl 2 rfl) ?_
        refine va_get (D := (dC, dI)) (ci := 7) (v := .ref wt) (C := RX7) (T := TX7) (N := 10) hx hb hts hiX7 hown hK hP 0 rfl rfl 3 (by decide) (hts (.fieldLink RX7 29 "MadeItSo" "weights" "LMadeItSo$Weights;") (by decide +kernel)) (fun _ h9 => h9) rfl dX7_otherwise_198 ?_
        refine lv_iload_n hx hb dX7_otherwise_201 rfl (lv_at hl 3 rfl) ?_
        have hPc := hP.sub (ws' := []) [] rfl
        refine va_calli (va_runS (As := [.int p1]) (rest := [.ref wt]) ⟨hx, hb, hml, hown, hts⟩ (mz_g_bit l dC dI cI cJ cZ p1 H ) (va_cwS 1 hts gX7_otherwise_X7_bit rfl rfl rfl (by decide +kernel) ⟨Nat.le_of_ble_eq_true rfl, Nat.le_of_ble_eq_true rfl⟩) ⟨fun a U g mk q => mz_blP q, fun U hU hW => ⟨rfl, hU, hPc, va_K.moved hW.alike hK, mz_nw hW hN⟩⟩ rfl rfl hl.1 rfl (lv_room (Nat.le_of_ble_eq_true rfl)) dX7_otherwise_202 ⟨Nat.le_of_ble_eq_true rfl, Nat.le_of_ble_eq_true rfl⟩) hS (fun q _ h => h.elim) (fun q h => h.elim) (fun r_202 u t H1 locs ht hvm hw_202 hB hz1 hk1 hS => ?_)
        have hE : H = H1 := hB.symm.trans ht
        subst hE
        obtain rfl : r_202 = (1 <<< (p1 &&& 31)) := hw_202
        refine lv_iload_n hx hb dX7_otherwise_205 rfl (lv_at hl 4 rfl) ?_
        have hPc := hP.sub (ws' := []) [] rfl
        refine va_calli (va_runS (As := [.int p2]) (rest := [.int (1 <<< (p1 &&& 31)), .ref wt]) ⟨hx, hb, hml, hown, hts⟩ (mz_g_bit l dC dI cI cJ cZ p2 H ) (va_cwS 1 hts gX7_otherwise_X7_bit rfl rfl rfl (by decide +kernel) ⟨Nat.le_of_ble_eq_true rfl, Nat.le_of_ble_eq_true rfl⟩) ⟨fun a U g mk q => mz_blP q, fun U hU hW => ⟨rfl, hU, hPc, va_K.moved hW.alike hK, mz_nw hW hN⟩⟩ rfl rfl hl.1 rfl (lv_room (Nat.le_of_ble_eq_true rfl)) dX7_otherwise_206 ⟨Nat.le_of_ble_eq_true rfl, Nat.le_of_ble_eq_true rfl⟩) hS (fun q _ h => h.elim) (fun q h => h.elim) (fun r_206 u t H1 locs ht hvm hw_206 hB hz1 hk1 hS => ?_)
        have hE : H = H1 := hB.symm.trans ht
        subst hE
        obtain rfl : r_206 = (1 <<< (p2 &&& 31)) := hw_206
        refine lv_ior hx hb dX7_otherwise_209 ?_
        refine lv_topi (fun v_209 ev_209 => ?_)
        refine lv_iload_n hx hb dX7_otherwise_210 rfl (lv_at hl 3 rfl) ?_
        have hPc := hP.sub (ws' := []) [] rfl
        refine va_calli (va_runS (As := [.int p1]) (rest := [.int v_209, .ref wt]) ⟨hx, hb, hml, hown, hts⟩ (mz_g_bit l dC dI cI cJ cZ p1 H ) (va_cwS 1 hts gX7_otherwise_X7_bit rfl rfl rfl (by decide +kernel) ⟨Nat.le_of_ble_eq_true rfl, Nat.le_of_ble_eq_true rfl⟩) ⟨fun a U g mk q => mz_blP q, fun U hU hW => ⟨rfl, hU, hPc, va_K.moved hW.alike hK, mz_nw hW hN⟩⟩ rfl rfl hl.1 rfl (lv_room (Nat.le_of_ble_eq_true rfl)) dX7_otherwise_211 ⟨Nat.le_of_ble_eq_true rfl, Nat.le_of_ble_eq_true rfl⟩) hS (fun q _ h => h.elim) (fun q h => h.elim) (fun r_211 u t H1 locs ht hvm hw_211 hB hz1 hk1 hS => ?_)
        have hE : H = H1 := hB.symm.trans ht
        subst hE
        obtain rfl : r_211 = (1 <<< (p1 &&& 31)) := hw_211
        refine lv_iload_n hx hb dX7_otherwise_214 rfl (lv_at hl 4 rfl) ?_
        have hPc := hP.sub (ws' := []) [] rfl
        refine va_calli (va_runS (As := [.int p2]) (rest := [.int (1 <<< (p1 &&& 31)), .int v_209, .ref wt]) ⟨hx, hb, hml, hown, hts⟩ (mz_g_bit l dC dI cI cJ cZ p2 H ) (va_cwS 1 hts gX7_otherwise_X7_bit rfl rfl rfl (by decide +kernel) ⟨Nat.le_of_ble_eq_true rfl, Nat.le_of_ble_eq_true rfl⟩) ⟨fun a U g mk q => mz_blP q, fun U hU hW => ⟨rfl, hU, hPc, va_K.moved hW.alike hK, mz_nw hW hN⟩⟩ rfl rfl hl.1 rfl (lv_room (Nat.le_of_ble_eq_true rfl)) dX7_otherwise_215 ⟨Nat.le_of_ble_eq_true rfl, Nat.le_of_ble_eq_true rfl⟩) hS (fun q _ h => h.elim) (fun q h => h.elim) (fun r_215 u t H1 locs ht hvm hw_215 hB hz1 hk1 hS => ?_)
        have hE : H = H1 := hB.symm.trans ht
        subst hE
        obtain rfl : r_215 = (1 <<< (p2 &&& 31)) := hw_215
        refine lv_ior hx hb dX7_otherwise_218 ?_
        refine lv_topi (fun v_218 ev_218 => ?_)
        have hPc := hP.sub (ws' := [(wt, .inr (6, [.ref wo, .int gev_109])), (wo, .inl (cJ, 256, .inr (.inl gw_109)))]) [1, 2] rfl
        refine va_calll (va_runV (As := [.int v_209, .int v_218]) (rest := []) ⟨hx, hb, hml, hown, hts⟩ (mz_w_having l dC dI cI cJ cZ wt wo gev_109 gw_109 v_209 v_218 H ) (cwV 2 hts gX7_otherwise_X6_having rfl rfl rfl (by decide +kernel) ⟨Nat.le_of_ble_eq_true rfl, Nat.le_of_ble_eq_true rfl⟩) ⟨fun a U g mk q => mz_blP q, va_recv hK hPc (ci := 6) (q0 := 0) rfl rfl, fun U hU hW => ⟨rfl, hU, hPc, va_K.moved hW.alike hK, mz_nw hW hN⟩⟩ rfl rfl hl.1 rfl (lv_room (Nat.le_of_ble_eq_true rfl)) dX7_otherwise_219 ⟨Nat.le_of_ble_eq_true rfl, Nat.le_of_ble_eq_true rfl⟩) hS (fun q _ h => h.elim) (fun q h => h.elim) (fun r_219 u t H1 locs ht hvm hw_219 hB hz1 hk1 hS => ?_)
        have hE : H = H1 := hB.symm.trans ht
        subst hE
        have hP9 := hP.sub (ws' := [(mx, .inr (7, [.ref dr, .ref th, .ref bk, .ref wt, .ref tt, .ref lh, .ref la, .int sh, .long ab, .long be])), (dr, .inr (2, [.ref dp, .ref dc, .int (nI n)])), (dp, .inl (cI, 8, .inl fp)), (bk, .inr (1, [.ref bp])), (bp, .inl (cI, 1024, .inl fb)), (wt, .inr (6, [.ref wo, .int gev_109])), (wo, .inl (cJ, 256, .inr (.inl gw_109)))]) [0, 3, 4, 5, 6, 1, 2] rfl
        have hD9 := hD.sub (ws' := [(mx, .inr (7, [.ref dr, .ref th, .ref bk, .ref wt, .ref tt, .ref lh, .ref la, .int sh, .long ab, .long be])), (dr, .inr (2, [.ref dp, .ref dc, .int (nI n)])), (dp, .inl (cI, 8, .inl fp)), (bk, .inr (1, [.ref bp])), (bp, .inl (cI, 1024, .inl fb)), (wt, .inr (6, [.ref wo, .int gev_109])), (wo, .inl (cJ, 256, .inr (.inl gw_109)))]) [0, 3, 4, 5, 6, 1, 2] (by decide) rfl
        refine W.widen (k := 0) (n := 0) (Nat.le_of_ble_eq_true rfl) (Nat.le_of_ble_eq_true rfl) ?_
        exact W.lret (v := r_219) hx hb hr (fun t ht hW => ⟨⟨r_219, (), rfl, trivial, gev_109, gw_109, by rw [ht]; exact hP9, hD9⟩, hS.F ht⟩) hS.2.2 dX7_otherwise_222
      · skip
        refine lv_ldc2 hx hb hown (hts (.constantLong RX7 121 (-1)) (by decide +kernel)) dX7_otherwise_18 ?_
        have hP9 := hP.sub (ws' := [(mx, .inr (7, [.ref dr, .ref th, .ref bk, .ref wt, .ref tt, .ref lh, .ref la, .int sh, .long ab, .long be])), (dr, .inr (2, [.ref dp, .ref dc, .int (nI n)])), (dp, .inl (cI, 8, .inl fp)), (bk, .inr (1, [.ref bp])), (bp, .inl (cI, 1024, .inl fb)), (wt, .inr (6, [.ref wo, .int ev])), (wo, .inl (cJ, 256, .inr (.inl fw)))]) [0, 1, 2, 3, 4, 5, 6] rfl
        have hD9 := hD.sub (ws' := [(mx, .inr (7, [.ref dr, .ref th, .ref bk, .ref wt, .ref tt, .ref lh, .ref la, .int sh, .long ab, .long be])), (dr, .inr (2, [.ref dp, .ref dc, .int (nI n)])), (dp, .inl (cI, 8, .inl fp)), (bk, .inr (1, [.ref bp])), (bp, .inl (cI, 1024, .inl fb)), (wt, .inr (6, [.ref wo, .int ev])), (wo, .inl (cJ, 256, .inr (.inl fw)))]) [0, 1, 2, 3, 4, 5, 6] (by decide) rfl
        refine W.widen (k := 0) (n := 0) (Nat.le_of_ble_eq_true rfl) (Nat.le_of_ble_eq_true rfl) ?_
        exact W.lret (v := (-1)) hx hb hr (fun t ht hW => ⟨⟨(-1), (), rfl, trivial, ev, fw, by rw [ht]; exact hP9, hD9⟩, hS.F ht⟩) hS.2.2 dX7_otherwise_21
set_option maxHeartbeats 1000000 in
set_option maxRecDepth 100000 in
theorem mz_x_draw (l : Launch) (dC : Nat → ClassId) (dI : Nat → Nat → Nat) (cI cJ cZ : ClassId) (mx : Nat) (dr : Nat) (th : Nat) (bk : Nat) (wt : Nat) (tt : Nat) (lh : Nat) (la : Nat) (sh : Int32) (ab : Int64) (be : Int64) (dp : Nat) (dc : Nat) (n : Nat) (fp : Nat → Int32) (bp : Nat) (fb : Nat → Int32) (p1 : Int32) (p2 : Int32) (Hq : Heap) (hn : n ≤ 8) : Met l yX7_draw wsX7_draw ({ frames := 3, cells := 0, slots := 0, locals := 69 }) (va_Pc [.ref mx, .int p1, .int p2] (fun U => U.heap = Hq ∧ va_P (dC, dI) vwCl [(mx, .inr (7, [.ref dr, .ref th, .ref bk, .ref wt, .ref tt, .ref lh, .ref la, .int sh, .long ab, .long be])), (dr, .inr (2, [.ref dp, .ref dc, .int (nI n)])), (dp, .inl (cI, 8, .inl fp)), (bk, .inr (1, [.ref bp])), (bp, .inl (cI, 1024, .inl fb))] Hq ∧ va_K (dC, dI) vwCl [(cI, FieldType.int), (cJ, FieldType.long), (cZ, FieldType.boolean)] U ∧ mz_N U)) (va_Qi (fun (r : Int32) (_ : Unit) => True) (fun _ t => t.heap = Hq) (fun _ : Nat => False)) 0 0 (fun _ : Nat => False) := by
  refine Met.ofW (cc := cX7_draw) (maxL := 8) (ret := (some .int)) (by decide) rfl ?_
  intro p e s m args below meth c s₁ B hml hv
  obtain ⟨rfl, hH, hP, hK, hN⟩ := hv
  subst hH
  have hx := B.exec
  have hb := B.bytes
  have hr := B.returns
  have hts := atoms_spec (ws := wsX7_draw) B.pre
  have hown : s.vm.findClass RX7 = some m.cls := findClass_of_methodNamed B.named
  have hlocks := B.notSynchronized
  have hS : va_S (fun _ : Nat => False) s.heap s.heap [] := va_S.rf
  have hiX7 : ∀ w ∈ u_ws RX7 TX7 10, w ∈ wsX7_draw := by decide +kernel
  have hl := lv_entry ([.ref mx, .int p1, .int p2]) (n := 8) (Nat.le_of_ble_eq_true rfl)
  rw [lg_entry_eq]
  generalize (lg_sl ([.ref mx, .int p1, .int p2]) ++ List.replicate (8 - (lg_sl ([.ref mx, .int p1, .int p2])).length) Slot.unset).toArray = ls at hl ⊢
  have hl : lv_has ls 8 [(0, .ref mx), (1, .int p1), (2, .int p2)] := hl
  refine lv_aload_n hx hb dX7_draw_0 rfl (lv_at hl 0 rfl) ?_
  refine lv_iload_n hx hb dX7_draw_1 rfl (lv_at hl 2 rfl) ?_
  have hPc := hP.sub (ws' := [(mx, .inr (7, [.ref dr, .ref th, .ref bk, .ref wt, .ref tt, .ref lh, .ref la, .int sh, .long ab, .long be])), (dr, .inr (2, [.ref dp, .ref dc, .int (nI n)]))]) [0, 1] rfl
  refine va_calli (va_runV (As := [.int p2]) (rest := []) ⟨hx, hb, hml, hown, hts⟩ (mz_x_isSetting l dC dI cI cJ cZ mx dr th bk wt tt lh la sh ab be dp dc n p2 s.heap (by first | assumption | omega)) (cwV 1 hts gX7_draw_X7_isSetting rfl rfl rfl (by decide +kernel) ⟨Nat.le_of_ble_eq_true rfl, Nat.le_of_ble_eq_true rfl⟩) ⟨fun a U g mk q => mz_blP q, va_recv hK hPc (ci := 7) (q0 := 0) rfl rfl, fun U hU hW => ⟨rfl, hU, hPc, va_K.moved hW.alike hK, mz_nw hW hN⟩⟩ rfl rfl hl.1 rfl (lv_room (Nat.le_of_ble_eq_true rfl)) dX7_draw_2 ⟨Nat.le_of_ble_eq_true rfl, Nat.le_of_ble_eq_true rfl⟩) hS (fun q _ h => h.elim) (fun q h => h.elim) (fun r_2 u t H1 locs ht hvm hw_2 hB hz1 hk1 hS => ?_)
  have hE : s.heap = H1 := hB.symm.trans ht
  subst hE
  refine lv_if_ne (tgt := 10) hx hb dX7_draw_5 (by decide) (fun c_5 => ?_) (fun c_5 => ?_)
  · skip
    refine lv_iload_n hx hb dX7_draw_10 rfl (lv_at hl 1 rfl) ?_
    refine lv_istore_n (lv' := [(3, .int p1), (0, .ref mx), (1, .int p1), (2, .int p2)]) hx hb dX7_draw_11 rfl hl (by decide) rfl (fun ls hl => ?_)
    refine lv_iconst (v := 0) hx hb dX7_draw_12 (by decide +kernel) ?_
    refine lv_istore (lv' := [(4, .int 0), (3, .int p1), (0, .ref mx), (1, .int p1), (2, .int p2)]) hx hb dX7_draw_13 hl (by decide) rfl (fun ls hl => ?_)
    refine lv_iconst (v := 0) hx hb dX7_draw_15 (by decide +kernel) ?_
    refine lv_istore (lv' := [(5, .int 0), (4, .int 0), (3, .int p1), (0, .ref mx), (1, .int p1), (2, .int p2)]) hx hb dX7_draw_16 hl (by decide) rfl (fun ls hl => ?_)
    refine lv_iconst (v := 0) hx hb dX7_draw_18 (by decide +kernel) ?_
    refine lv_istore (lv' := [(6, .int 0), (5, .int 0), (4, .int 0), (3, .int p1), (0, .ref mx), (1, .int p1), (2, .int p2)]) hx hb dX7_draw_19 hl (by decide) rfl (fun ls hl => ?_)
    refine mz_loopU (fun k H locs ls => ∃ (i_21 : Nat), ∃ (x5_21 : Int32), ∃ (x4_21 : Int32), ∃ (x3_21 : Int32), i_21 ≤ n ∧ H = s.heap ∧ va_S (fun _ : Nat => False) s.heap H locs ∧ lv_has ls 8 [(6, .int (nI i_21)), (5, .int x5_21), (4, .int x4_21), (3, .int x3_21), (0, .ref mx), (1, .int p1), (2, .int p2)] ∧ k = n - i_21) ?_ _ _ _ _ ⟨0, 0, 0, p1, by omega, rfl, hS, lv_sub hl [0, 1, 2, 3, 4, 5, 6] rfl, rfl⟩
    intro k_21 H locs ls hI_21 ih_21
    obtain ⟨i_21, x5_21, x4_21, x3_21, hi_21, hH_21, hS, hl, hk_21⟩ := hI_21
    subst hH_21
    refine lv_iload hx hb dX7_draw_21 (lv_at hl 0 rfl) ?_
    refine lv_aload_n hx hb dX7_draw_23 rfl (lv_at hl 4 rfl) ?_
    refine va_get (D := (dC, dI)) (ci := 7) (v := .ref dr) (C := RX7) (T := TX7) (N := 10) hx hb hts hiX7 hown hK hP 0 rfl rfl 0 (by decide) (hts (.fieldLink RX7 12 "MadeItSo" "drawing" "LMadeItSo$Drawing;") (by decide +kernel)) (fun _ h9 => h9) rfl dX7_draw_24 ?_
    have hPc := hP.sub (ws' := [(dr, .inr (2, [.ref dp, .ref dc, .int (nI n)]))]) [1] rfl
    refine va_calli (va_runV (As := []) (rest := [.int (nI i_21)]) ⟨hx, hb, hml, hown, hts⟩ (mz_d_size l dC dI cI cJ cZ dr dp dc n s.heap ) (cwV 0 hts gX7_draw_X2_size rfl rfl rfl (by decide +kernel) ⟨Nat.le_of_ble_eq_true rfl, Nat.le_of_ble_eq_true rfl⟩) ⟨fun a U g mk q => mz_blP q, va_recv hK hPc (ci := 2) (q0 := 0) rfl rfl, fun U hU hW => ⟨rfl, hU, hPc, va_K.moved hW.alike hK, mz_nw hW hN⟩⟩ rfl rfl hl.1 rfl (lv_room (Nat.le_of_ble_eq_true rfl)) dX7_draw_27 ⟨Nat.le_of_ble_eq_true rfl, Nat.le_of_ble_eq_true rfl⟩) hS (fun q _ h => h.elim) (fun q h => h.elim) (fun r_27 u t H1 locs ht hvm hw_27 hB hz1 hk1 hS => ?_)
    have hE : s.heap = H1 := hB.symm.trans ht
    subst hE
    obtain rfl : r_27 = (nI n) := hw_27
    refine lv_icmp_ge (tgt := 114) hx hb dX7_draw_30 (by decide) (fun c_30 => ?_) (fun c_30 => ?_)
    · skip
      have d_30 : n ≤ i_21 := (nI_leI (a := n) (b := i_21) (by omega) (by omega)).mp c_30
      refine lv_iload hx hb dX7_draw_114 (lv_at hl 1 rfl) ?_
      refine W.widen (k := 0) (n := 0) (Nat.le_of_ble_eq_true rfl) (Nat.le_of_ble_eq_true rfl) ?_
      exact W.iret (v := x5_21) hx hb hr (fun t ht hW => ⟨⟨x5_21, (), rfl, trivial, ht⟩, hS.F ht⟩) hS.2.2 dX7_draw_116
    · skip
      have d_30 : ¬ n ≤ i_21 := fun h => c_30 ((nI_leI (a := n) (b := i_21) (by omega) (by omega)).mpr h)
      refine lv_aload_n hx hb dX7_draw_33 rfl (lv_at hl 4 rfl) ?_
      refine va_get (D := (dC, dI)) (ci := 7) (v := .ref dr) (C := RX7) (T := TX7) (N := 10) hx hb hts hiX7 hown hK hP 0 rfl rfl 0 (by decide) (hts (.fieldLink RX7 12 "MadeItSo" "drawing" "LMadeItSo$Drawing;") (by decide +kernel)) (fun _ h9 => h9) rfl dX7_draw_34 ?_
      refine lv_iload hx hb dX7_draw_37 (lv_at hl 2 rfl) ?_
      have hPc := hP.sub (ws' := [(dr, .inr (2, [.ref dp, .ref dc, .int (nI n)])), (dp, .inl (cI, 8, .inl fp))]) [1, 2] rfl
      refine va_calli (va_runV (As := [.int x4_21]) (rest := []) ⟨hx, hb, hml, hown, hts⟩ (mz_d_nextAfter l dC dI cI cJ cZ dr dp dc n fp x4_21 s.heap (by first | assumption | omega)) (cwV 1 hts gX7_draw_X2_nextAfter rfl rfl rfl (by decide +kernel) ⟨Nat.le_of_ble_eq_true rfl, Nat.le_of_ble_eq_true rfl⟩) ⟨fun a U g mk q => mz_blP q, va_recv hK hPc (ci := 2) (q0 := 0) rfl rfl, fun U hU hW => ⟨rfl, hU, hPc, va_K.moved hW.alike hK, mz_nw hW hN⟩⟩ rfl rfl hl.1 rfl (lv_room (Nat.le_of_ble_eq_true rfl)) dX7_draw_39 ⟨Nat.le_of_ble_eq_true rfl, Nat.le_of_ble_eq_true rfl⟩) hS (fun q _ h => h.elim) (fun q h => h.elim) (fun r_39 u t H1 locs ht hvm hw_39 hB hz1 hk1 hS => ?_)
      have hE : s.heap = H1 := hB.symm.trans ht
      subst hE
      refine lv_istore (lv' := [(7, .int r_39), (6, .int (nI i_21)), (5, .int x5_21), (4, .int x4_21), (3, .int x3_21), (0, .ref mx), (1, .int p1), (2, .int p2)]) hx hb dX7_draw_42 hl (by decide) rfl (fun ls hl => ?_)
      refine lv_iload hx hb dX7_draw_44 (lv_at hl 0 rfl) ?_
      refine lv_iconst (v := (-1)) hx hb dX7_draw_46 (by decide +kernel) ?_
      refine lv_icmp_ne (tgt := 53) hx hb dX7_draw_47 (by decide) (fun c_47 => ?_) (fun c_47 => ?_)
      · skip
        refine lv_iload_n hx hb dX7_draw_53 rfl (lv_at hl 4 rfl) ?_
        refine lv_ldc hx hb hown (hts (.constant RX7 212 (1103515245)) (by decide +kernel)) dX7_draw_54 ?_
        refine lv_imul hx hb dX7_draw_56 ?_
        refine lv_topi (fun v_56 ev_56 => ?_)
        refine lv_sipush (v := 12345) hx hb dX7_draw_57 (by decide +kernel) ?_
        refine lv_iadd hx hb dX7_draw_60 ?_
        refine lv_topi (fun v_60 ev_60 => ?_)
        refine lv_istore_n (lv' := [(3, .int v_60), (7, .int r_39), (6, .int (nI i_21)), (5, .int x5_21), (4, .int x4_21), (0, .ref mx), (1, .int p1), (2, .int p2)]) hx hb dX7_draw_61 rfl hl (by decide) rfl (fun ls hl => ?_)
        refine lv_iload_n hx hb dX7_draw_62 rfl (lv_at hl 0 rfl) ?_
        refine lv_bipush (v := 16) hx hb dX7_draw_63 (by decide +kernel) ?_
        refine lv_iushr hx hb dX7_draw_65 rfl ?_
        refine lv_topi (fun v_65 ev_65 => ?_)
        refine lv_bipush (v := 100) hx hb dX7_draw_66 (by decide +kernel) ?_
        refine lv_irem hx hb dX7_draw_68 (by decide) ?_
        refine lv_topi (fun v_68 ev_68 => ?_)
        refine lv_aload_n hx hb dX7_draw_69 rfl (lv_at hl 5 rfl) ?_
        refine va_get (D := (dC, dI)) (ci := 7) (v := .ref bk) (C := RX7) (T := TX7) (N := 10) hx hb hts hiX7 hown hK hP 0 rfl rfl 2 (by decide) (hts (.fieldLink RX7 22 "MadeItSo" "books" "LMadeItSo$Books;") (by decide +kernel)) (fun _ h9 => h9) rfl dX7_draw_70 ?_
        refine lv_aload_n hx hb dX7_draw_73 rfl (lv_at hl 5 rfl) ?_
        refine va_get (D := (dC, dI)) (ci := 7) (v := .ref dr) (C := RX7) (T := TX7) (N := 10) hx hb hts hiX7 hown hK hP 0 rfl rfl 0 (by decide) (hts (.fieldLink RX7 12 "MadeItSo" "drawing" "LMadeItSo$Drawing;") (by decide +kernel)) (fun _ h9 => h9) rfl dX7_draw_74 ?_
        refine lv_iload hx hb dX7_draw_77 (lv_at hl 1 rfl) ?_
        refine lv_iload hx hb dX7_draw_79 (lv_at hl 3 rfl) ?_
        refine lv_iload_n hx hb dX7_draw_81 rfl (lv_at hl 7 rfl) ?_
        have hPc := hP.sub (ws' := [(bk, .inr (1, [.ref bp])), (bp, .inl (cI, 1024, .inl fb)), (dr, .inr (2, [.ref dp, .ref dc, .int (nI n)])), (dp, .inl (cI, 8, .inl fp))]) [3, 4, 1, 2] rfl
        refine va_calli (va_runV (As := [.ref dr, .int r_39, .int x5_21, .int p2]) (rest := [.int v_68]) ⟨hx, hb, hml, hown, hts⟩ (mz_b_partsUnder l dC dI cI cJ cZ bk bp fb dr dp dc n fp r_39 x5_21 p2 s.heap (by first | assumption | omega)) (cwV 4 hts gX7_draw_X1_partsUnder rfl rfl rfl (by decide +kernel) ⟨Nat.le_of_ble_eq_true rfl, Nat.le_of_ble_eq_true rfl⟩) ⟨fun a U g mk q => mz_blP q, va_recv hK hPc (ci := 1) (q0 := 0) rfl rfl, fun U hU hW => ⟨rfl, hU, hPc, va_K.moved hW.alike hK, mz_nw hW hN⟩⟩ rfl rfl hl.1 rfl (lv_room (Nat.le_of_ble_eq_true rfl)) dX7_draw_82 ⟨Nat.le_of_ble_eq_true rfl, Nat.le_of_ble_eq_true rfl⟩) hS (fun q _ h => h.elim) (fun q h => h.elim) (fun r_82 u t H1 locs ht hvm hw_82 hB hz1 hk1 hS => ?_)
        have hE : s.heap = H1 := hB.symm.trans ht
        subst hE
        refine lv_icmp_ge (tgt := 98) hx hb dX7_draw_85 (by decide) (fun c_85 => ?_) (fun c_85 => ?_)
        · skip
          refine lv_iload hx hb dX7_draw_98 (lv_at hl 4 rfl) ?_
          refine lv_iload hx hb dX7_draw_100 (lv_at hl 1 rfl) ?_
          have hPc := hP.sub (ws' := []) [] rfl
          refine va_calli (va_runS (As := [.int r_39]) (rest := [.int x4_21]) ⟨hx, hb, hml, hown, hts⟩ (mz_g_bit l dC dI cI cJ cZ r_39 s.heap ) (va_cwS 1 hts gX7_draw_X7_bit rfl rfl rfl (by decide +kernel) ⟨Nat.le_of_ble_eq_true rfl, Nat.le_of_ble_eq_true rfl⟩) ⟨fun a U g mk q => mz_blP q, fun U hU hW => ⟨rfl, hU, hPc, va_K.moved hW.alike hK, mz_nw hW hN⟩⟩ rfl rfl hl.1 rfl (lv_room (Nat.le_of_ble_eq_true rfl)) dX7_draw_102 ⟨Nat.le_of_ble_eq_true rfl, Nat.le_of_ble_eq_true rfl⟩) hS (fun q _ h => h.elim) (fun q h => h.elim) (fun r_102 u t H1 locs ht hvm hw_102 hB hz1 hk1 hS => ?_)
          have hE : s.heap = H1 := hB.symm.trans ht
          subst hE
          obtain rfl : r_102 = (1 <<< (r_39 &&& 31)) := hw_102
          refine lv_ior hx hb dX7_draw_105 ?_
          refine lv_topi (fun v_105 ev_105 => ?_)
          refine lv_istore (lv' := [(4, .int v_105), (3, .int v_60), (7, .int r_39), (6, .int (nI i_21)), (5, .int x5_21), (0, .ref mx), (1, .int p1), (2, .int p2)]) hx hb dX7_draw_106 hl (by decide) rfl (fun ls hl => ?_)
          refine lv_iinc (v := (nI (i_21 + 1))) (lv' := [(6, .int (nI (i_21 + 1))), (4, .int v_105), (3, .int v_60), (7, .int r_39), (5, .int x5_21), (0, .ref mx), (1, .int p1), (2, .int p2)]) hx hb dX7_draw_108 hl (k := 3) rfl (nI_1 _) (by decide) rfl (fun ls hl => ?_)
          refine lv_goto (tgt := 21) hx hb dX7_draw_111 (by decide) ?_
          exact ih_21 _ (by omega) _ _ _ ⟨(i_21 + 1), x5_21, v_105, v_60, by omega, rfl, hS, lv_sub hl [0, 4, 1, 2, 5, 6, 7] rfl, rfl⟩
        · skip
          refine lv_iload hx hb dX7_draw_88 (lv_at hl 3 rfl) ?_
          refine lv_iload hx hb dX7_draw_90 (lv_at hl 1 rfl) ?_
          have hPc := hP.sub (ws' := []) [] rfl
          refine va_calli (va_runS (As := [.int r_39]) (rest := [.int x5_21]) ⟨hx, hb, hml, hown, hts⟩ (mz_g_bit l dC dI cI cJ cZ r_39 s.heap ) (va_cwS 1 hts gX7_draw_X7_bit rfl rfl rfl (by decide +kernel) ⟨Nat.le_of_ble_eq_true rfl, Nat.le_of_ble_eq_true rfl⟩) ⟨fun a U g mk q => mz_blP q, fun U hU hW => ⟨rfl, hU, hPc, va_K.moved hW.alike hK, mz_nw hW hN⟩⟩ rfl rfl hl.1 rfl (lv_room (Nat.le_of_ble_eq_true rfl)) dX7_draw_92 ⟨Nat.le_of_ble_eq_true rfl, Nat.le_of_ble_eq_true rfl⟩) hS (fun q _ h => h.elim) (fun q h => h.elim) (fun r_92 u t H1 locs ht hvm hw_92 hB hz1 hk1 hS => ?_)
          have hE : s.heap = H1 := hB.symm.trans ht
          subst hE
          obtain rfl : r_92 = (1 <<< (r_39 &&& 31)) := hw_92
          refine lv_ior hx hb dX7_draw_95 ?_
          refine lv_topi (fun v_95 ev_95 => ?_)
          refine lv_istore (lv' := [(5, .int v_95), (3, .int v_60), (7, .int r_39), (6, .int (nI i_21)), (4, .int x4_21), (0, .ref mx), (1, .int p1), (2, .int p2)]) hx hb dX7_draw_96 hl (by decide) rfl (fun ls hl => ?_)
          refine lv_iload hx hb dX7_draw_98 (lv_at hl 4 rfl) ?_
          refine lv_iload hx hb dX7_draw_100 (lv_at hl 2 rfl) ?_
          have hPc := hP.sub (ws' := []) [] rfl
          refine va_calli (va_runS (As := [.int r_39]) (rest := [.int x4_21]) ⟨hx, hb, hml, hown, hts⟩ (mz_g_bit l dC dI cI cJ cZ r_39 s.heap ) (va_cwS 1 hts gX7_draw_X7_bit rfl rfl rfl (by decide +kernel) ⟨Nat.le_of_ble_eq_true rfl, Nat.le_of_ble_eq_true rfl⟩) ⟨fun a U g mk q => mz_blP q, fun U hU hW => ⟨rfl, hU, hPc, va_K.moved hW.alike hK, mz_nw hW hN⟩⟩ rfl rfl hl.1 rfl (lv_room (Nat.le_of_ble_eq_true rfl)) dX7_draw_102 ⟨Nat.le_of_ble_eq_true rfl, Nat.le_of_ble_eq_true rfl⟩) hS (fun q _ h => h.elim) (fun q h => h.elim) (fun r_102 u t H1 locs ht hvm hw_102 hB hz1 hk1 hS => ?_)
          have hE : s.heap = H1 := hB.symm.trans ht
          subst hE
          obtain rfl : r_102 = (1 <<< (r_39 &&& 31)) := hw_102
          refine lv_ior hx hb dX7_draw_105 ?_
          refine lv_topi (fun v_105 ev_105 => ?_)
          refine lv_istore (lv' := [(4, .int v_105), (5, .int v_95), (3, .int v_60), (7, .int r_39), (6, .int (nI i_21)), (0, .ref mx), (1, .int p1), (2, .int p2)]) hx hb dX7_draw_106 hl (by decide) rfl (fun ls hl => ?_)
          refine lv_iinc (v := (nI (i_21 + 1))) (lv' := [(6, .int (nI (i_21 + 1))), (4, .int v_105), (5, .int v_95), (3, .int v_60), (7, .int r_39), (0, .ref mx), (1, .int p1), (2, .int p2)]) hx hb dX7_draw_108 hl (k := 4) rfl (nI_1 _) (by decide) rfl (fun ls hl => ?_)
          refine lv_goto (tgt := 21) hx hb dX7_draw_111 (by decide) ?_
          exact ih_21 _ (by omega) _ _ _ ⟨(i_21 + 1), v_95, v_105, v_60, by omega, rfl, hS, lv_sub hl [0, 2, 1, 3, 5, 6, 7] rfl, rfl⟩
      · skip
        refine lv_goto (tgt := 114) hx hb dX7_draw_50 (by decide) ?_
        refine lv_iload hx hb dX7_draw_114 (lv_at hl 2 rfl) ?_
        refine W.widen (k := 0) (n := 0) (Nat.le_of_ble_eq_true rfl) (Nat.le_of_ble_eq_true rfl) ?_
        exact W.iret (v := x5_21) hx hb hr (fun t ht hW => ⟨⟨x5_21, (), rfl, trivial, ht⟩, hS.F ht⟩) hS.2.2 dX7_draw_116
  · skip
    refine lv_iconst (v := (-1)) hx hb dX7_draw_8 (by decide +kernel) ?_
    refine W.widen (k := 0) (n := 0) (Nat.le_of_ble_eq_true rfl) (Nat.le_of_ble_eq_true rfl) ?_
    exact W.iret (v := (-1)) hx hb hr (fun t ht hW => ⟨⟨(-1), (), rfl, trivial, ht⟩, hS.F ht⟩) hS.2.2 dX7_draw_9
set_option maxHeartbeats 1000000 in
set_option maxRecDepth 100000 in
theorem mz_x_count (l : Launch) (dC : Nat → ClassId) (dI : Nat → Nat → Nat) (cI cJ cZ : ClassId) (mx : Nat) (dr : Nat) (th : Nat) (bk : Nat) (wt : Nat) (tt : Nat) (lh : Nat) (la : Nat) (sh : Int32) (ab : Int64) (be : Int64) (dp : Nat) (dc : Nat) (n : Nat) (fp : Nat → Int32) (p1 : Int32) (Hq : Heap) (hn : n ≤ 8) : Met l yX7_count wsX7_count ({ frames := 2, cells := 0, slots := 0, locals := 42 }) (va_Pc [.ref mx, .int p1] (fun U => U.heap = Hq ∧ va_P (dC, dI) vwCl [(mx, .inr (7, [.ref dr, .ref th, .ref bk, .ref wt, .ref tt, .ref lh, .ref la, .int sh, .long ab, .long be])), (dr, .inr (2, [.ref dp, .ref dc, .int (nI n)])), (dp, .inl (cI, 8, .inl fp))] Hq ∧ va_K (dC, dI) vwCl [(cI, FieldType.int), (cJ, FieldType.long), (cZ, FieldType.boolean)] U ∧ mz_N U)) (va_Qi (fun (r : Int32) (_ : Unit) => True) (fun _ t => t.heap = Hq) (fun _ : Nat => False)) 0 0 (fun _ : Nat => False) := by
  refine Met.ofW (cc := cX7_count) (maxL := 2) (ret := (some .int)) (by decide) rfl ?_
  intro p e s m args below meth c s₁ B hml hv
  obtain ⟨rfl, hH, hP, hK, hN⟩ := hv
  subst hH
  have hx := B.exec
  have hb := B.bytes
  have hr := B.returns
  have hts := atoms_spec (ws := wsX7_count) B.pre
  have hown : s.vm.findClass RX7 = some m.cls := findClass_of_methodNamed B.named
  have hlocks := B.notSynchronized
  have hS : va_S (fun _ : Nat => False) s.heap s.heap [] := va_S.rf
  have hiX7 : ∀ w ∈ u_ws RX7 TX7 10, w ∈ wsX7_count := by decide +kernel
  have hl := lv_entry ([.ref mx, .int p1]) (n := 2) (Nat.le_of_ble_eq_true rfl)
  rw [lg_entry_eq]
  generalize (lg_sl ([.ref mx, .int p1]) ++ List.replicate (2 - (lg_sl ([.ref mx, .int p1])).length) Slot.unset).toArray = ls at hl ⊢
  have hl : lv_has ls 2 [(0, .ref mx), (1, .int p1)] := hl
  refine lv_iload_n hx hb dX7_count_0 rfl (lv_at hl 1 rfl) ?_
  by_cases hs_0 : p1 = 0
  · refine mz_ti (y := 0) hs_0 ?_
    refine lv_tableIn (tgt := 28) (off := 27) hx hb dX7_count_1 (by decide +kernel) (by decide +kernel) (by decide +kernel) (by decide) ?_
    refine lv_aload_n hx hb dX7_count_28 rfl (lv_at hl 0 rfl) ?_
    refine va_get (D := (dC, dI)) (ci := 7) (v := .ref dr) (C := RX7) (T := TX7) (N := 10) hx hb hts hiX7 hown hK hP 0 rfl rfl 0 (by decide) (hts (.fieldLink RX7 12 "MadeItSo" "drawing" "LMadeItSo$Drawing;") (by decide +kernel)) (fun _ h9 => h9) rfl dX7_count_29 ?_
    have hPc := hP.sub (ws' := [(dr, .inr (2, [.ref dp, .ref dc, .int (nI n)]))]) [1] rfl
    refine va_calli (va_runV (As := []) (rest := []) ⟨hx, hb, hml, hown, hts⟩ (mz_d_size l dC dI cI cJ cZ dr dp dc n s.heap ) (cwV 0 hts gX7_count_X2_size rfl rfl rfl (by decide +kernel) ⟨Nat.le_of_ble_eq_true rfl, Nat.le_of_ble_eq_true rfl⟩) ⟨fun a U g mk q => mz_blP q, va_recv hK hPc (ci := 2) (q0 := 0) rfl rfl, fun U hU hW => ⟨rfl, hU, hPc, va_K.moved hW.alike hK, mz_nw hW hN⟩⟩ rfl rfl hl.1 rfl (lv_room (Nat.le_of_ble_eq_true rfl)) dX7_count_32 ⟨Nat.le_of_ble_eq_true rfl, Nat.le_of_ble_eq_true rfl⟩) hS (fun q _ h => h.elim) (fun q h => h.elim) (fun r_32 u t H1 locs ht hvm hw_32 hB hz1 hk1 hS => ?_)
    have hE : s.heap = H1 := hB.symm.trans ht
    subst hE
    obtain rfl : r_32 = (nI n) := hw_32
    refine W.widen (k := 0) (n := 0) (Nat.le_of_ble_eq_true rfl) (Nat.le_of_ble_eq_true rfl) ?_
    exact W.iret (v := (nI n)) hx hb hr (fun t ht hW => ⟨⟨(nI n), (), rfl, trivial, ht⟩, hS.F ht⟩) hS.2.2 dX7_count_35
  by_cases hs_1 : p1 = 1
  · refine mz_ti (y := 1) hs_1 ?_
    refine lv_tableIn (tgt := 36) (off := 35) hx hb dX7_count_1 (by decide +kernel) (by decide +kernel) (by decide +kernel) (by decide) ?_
    refine lv_aload_n hx hb dX7_count_36 rfl (lv_at hl 0 rfl) ?_
    refine va_get (D := (dC, dI)) (ci := 7) (v := .ref dr) (C := RX7) (T := TX7) (N := 10) hx hb hts hiX7 hown hK hP 0 rfl rfl 0 (by decide) (hts (.fieldLink RX7 12 "MadeItSo" "drawing" "LMadeItSo$Drawing;") (by decide +kernel)) (fun _ h9 => h9) rfl dX7_count_37 ?_
    have hPc := hP.sub (ws' := [(dr, .inr (2, [.ref dp, .ref dc, .int (nI n)])), (dp, .inl (cI, 8, .inl fp))]) [1, 2] rfl
    refine va_calli (va_runV (As := []) (rest := []) ⟨hx, hb, hml, hown, hts⟩ (mz_d_arrows l dC dI cI cJ cZ dr dp dc n fp s.heap (by first | assumption | omega)) (cwV 0 hts gX7_count_X2_arrows rfl rfl rfl (by decide +kernel) ⟨Nat.le_of_ble_eq_true rfl, Nat.le_of_ble_eq_true rfl⟩) ⟨fun a U g mk q => mz_blP q, va_recv hK hPc (ci := 2) (q0 := 0) rfl rfl, fun U hU hW => ⟨rfl, hU, hPc, va_K.moved hW.alike hK, mz_nw hW hN⟩⟩ rfl rfl hl.1 rfl (lv_room (Nat.le_of_ble_eq_true rfl)) dX7_count_40 ⟨Nat.le_of_ble_eq_true rfl, Nat.le_of_ble_eq_true rfl⟩) hS (fun q _ h => h.elim) (fun q h => h.elim) (fun r_40 u t H1 locs ht hvm hw_40 hB hz1 hk1 hS => ?_)
    have hE : s.heap = H1 := hB.symm.trans ht
    subst hE
    refine W.widen (k := 0) (n := 0) (Nat.le_of_ble_eq_true rfl) (Nat.le_of_ble_eq_true rfl) ?_
    exact W.iret (v := r_40) hx hb hr (fun t ht hW => ⟨⟨r_40, (), rfl, trivial, ht⟩, hS.F ht⟩) hS.2.2 dX7_count_43
  by_cases hs_2 : p1 = 2
  · refine mz_ti (y := 2) hs_2 ?_
    refine lv_tableIn (tgt := 44) (off := 43) hx hb dX7_count_1 (by decide +kernel) (by decide +kernel) (by decide +kernel) (by decide) ?_
    refine lv_aload_n hx hb dX7_count_44 rfl (lv_at hl 0 rfl) ?_
    refine va_get (D := (dC, dI)) (ci := 7) (v := .int sh) (C := RX7) (T := TX7) (N := 10) hx hb hts hiX7 hown hK hP 0 rfl rfl 7 (by decide) (hts (.fieldLink RX7 54 "MadeItSo" "seenHeap" "I") (by decide +kernel)) (fun _ h9 => h9) rfl dX7_count_45 ?_
    refine W.widen (k := 0) (n := 0) (Nat.le_of_ble_eq_true rfl) (Nat.le_of_ble_eq_true rfl) ?_
    exact W.iret (v := sh) hx hb hr (fun t ht hW => ⟨⟨sh, (), rfl, trivial, ht⟩, hS.F ht⟩) hS.2.2 dX7_count_48
  refine lv_tableOut (tgt := 49) hx hb dX7_count_1 (mz_sw2 hs_0 hs_1 hs_2) (by decide) ?_
  refine lv_iconst (v := (-1)) hx hb dX7_count_49 (by decide +kernel) ?_
  refine W.widen (k := 0) (n := 0) (Nat.le_of_ble_eq_true rfl) (Nat.le_of_ble_eq_true rfl) ?_
  exact W.iret (v := (-1)) hx hb hr (fun t ht hW => ⟨⟨(-1), (), rfl, trivial, ht⟩, hS.F ht⟩) hS.2.2 dX7_count_50
