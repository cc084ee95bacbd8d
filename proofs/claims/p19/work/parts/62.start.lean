set_option maxHeartbeats 1000000 in
set_option maxRecDepth 100000 in
/-- THE LAW, from its entry -/
theorem whole_start {p : Program} {e : Env} {s : State} {m : MethodId} {below : List Frame} {meth : Method} {c : Code} (l : Launch) {b L : Nat} {xs : Nat → Int32} (hL : L ≤ 3072) (C0 : lw_At p s m meth c b L xs) : W p l e room_1 s m #[Value.ref b] below meth c s.heap [] 0 0 (lw_Z below #[Value.ref b] s) (entryFrame m ([Value.ref b] : List Value).toArray 4) := by
  obtain ⟨hx, hb, hr, hml, hown0, hts0, hX, hbl, hlocks, hgv⟩ := id C0
  have hown : s.vm.findClass RL = some m.cls := hown0
  have hts : ∀ w ∈ wsL_law, w.before #[Value.ref b] s = true := fun w h => hts0 w (mz_lw w h)
  have hN : mz_N s := fun q hq => va_Nw.of rfl (hts0 _ (mz_nlin q hq))
  obtain ⟨A, hAe⟩ : ∃ A : Nat → Prop, A = fun q : Nat => s.heap.size ≤ q := ⟨_, rfl⟩
  have hA : ∀ q : Nat, s.heap.size ≤ q → A q := fun q h => by rw [hAe]; exact h
  have hA2 : ∀ q : Nat, A q → s.heap.size ≤ q := fun q h => by rw [hAe] at h; exact h
  have hbA : ¬ A b := fun h => absurd (hA2 b h) (Nat.not_le.mpr hbl)
  obtain ⟨c0, iS0, hKn0⟩ := u_known (C := RX0) (T := TX0) (N := 2) (n := 2) hts inlX0 (hts (.instantiable RX0 2) (by decide +kernel))
  obtain ⟨c1, iS1, hKn1⟩ := u_known (C := RX1) (T := TX1) (N := 1) (n := 1) hts inlX1 (hts (.instantiable RX1 1) (by decide +kernel))
  obtain ⟨c2, iS2, hKn2⟩ := u_known (C := RX2) (T := TX2) (N := 3) (n := 3) hts inlX2 (hts (.instantiable RX2 3) (by decide +kernel))
  obtain ⟨c3, iS3, hKn3⟩ := u_known (C := RX3) (T := TX3) (N := 2) (n := 2) hts inlX3 (hts (.instantiable RX3 2) (by decide +kernel))
  obtain ⟨c4, iS4, hKn4⟩ := u_known (C := RX4) (T := TX4) (N := 1) (n := 1) hts inlX4 (hts (.instantiable RX4 1) (by decide +kernel))
  obtain ⟨c5, iS5, hKn5⟩ := u_known (C := RX5) (T := TX5) (N := 3) (n := 3) hts inlX5 (hts (.instantiable RX5 3) (by decide +kernel))
  obtain ⟨c6, iS6, hKn6⟩ := u_known (C := RX6) (T := TX6) (N := 2) (n := 2) hts inlX6 (hts (.instantiable RX6 2) (by decide +kernel))
  obtain ⟨c7, iS7, hKn7⟩ := u_known (C := RX7) (T := TX7) (N := 10) (n := 10) hts inlX7 (hts (.instantiable RX7 10) (by decide +kernel))
  obtain ⟨c8, iS8, hKn8⟩ := u_known (C := RX8) (T := TX8) (N := 17) (n := 17) hts inlX8 (hts (.instantiable RX8 17) (by decide +kernel))
  obtain ⟨dC, dI, hKc⟩ : ∃ (dC : Nat → ClassId) (dI : Nat → Nat → Nat), ∀ (k : Nat) (q : vw_C), vwCl[k]? = some q → u_Kn s q.1 q.2.1 q.2.2 (dC k) (dI k) := by
    refine ⟨fun k => if k = 0 then c0 else if k = 1 then c1 else if k = 2 then c2 else if k = 3 then c3 else if k = 4 then c4 else if k = 5 then c5 else if k = 6 then c6 else if k = 7 then c7 else c8, fun k => if k = 0 then iS0 else if k = 1 then iS1 else if k = 2 then iS2 else if k = 3 then iS3 else if k = 4 then iS4 else if k = 5 then iS5 else if k = 6 then iS6 else if k = 7 then iS7 else iS8, ?_⟩
    intro k q hq
    match k, hq with
    | 0, hq => cases hq; exact hKn0
    | 1, hq => cases hq; exact hKn1
    | 2, hq => cases hq; exact hKn2
    | 3, hq => cases hq; exact hKn3
    | 4, hq => cases hq; exact hKn4
    | 5, hq => cases hq; exact hKn5
    | 6, hq => cases hq; exact hKn6
    | 7, hq => cases hq; exact hKn7
    | 8, hq => cases hq; exact hKn8
    | k + 9, hq => simp [vwCl] at hq
  obtain ⟨cI, kI, oI, fI, gI, tI⟩ := Cond.arrayClass_spec (hts (.arrayClass .int) (by decide +kernel))
  obtain ⟨cJ, kJ, oJ, fJ, gJ, tJ⟩ := Cond.arrayClass_spec (hts (.arrayClass .long) (by decide +kernel))
  obtain ⟨cZ, kZ, oZ, fZ, gZ, tZ⟩ := Cond.arrayClass_spec (hts (.arrayClass .boolean) (by decide +kernel))
  have hS : va_S A s.heap s.heap [] := va_S.rf
  have hK : va_K (dC, dI) vwCl [(cI, FieldType.int), (cJ, FieldType.long), (cZ, FieldType.boolean)] s := by
    refine ⟨hKc, fun k q h => ?_⟩
    match k, h with
    | 0, h => cases h; exact ⟨fun n z => ⟨fun k h => (by cases h), kI, gI, oI, tI⟩, fI⟩
    | 1, h => cases h; exact ⟨fun n z => ⟨fun k h => (by cases h), kJ, gJ, oJ, tJ⟩, fJ⟩
    | 2, h => cases h; exact ⟨fun n z => ⟨fun k h => (by cases h), kZ, gZ, oZ, tZ⟩, fZ⟩
    | k + 3, h => simp at h
  have hP : va_P (dC, dI) vwCl [] s.heap := fun k q h => by simp at h
  have hD : va_D A [] := ⟨fun i j p q h => by simp at h, fun k q h => by simp at h⟩
  have hiX7 : ∀ w ∈ u_ws RX7 TX7 10, w ∈ wsL_law := inlX7
  have hiX8 : ∀ w ∈ u_ws RX8 TX8 17, w ∈ wsL_law := inlX8
  have hl := lv_entry ([.ref b]) (n := 4) (Nat.le_of_ble_eq_true rfl)
  rw [lg_entry_eq]
  generalize (lg_sl ([.ref b]) ++ List.replicate (4 - (lg_sl ([.ref b])).length) Slot.unset).toArray = ls at hl ⊢
  have hl : lv_has ls 4 [(0, .ref b)] := hl
  refine va_new (ci := 7) (fs := [.null, .null, .null, .null, .null, .null, .null, .int 0, .long 0, .long 0]) (C := RX7) (T := TX7) (N := 10) hx hb hts hiX7 tyX7 tyX7_ok hown (hts (.classLink RL 7 RX7) (by decide +kernel)) (hts (.instantiable RX7 10) (by decide +kernel)) (hts (.initialized RX7) (by decide +kernel)) hK hP hD hS hA rfl (fun j hj => by rcases (show j = 0 ∨ j = 1 ∨ j = 2 ∨ j = 3 ∨ j = 4 ∨ j = 5 ∨ j = 6 ∨ j = 7 ∨ j = 8 ∨ j = 9 by omega) with rfl | rfl | rfl | rfl | rfl | rfl | rfl | rfl | rfl | rfl <;> rfl) (Nat.le_of_ble_eq_true rfl) (Nat.le_of_ble_eq_true rfl) dL_law_0 (fun q1 H hP hD hS => ?_)
  refine W.widen (k := 1) (n := 10) (Nat.le_of_ble_eq_true rfl) (Nat.le_of_ble_eq_true rfl) ?_
  have hP : va_P (dC, dI) vwCl [(q1, .inr (7, [.null, .null, .null, .null, .null, .null, .null, .int 0, .long 0, .long 0]))] H := hP
  have hD : va_D A [(q1, .inr (7, [.null, .null, .null, .null, .null, .null, .null, .int 0, .long 0, .long 0]))] := hD
  refine lv_dup hx hb dL_law_3 rfl ?_
  have hPc := hP.sub (ws' := [(q1, .inr (7, [.null, .null, .null, .null, .null, .null, .null, .int 0, .long 0, .long 0]))]) [0] rfl
  have hDc := hD.sub (ws' := [(q1, .inr (7, [.null, .null, .null, .null, .null, .null, .null, .int 0, .long 0, .long 0]))]) [0] (by decide) rfl
  have hFc := va_free (wc := [(q1, .inr (7, [.null, .null, .null, .null, .null, .null, .null, .int 0, .long 0, .long 0]))]) hD hS hA [0] rfl
  refine va_callv (va_runI (As := []) (rest := [.ref q1]) ⟨hx, hb, hml, hown, hts⟩ (mz_MadeItSo_init l dC dI cI cJ cZ q1 H.size ) (cwI 0 hts gL_law_X7_init rfl rfl rfl (hts (.initialized RX7) (by decide +kernel)) (hts (.methodLink RL 9 yX7_init) (by decide +kernel)) (hts (.instanceMethod yX7_init) (by decide +kernel)) rfl (by decide +kernel) ⟨Nat.le_of_ble_eq_true rfl, Nat.le_of_ble_eq_true rfl⟩) ⟨fun a U g mk q => mz_blI q, fun U hU hW => ⟨rfl, by rw [hU], by rw [hU]; exact hPc, va_K.moved hW.alike hK, hDc.weaken (fun _ _ _ _ => trivial), mz_nw hW hN⟩⟩ rfl rfl hl.1 rfl (lv_room (Nat.le_of_ble_eq_true rfl)) dL_law_4 ⟨Nat.le_of_ble_eq_true rfl, Nat.le_of_ble_eq_true rfl⟩) hS (fun q _ h => hFc q h) hFc (fun u t H1 locs ht hvm hw hB hz1 hk1 hS => ?_)
  obtain ⟨dr2, dp3, dc4, th5, tp6, tc7, bk8, bp9, wt10, wo11, tt12, b13, b1l14, b15, b2l16, b17, b3l18, lh19, hf20, la21, lw22, hP1, hD1⟩ := hB
  rw [ht] at hP1
  obtain ⟨hP, hD⟩ := va_join (wr := []) (w1 := [(q1, .inr (7, [.ref dr2, .ref th5, .ref bk8, .ref wt10, .ref tt12, .ref lh19, .ref la21, .int 0, .long 0, .long 1])), (dr2, .inr (2, [.ref dp3, .ref dc4, .int 0])), (dp3, .inl (cI, 8, .inl (fun _ => 0))), (dc4, .inl (cI, 8, .inl (fun _ => 0))), (th5, .inr (2, [.ref tp6, .ref tc7, .int 0])), (tp6, .inl (cI, 8, .inl (fun _ => 0))), (tc7, .inl (cI, 8, .inl (fun _ => 0))), (bk8, .inr (1, [.ref bp9])), (bp9, .inl (cI, 1024, .inl (fun _ => 0))), (wt10, .inr (6, [.ref wo11, .int 0])), (wo11, .inl (cJ, 256, .inr (.inl (fun _ => 0)))), (tt12, .inr (5, [.ref b13, .ref b15, .ref b17])), (b13, .inr (0, [.ref b1l14, .int 0])), (b1l14, .inl (cJ, 128, .inr (.inl (fun _ => 0)))), (b15, .inr (0, [.ref b2l16, .int 0])), (b2l16, .inl (cJ, 128, .inr (.inl (fun _ => 0)))), (b17, .inr (0, [.ref b3l18, .int 0])), (b3l18, .inl (cJ, 128, .inr (.inl (fun _ => 0)))), (lh19, .inr (3, [.ref hf20, .int 0])), (hf20, .inl (cI, 64, .inl (fun _ => 0))), (la21, .inr (4, [.ref lw22])), (lw22, .inl (cI, 256, .inl (fun _ => 0)))]) hP hD [0] [] rfl rfl (by decide) (by decide) hk1 hFc hP1 hD1
  generalize H1 = H at hP hS ⊢
  have hP : va_P (dC, dI) vwCl [(q1, .inr (7, [.ref dr2, .ref th5, .ref bk8, .ref wt10, .ref tt12, .ref lh19, .ref la21, .int 0, .long 0, .long 1])), (dr2, .inr (2, [.ref dp3, .ref dc4, .int 0])), (dp3, .inl (cI, 8, .inl (fun _ => 0))), (dc4, .inl (cI, 8, .inl (fun _ => 0))), (th5, .inr (2, [.ref tp6, .ref tc7, .int 0])), (tp6, .inl (cI, 8, .inl (fun _ => 0))), (tc7, .inl (cI, 8, .inl (fun _ => 0))), (bk8, .inr (1, [.ref bp9])), (bp9, .inl (cI, 1024, .inl (fun _ => 0))), (wt10, .inr (6, [.ref wo11, .int 0])), (wo11, .inl (cJ, 256, .inr (.inl (fun _ => 0)))), (tt12, .inr (5, [.ref b13, .ref b15, .ref b17])), (b13, .inr (0, [.ref b1l14, .int 0])), (b1l14, .inl (cJ, 128, .inr (.inl (fun _ => 0)))), (b15, .inr (0, [.ref b2l16, .int 0])), (b2l16, .inl (cJ, 128, .inr (.inl (fun _ => 0)))), (b17, .inr (0, [.ref b3l18, .int 0])), (b3l18, .inl (cJ, 128, .inr (.inl (fun _ => 0)))), (lh19, .inr (3, [.ref hf20, .int 0])), (hf20, .inl (cI, 64, .inl (fun _ => 0))), (la21, .inr (4, [.ref lw22])), (lw22, .inl (cI, 256, .inl (fun _ => 0)))] H := hP
  have hD : va_D A [(q1, .inr (7, [.ref dr2, .ref th5, .ref bk8, .ref wt10, .ref tt12, .ref lh19, .ref la21, .int 0, .long 0, .long 1])), (dr2, .inr (2, [.ref dp3, .ref dc4, .int 0])), (dp3, .inl (cI, 8, .inl (fun _ => 0))), (dc4, .inl (cI, 8, .inl (fun _ => 0))), (th5, .inr (2, [.ref tp6, .ref tc7, .int 0])), (tp6, .inl (cI, 8, .inl (fun _ => 0))), (tc7, .inl (cI, 8, .inl (fun _ => 0))), (bk8, .inr (1, [.ref bp9])), (bp9, .inl (cI, 1024, .inl (fun _ => 0))), (wt10, .inr (6, [.ref wo11, .int 0])), (wo11, .inl (cJ, 256, .inr (.inl (fun _ => 0)))), (tt12, .inr (5, [.ref b13, .ref b15, .ref b17])), (b13, .inr (0, [.ref b1l14, .int 0])), (b1l14, .inl (cJ, 128, .inr (.inl (fun _ => 0)))), (b15, .inr (0, [.ref b2l16, .int 0])), (b2l16, .inl (cJ, 128, .inr (.inl (fun _ => 0)))), (b17, .inr (0, [.ref b3l18, .int 0])), (b3l18, .inl (cJ, 128, .inr (.inl (fun _ => 0)))), (lh19, .inr (3, [.ref hf20, .int 0])), (hf20, .inl (cI, 64, .inl (fun _ => 0))), (la21, .inr (4, [.ref lw22])), (lw22, .inl (cI, 256, .inl (fun _ => 0)))] := hD
  refine W.widen (k := 22) (n := 2047) (Nat.le_of_ble_eq_true rfl) (Nat.le_of_ble_eq_true rfl) ?_
  refine lv_astore_n (lv' := [(1, .ref q1), (0, .ref b)]) hx hb dL_law_7 rfl hl (by decide) rfl (fun ls hl => ?_)
  refine va_new (ci := 8) (fs := [.int 0, .null, .null, .null, .long 0, .long 0, .null, .null, .null, .null, .null, .null, .null, .null, .null, .null, .null]) (C := RX8) (T := TX8) (N := 17) hx hb hts hiX8 tyX8 tyX8_ok hown (hts (.classLink RL 10 RX8) (by decide +kernel)) (hts (.instantiable RX8 17) (by decide +kernel)) (hts (.initialized RX8) (by decide +kernel)) hK hP hD hS hA rfl (fun j hj => by rcases (show j = 0 ∨ j = 1 ∨ j = 2 ∨ j = 3 ∨ j = 4 ∨ j = 5 ∨ j = 6 ∨ j = 7 ∨ j = 8 ∨ j = 9 ∨ j = 10 ∨ j = 11 ∨ j = 12 ∨ j = 13 ∨ j = 14 ∨ j = 15 ∨ j = 16 by omega) with rfl | rfl | rfl | rfl | rfl | rfl | rfl | rfl | rfl | rfl | rfl | rfl | rfl | rfl | rfl | rfl | rfl <;> rfl) (Nat.le_of_ble_eq_true rfl) (Nat.le_of_ble_eq_true rfl) dL_law_8 (fun q23 H hP hD hS => ?_)
  refine W.widen (k := 23) (n := 2064) (Nat.le_of_ble_eq_true rfl) (Nat.le_of_ble_eq_true rfl) ?_
  have hP : va_P (dC, dI) vwCl [(q1, .inr (7, [.ref dr2, .ref th5, .ref bk8, .ref wt10, .ref tt12, .ref lh19, .ref la21, .int 0, .long 0, .long 1])), (dr2, .inr (2, [.ref dp3, .ref dc4, .int 0])), (dp3, .inl (cI, 8, .inl (fun _ => 0))), (dc4, .inl (cI, 8, .inl (fun _ => 0))), (th5, .inr (2, [.ref tp6, .ref tc7, .int 0])), (tp6, .inl (cI, 8, .inl (fun _ => 0))), (tc7, .inl (cI, 8, .inl (fun _ => 0))), (bk8, .inr (1, [.ref bp9])), (bp9, .inl (cI, 1024, .inl (fun _ => 0))), (wt10, .inr (6, [.ref wo11, .int 0])), (wo11, .inl (cJ, 256, .inr (.inl (fun _ => 0)))), (tt12, .inr (5, [.ref b13, .ref b15, .ref b17])), (b13, .inr (0, [.ref b1l14, .int 0])), (b1l14, .inl (cJ, 128, .inr (.inl (fun _ => 0)))), (b15, .inr (0, [.ref b2l16, .int 0])), (b2l16, .inl (cJ, 128, .inr (.inl (fun _ => 0)))), (b17, .inr (0, [.ref b3l18, .int 0])), (b3l18, .inl (cJ, 128, .inr (.inl (fun _ => 0)))), (lh19, .inr (3, [.ref hf20, .int 0])), (hf20, .inl (cI, 64, .inl (fun _ => 0))), (la21, .inr (4, [.ref lw22])), (lw22, .inl (cI, 256, .inl (fun _ => 0))), (q23, .inr (8, [.int 0, .null, .null, .null, .long 0, .long 0, .null, .null, .null, .null, .null, .null, .null, .null, .null, .null, .null]))] H := hP
  have hD : va_D A [(q1, .inr (7, [.ref dr2, .ref th5, .ref bk8, .ref wt10, .ref tt12, .ref lh19, .ref la21, .int 0, .long 0, .long 1])), (dr2, .inr (2, [.ref dp3, .ref dc4, .int 0])), (dp3, .inl (cI, 8, .inl (fun _ => 0))), (dc4, .inl (cI, 8, .inl (fun _ => 0))), (th5, .inr (2, [.ref tp6, .ref tc7, .int 0])), (tp6, .inl (cI, 8, .inl (fun _ => 0))), (tc7, .inl (cI, 8, .inl (fun _ => 0))), (bk8, .inr (1, [.ref bp9])), (bp9, .inl (cI, 1024, .inl (fun _ => 0))), (wt10, .inr (6, [.ref wo11, .int 0])), (wo11, .inl (cJ, 256, .inr (.inl (fun _ => 0)))), (tt12, .inr (5, [.ref b13, .ref b15, .ref b17])), (b13, .inr (0, [.ref b1l14, .int 0])), (b1l14, .inl (cJ, 128, .inr (.inl (fun _ => 0)))), (b15, .inr (0, [.ref b2l16, .int 0])), (b2l16, .inl (cJ, 128, .inr (.inl (fun _ => 0)))), (b17, .inr (0, [.ref b3l18, .int 0])), (b3l18, .inl (cJ, 128, .inr (.inl (fun _ => 0)))), (lh19, .inr (3, [.ref hf20, .int 0])), (hf20, .inl (cI, 64, .inl (fun _ => 0))), (la21, .inr (4, [.ref lw22])), (lw22, .inl (cI, 256, .inl (fun _ => 0))), (q23, .inr (8, [.int 0, .null, .null, .null, .long 0, .long 0, .null, .null, .null, .null, .null, .null, .null, .null, .null, .null, .null]))] := hD
  refine lv_dup hx hb dL_law_11 rfl ?_
  have hPc := hP.sub (ws' := [(q23, .inr (8, [.int 0, .null, .null, .null, .long 0, .long 0, .null, .null, .null, .null, .null, .null, .null, .null, .null, .null, .null]))]) [22] rfl
  have hDc := hD.sub (ws' := [(q23, .inr (8, [.int 0, .null, .null, .null, .long 0, .long 0, .null, .null, .null, .null, .null, .null, .null, .null, .null, .null, .null]))]) [22] (by decide) rfl
  have hFc := va_free (wc := [(q23, .inr (8, [.int 0, .null, .null, .null, .long 0, .long 0, .null, .null, .null, .null, .null, .null, .null, .null, .null, .null, .null]))]) hD hS hA [22] rfl
  refine va_callv (va_runI (As := []) (rest := [.ref q23]) ⟨hx, hb, hml, hown, hts⟩ (mz_Model_init l dC dI cI cJ cZ q23 H.size ) (cwI 0 hts gL_law_X8_init rfl rfl rfl (hts (.initialized RX8) (by decide +kernel)) (hts (.methodLink RL 12 yX8_init) (by decide +kernel)) (hts (.instanceMethod yX8_init) (by decide +kernel)) rfl (by decide +kernel) ⟨Nat.le_of_ble_eq_true rfl, Nat.le_of_ble_eq_true rfl⟩) ⟨fun a U g mk q => mz_blI q, fun U hU hW => ⟨rfl, by rw [hU], by rw [hU]; exact hPc, va_K.moved hW.alike hK, hDc.weaken (fun _ _ _ _ => trivial), mz_nw hW hN⟩⟩ rfl rfl hl.1 rfl (lv_room (Nat.le_of_ble_eq_true rfl)) dL_law_12 ⟨Nat.le_of_ble_eq_true rfl, Nat.le_of_ble_eq_true rfl⟩) hS (fun q _ h => hFc q h) hFc (fun u t H1 locs ht hvm hw hB hz1 hk1 hS => ?_)
  obtain ⟨a24, a25, a26, a27, a28, a29, a30, a31, a32, a33, a34, a35, a36, a37, hP1, hD1⟩ := hB
  rw [ht] at hP1
  obtain ⟨hP, hD⟩ := va_join (wr := [(q1, .inr (7, [.ref dr2, .ref th5, .ref bk8, .ref wt10, .ref tt12, .ref lh19, .ref la21, .int 0, .long 0, .long 1])), (dr2, .inr (2, [.ref dp3, .ref dc4, .int 0])), (dp3, .inl (cI, 8, .inl (fun _ => 0))), (dc4, .inl (cI, 8, .inl (fun _ => 0))), (th5, .inr (2, [.ref tp6, .ref tc7, .int 0])), (tp6, .inl (cI, 8, .inl (fun _ => 0))), (tc7, .inl (cI, 8, .inl (fun _ => 0))), (bk8, .inr (1, [.ref bp9])), (bp9, .inl (cI, 1024, .inl (fun _ => 0))), (wt10, .inr (6, [.ref wo11, .int 0])), (wo11, .inl (cJ, 256, .inr (.inl (fun _ => 0)))), (tt12, .inr (5, [.ref b13, .ref b15, .ref b17])), (b13, .inr (0, [.ref b1l14, .int 0])), (b1l14, .inl (cJ, 128, .inr (.inl (fun _ => 0)))), (b15, .inr (0, [.ref b2l16, .int 0])), (b2l16, .inl (cJ, 128, .inr (.inl (fun _ => 0)))), (b17, .inr (0, [.ref b3l18, .int 0])), (b3l18, .inl (cJ, 128, .inr (.inl (fun _ => 0)))), (lh19, .inr (3, [.ref hf20, .int 0])), (hf20, .inl (cI, 64, .inl (fun _ => 0))), (la21, .inr (4, [.ref lw22])), (lw22, .inl (cI, 256, .inl (fun _ => 0)))]) (w1 := [(q23, .inr (8, [.int 0, .ref a24, .ref a25, .ref a26, .long 0, .long 1, .ref a27, .ref a28, .ref a29, .ref a30, .ref a31, .ref a32, .ref a33, .ref a34, .ref a35, .ref a36, .ref a37])), (a24, .inl (cZ, 8, .inl (fun _ => 0))), (a25, .inl (cI, 8, .inl (fun _ => 0))), (a26, .inl (cI, 1024, .inl (fun _ => 0))), (a27, .inl (cI, 8, .inl (fun _ => 0))), (a28, .inl (cI, 9, .inl (fun _ => 0))), (a29, .inl (cZ, 256, .inl (fun _ => 0))), (a30, .inl (cJ, 200, .inr (.inl (fun _ => 0)))), (a31, .inl (cJ, 200, .inr (.inl (fun _ => 0)))), (a32, .inl (cJ, 200, .inr (.inl (fun _ => 0)))), (a33, .inl (cI, 8, .inl (fun _ => 0))), (a34, .inl (cI, 9, .inl (fun _ => 0))), (a35, .inl (cI, 8, .inl (fun _ => 0))), (a36, .inl (cZ, 64, .inl (fun _ => 0))), (a37, .inl (cI, 8, .inl (fun _ => 0)))]) hP hD [22] [0, 1, 2, 3, 4, 5, 6, 7, 8, 9, 10, 11, 12, 13, 14, 15, 16, 17, 18, 19, 20, 21] rfl rfl (by decide) (by decide) hk1 hFc hP1 hD1
  generalize H1 = H at hP hS ⊢
  have hP : va_P (dC, dI) vwCl [(q1, .inr (7, [.ref dr2, .ref th5, .ref bk8, .ref wt10, .ref tt12, .ref lh19, .ref la21, .int 0, .long 0, .long 1])), (dr2, .inr (2, [.ref dp3, .ref dc4, .int 0])), (dp3, .inl (cI, 8, .inl (fun _ => 0))), (dc4, .inl (cI, 8, .inl (fun _ => 0))), (th5, .inr (2, [.ref tp6, .ref tc7, .int 0])), (tp6, .inl (cI, 8, .inl (fun _ => 0))), (tc7, .inl (cI, 8, .inl (fun _ => 0))), (bk8, .inr (1, [.ref bp9])), (bp9, .inl (cI, 1024, .inl (fun _ => 0))), (wt10, .inr (6, [.ref wo11, .int 0])), (wo11, .inl (cJ, 256, .inr (.inl (fun _ => 0)))), (tt12, .inr (5, [.ref b13, .ref b15, .ref b17])), (b13, .inr (0, [.ref b1l14, .int 0])), (b1l14, .inl (cJ, 128, .inr (.inl (fun _ => 0)))), (b15, .inr (0, [.ref b2l16, .int 0])), (b2l16, .inl (cJ, 128, .inr (.inl (fun _ => 0)))), (b17, .inr (0, [.ref b3l18, .int 0])), (b3l18, .inl (cJ, 128, .inr (.inl (fun _ => 0)))), (lh19, .inr (3, [.ref hf20, .int 0])), (hf20, .inl (cI, 64, .inl (fun _ => 0))), (la21, .inr (4, [.ref lw22])), (lw22, .inl (cI, 256, .inl (fun _ => 0))), (q23, .inr (8, [.int 0, .ref a24, .ref a25, .ref a26, .long 0, .long 1, .ref a27, .ref a28, .ref a29, .ref a30, .ref a31, .ref a32, .ref a33, .ref a34, .ref a35, .ref a36, .ref a37])), (a24, .inl (cZ, 8, .inl (fun _ => 0))), (a25, .inl (cI, 8, .inl (fun _ => 0))), (a26, .inl (cI, 1024, .inl (fun _ => 0))), (a27, .inl (cI, 8, .inl (fun _ => 0))), (a28, .inl (cI, 9, .inl (fun _ => 0))), (a29, .inl (cZ, 256, .inl (fun _ => 0))), (a30, .inl (cJ, 200, .inr (.inl (fun _ => 0)))), (a31, .inl (cJ, 200, .inr (.inl (fun _ => 0)))), (a32, .inl (cJ, 200, .inr (.inl (fun _ => 0)))), (a33, .inl (cI, 8, .inl (fun _ => 0))), (a34, .inl (cI, 9, .inl (fun _ => 0))), (a35, .inl (cI, 8, .inl (fun _ => 0))), (a36, .inl (cZ, 64, .inl (fun _ => 0))), (a37, .inl (cI, 8, .inl (fun _ => 0)))] H := hP
  have hD : va_D A [(q1, .inr (7, [.ref dr2, .ref th5, .ref bk8, .ref wt10, .ref tt12, .ref lh19, .ref la21, .int 0, .long 0, .long 1])), (dr2, .inr (2, [.ref dp3, .ref dc4, .int 0])), (dp3, .inl (cI, 8, .inl (fun _ => 0))), (dc4, .inl (cI, 8, .inl (fun _ => 0))), (th5, .inr (2, [.ref tp6, .ref tc7, .int 0])), (tp6, .inl (cI, 8, .inl (fun _ => 0))), (tc7, .inl (cI, 8, .inl (fun _ => 0))), (bk8, .inr (1, [.ref bp9])), (bp9, .inl (cI, 1024, .inl (fun _ => 0))), (wt10, .inr (6, [.ref wo11, .int 0])), (wo11, .inl (cJ, 256, .inr (.inl (fun _ => 0)))), (tt12, .inr (5, [.ref b13, .ref b15, .ref b17])), (b13, .inr (0, [.ref b1l14, .int 0])), (b1l14, .inl (cJ, 128, .inr (.inl (fun _ => 0)))), (b15, .inr (0, [.ref b2l16, .int 0])), (b2l16, .inl (cJ, 128, .inr (.inl (fun _ => 0)))), (b17, .inr (0, [.ref b3l18, .int 0])), (b3l18, .inl (cJ, 128, .inr (.inl (fun _ => 0)))), (lh19, .inr (3, [.ref hf20, .int 0])), (hf20, .inl (cI, 64, .inl (fun _ => 0))), (la21, .inr (4, [.ref lw22])), (lw22, .inl (cI, 256, .inl (fun _ => 0))), (q23, .inr (8, [.int 0, .ref a24, .ref a25, .ref a26, .long 0, .long 1, .ref a27, .ref a28, .ref a29, .ref a30, .ref a31, .ref a32, .ref a33, .ref a34, .ref a35, .ref a36, .ref a37])), (a24, .inl (cZ, 8, .inl (fun _ => 0))), (a25, .inl (cI, 8, .inl (fun _ => 0))), (a26, .inl (cI, 1024, .inl (fun _ => 0))), (a27, .inl (cI, 8, .inl (fun _ => 0))), (a28, .inl (cI, 9, .inl (fun _ => 0))), (a29, .inl (cZ, 256, .inl (fun _ => 0))), (a30, .inl (cJ, 200, .inr (.inl (fun _ => 0)))), (a31, .inl (cJ, 200, .inr (.inl (fun _ => 0)))), (a32, .inl (cJ, 200, .inr (.inl (fun _ => 0)))), (a33, .inl (cI, 8, .inl (fun _ => 0))), (a34, .inl (cI, 9, .inl (fun _ => 0))), (a35, .inl (cI, 8, .inl (fun _ => 0))), (a36, .inl (cZ, 64, .inl (fun _ => 0))), (a37, .inl (cI, 8, .inl (fun _ => 0)))] := hD
  refine W.widen (k := 37) (n := 4074) (Nat.le_of_ble_eq_true rfl) (Nat.le_of_ble_eq_true rfl) ?_
  refine lv_astore_n (lv' := [(2, .ref q23), (1, .ref q1), (0, .ref b)]) hx hb dL_law_15 rfl hl (by decide) rfl (fun ls hl => ?_)
  refine lv_iconst (v := 0) hx hb dL_law_16 (by decide +kernel) ?_
  refine lv_istore_n (lv' := [(3, .int 0), (2, .ref q23), (1, .ref q1), (0, .ref b)]) hx hb dL_law_17 rfl hl (by decide) rfl (fun ls hl => ?_)
  refine mz_loopU (fun k H locs ls => ∃ (cc n : Nat), cc ≤ L + 6 ∧ mz_St (dC, dI) cI cJ cZ A q1 dr2 dp3 dc4 th5 tp6 tc7 bk8 bp9 wt10 wo11 tt12 b13 b1l14 b15 b2l16 b17 b3l18 lh19 hf20 la21 lw22 q23 a24 a25 a26 a27 a28 a29 a30 a31 a32 a33 a34 a35 a36 a37 n H ∧ va_S A s.heap H locs ∧ lv_has ls 4 [(3, .int (nI cc)), (2, .ref q23), (1, .ref q1), (0, .ref b)] ∧ k = L + 12 - cc) ?_ _ _ _ _ ⟨0, 0, by omega, ⟨0, 0, 1, 0, 0, 0, 0, 0, 0, 0, 1, (fun _ => 0), (fun _ => 0), (fun _ => 0), (fun _ => 0), (fun _ => 0), (fun _ => 0), (fun _ => 0), (fun _ => 0), (fun _ => 0), (fun _ => 0), (fun _ => 0), (fun _ => 0), (fun _ => 0), (fun _ => 0), (fun _ => 0), (fun _ => 0), (fun _ => 0), (fun _ => 0), (fun _ => 0), (fun _ => 0), (fun _ => 0), (fun _ => 0), (fun _ => 0), (fun _ => 0), (fun _ => 0), ⟨by omega, by omega, by omega, by omega, mz_acy_0, mz_bl_0, mz_rel_0, mz_z8_0, mz_sn_0, mz_be_0, rfl, rfl, mz_bo_0⟩, hP, hD⟩, hS, lv_sub hl [0, 1, 2, 3] rfl, rfl⟩
  intro k_18 H locs ls hI_18 ih_18
  obtain ⟨cc, n, hcc, hst, hS, hl, hk_18⟩ := hI_18
  refine lv_iload_n hx hb dL_law_18 rfl (lv_at hl 0 rfl) ?_
  refine lv_aload_n hx hb dL_law_19 rfl (lv_at hl 3 rfl) ?_
  refine va_slen hx hb hX hbl hbA hS dL_law_20 ?_
  refine lv_bipush (v := 6) hx hb dL_law_21 (by decide +kernel) ?_
  refine lv_isub hx hb dL_law_23 ?_
  refine lv_icmp_gt (tgt := 857) hx hb dL_law_24 (by decide) (fun _ => ?_) (fun c_24 => ?_)
  · exact mz_out C0 hA2 hS
  have hcL : cc + 6 ≤ L := mz_test hL hcc c_24
  refine lv_aload_n hx hb dL_law_27 rfl (lv_at hl 3 rfl) ?_
  refine lv_iload_n hx hb dL_law_28 rfl (lv_at hl 0 rfl) ?_
  refine va_sld hx hb hX hbl hbA hS (vp_in_nI (by omega) (by omega)) dL_law_29 ?_
  refine lv_bipush (v := 31) hx hb dL_law_30 (by decide +kernel) ?_
  refine lv_iand hx hb dL_law_32 ?_
  refine lv_topi (fun x0 ex0 => ?_)
  obtain ⟨j, hj, ej⟩ := pk_andE (xs (nI cc).toNatClampNeg) (m := 31) 5 (by decide +kernel)
  rw [ej] at ex0
  subst ex0
  have hnext : ∀ (n' : Nat) (H' : Heap) (locs' : List Loc) (ls' : Array Slot), mz_St (dC, dI) cI cJ cZ A q1 dr2 dp3 dc4 th5 tp6 tc7 bk8 bp9 wt10 wo11 tt12 b13 b1l14 b15 b2l16 b17 b3l18 lh19 hf20 la21 lw22 q23 a24 a25 a26 a27 a28 a29 a30 a31 a32 a33 a34 a35 a36 a37 n' H' → va_S A s.heap H' locs' → lv_has ls' 4 [(3, .int (nI cc)), (2, .ref q23), (1, .ref q1), (0, .ref b)] → W p l e room_1 s m #[Value.ref b] below meth c H' locs' 37 4074 (lw_Z below #[Value.ref b] s) (F0 m 851 ls' []) := by
    intro n' H' locs' ls' hst' hS' hl'
    refine lv_iinc (v := (nI (cc + 6))) (lv' := [(3, .int (nI (cc + 6))), (2, .ref q23), (1, .ref q1), (0, .ref b)]) hx hb dL_law_851 hl' (k := 0) rfl (mz_i6 cc) (by decide) rfl (fun ls hl => ?_)
    refine lv_goto (tgt := 18) hx hb dL_law_854 (by decide) ?_
    exact ih_18 _ (by omega) _ _ _ ⟨cc + 6, n', by omega, hst', hS', hl, rfl⟩
  rcases (show j = 0 ∨ j = 1 ∨ j = 2 ∨ j = 3 ∨ j = 4 ∨ j = 5 ∨ j = 6 ∨ j = 7 ∨ j = 8 ∨ j = 9 ∨ j = 10 ∨ j = 11 ∨ j = 12 ∨ j = 13 ∨ j = 14 ∨ j = 15 ∨ j = 16 ∨ j = 17 ∨ j = 18 ∨ j = 19 ∨ j = 20 ∨ 21 ≤ j by omega) with rfl | rfl | rfl | rfl | rfl | rfl | rfl | rfl | rfl | rfl | rfl | rfl | rfl | rfl | rfl | rfl | rfl | rfl | rfl | rfl | rfl | h21
  · refine lv_tableIn (tgt := 132) (off := 99) hx hb dL_law_33 (by decide +kernel) (by decide +kernel) (by decide +kernel) (by decide) ?_
    exact mz_case0 C0 hA hA2 hN hK hL hcL hst hS hl hnext
  · refine lv_tableIn (tgt := 171) (off := 138) hx hb dL_law_33 (by decide +kernel) (by decide +kernel) (by decide +kernel) (by decide) ?_
    exact mz_case1 C0 hA hA2 hN hK hL hcL hst hS hl hnext
  · refine lv_tableIn (tgt := 204) (off := 171) hx hb dL_law_33 (by decide +kernel) (by decide +kernel) (by decide +kernel) (by decide) ?_
    exact mz_case2 C0 hA hA2 hN hK hL hcL hst hS hl hnext
  · refine lv_tableIn (tgt := 237) (off := 204) hx hb dL_law_33 (by decide +kernel) (by decide +kernel) (by decide +kernel) (by decide) ?_
    exact mz_case3 C0 hA hA2 hN hK hL hcL hst hS hl hnext
  · refine lv_tableIn (tgt := 270) (off := 237) hx hb dL_law_33 (by decide +kernel) (by decide +kernel) (by decide +kernel) (by decide) ?_
    exact mz_case4 C0 hA hA2 hN hK hL hcL hst hS hl hnext
  · refine lv_tableIn (tgt := 313) (off := 280) hx hb dL_law_33 (by decide +kernel) (by decide +kernel) (by decide +kernel) (by decide) ?_
    exact mz_case5 C0 hA hA2 hN hK hL hcL hst hS hl hnext
  · refine lv_tableIn (tgt := 346) (off := 313) hx hb dL_law_33 (by decide +kernel) (by decide +kernel) (by decide +kernel) (by decide) ?_
    exact mz_case6 C0 hA hA2 hN hK hL hcL hst hS hl hnext
  · refine lv_tableIn (tgt := 379) (off := 346) hx hb dL_law_33 (by decide +kernel) (by decide +kernel) (by decide +kernel) (by decide) ?_
    exact mz_case7 C0 hA hA2 hN hK hL hcL hst hS hl hnext
  · refine lv_tableIn (tgt := 412) (off := 379) hx hb dL_law_33 (by decide +kernel) (by decide +kernel) (by decide +kernel) (by decide) ?_
    exact mz_case8 C0 hA hA2 hN hK hL hcL hst hS hl hnext
  · refine lv_tableIn (tgt := 455) (off := 422) hx hb dL_law_33 (by decide +kernel) (by decide +kernel) (by decide +kernel) (by decide) ?_
    exact mz_case9 C0 hA hA2 hN hK hL hcL hst hS hl hnext
  · refine lv_tableIn (tgt := 468) (off := 435) hx hb dL_law_33 (by decide +kernel) (by decide +kernel) (by decide +kernel) (by decide) ?_
    exact mz_case10 C0 hA hA2 hN hK hL hcL hst hS hl hnext
  · refine lv_tableIn (tgt := 481) (off := 448) hx hb dL_law_33 (by decide +kernel) (by decide +kernel) (by decide +kernel) (by decide) ?_
    exact mz_case11 C0 hA hA2 hN hK hL hcL hst hS hl hnext
  · refine lv_tableIn (tgt := 524) (off := 491) hx hb dL_law_33 (by decide +kernel) (by decide +kernel) (by decide +kernel) (by decide) ?_
    exact mz_case12 C0 hA hA2 hN hK hL hcL hst hS hl hnext
  · refine lv_tableIn (tgt := 557) (off := 524) hx hb dL_law_33 (by decide +kernel) (by decide +kernel) (by decide +kernel) (by decide) ?_
    exact mz_case13 C0 hA hA2 hN hK hL hcL hst hS hl hnext
  · refine lv_tableIn (tgt := 600) (off := 567) hx hb dL_law_33 (by decide +kernel) (by decide +kernel) (by decide +kernel) (by decide) ?_
    exact mz_case14 C0 hA hA2 hN hK hL hcL hst hS hl hnext
  · refine lv_tableIn (tgt := 643) (off := 610) hx hb dL_law_33 (by decide +kernel) (by decide +kernel) (by decide +kernel) (by decide) ?_
    exact mz_case15 C0 hA hA2 hN hK hL hcL hst hS hl hnext
  · refine lv_tableIn (tgt := 706) (off := 673) hx hb dL_law_33 (by decide +kernel) (by decide +kernel) (by decide +kernel) (by decide) ?_
    exact mz_case16 C0 hA hA2 hN hK hL hcL hst hS hl hnext
  · refine lv_tableIn (tgt := 719) (off := 686) hx hb dL_law_33 (by decide +kernel) (by decide +kernel) (by decide +kernel) (by decide) ?_
    exact mz_case17 C0 hA hA2 hN hK hL hcL hst hS hl hnext
  · refine lv_tableIn (tgt := 752) (off := 719) hx hb dL_law_33 (by decide +kernel) (by decide +kernel) (by decide +kernel) (by decide) ?_
    exact mz_case18 C0 hA hA2 hN hK hL hcL hst hS hl hnext
  · refine lv_tableIn (tgt := 795) (off := 762) hx hb dL_law_33 (by decide +kernel) (by decide +kernel) (by decide +kernel) (by decide) ?_
    exact mz_case19 C0 hA hA2 hN hK hL hcL hst hS hl hnext
  · refine lv_tableIn (tgt := 828) (off := 795) hx hb dL_law_33 (by decide +kernel) (by decide +kernel) (by decide +kernel) (by decide) ?_
    exact mz_case20 C0 hA hA2 hN hK hL hcL hst hS hl hnext
  · refine lv_tableOut (tgt := 851) hx hb dL_law_33 (Or.inr (by rw [nI_toInt (by omega)]; omega)) (by decide) ?_
    exact hnext n _ _ _ hst hS hl
