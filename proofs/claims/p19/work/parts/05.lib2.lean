/-! rows for states of any kind: loops by a measure, facts of ints -/
section MzU
variable {p : Program} {l : Launch} {e : Env} {R : Room} {s : State} {m : MethodId} {args : Array Value} {below : List Frame} {meth : Method} {c : Code} {cells slots : Nat} {Q : State → Prop} {pc : Nat}
theorem mz_loopU (I : Nat → Heap → List Loc → Array Slot → Prop)
    (hstep : ∀ (k : Nat) (H : Heap) (locs : List Loc) (ls : Array Slot), I k H locs ls → (∀ k' : Nat, k' < k → ∀ (H' : Heap) (locs' : List Loc) (ls' : Array Slot), I k' H' locs' ls' → W p l e R s m args below meth c H' locs' cells slots Q (F0 m pc ls' [])) → W p l e R s m args below meth c H locs cells slots Q (F0 m pc ls [])) :
    ∀ (k : Nat) (H : Heap) (locs : List Loc) (ls : Array Slot), I k H locs ls → W p l e R s m args below meth c H locs cells slots Q (F0 m pc ls []) := by
  intro k
  induction k using Nat.strongRecOn with
  | _ k ih =>
    intro H locs ls h
    exact hstep k H locs ls h (fun k' hk H' locs' ls' h' => ih k' hk H' locs' ls' h')
end MzU
theorem mz_lc0 {x y : Int64} (h : ¬ lg_cmp x y = 0) : ¬ x = y := by
  intro e
  subst e
  exact h (by simp [lg_cmp])
theorem mz_lc1 {x y : Int64} (h : lg_cmp x y = 0) : x = y := by
  by_cases e : x = y
  · exact e
  · exfalso
    by_cases g : x > y
    · simp [lg_cmp, g] at h
    · simp [lg_cmp, g, e] at h
theorem mz_nzo {v : Int32} (h : v = 0 ∨ v = 1) : narrow .boolean (.int v) = .int v := by
  rcases h with rfl | rfl <;> rfl
theorem mz_cl {n : Nat} (h : n < 2 ^ 31) : (nI n).toNatClampNeg = n := nI_clamp h
theorem mz_ix {x : Int32} {n : Nat} (h0 : ¬ x < 0) (h1 : ¬ nI n ≤ x) (hn : n < 2 ^ 31) : ∃ j : Nat, j < n ∧ x = nI j := by
  rcases pk_ix x hn with h | h | h
  · exact absurd h h0
  · exact absurd h h1
  · exact h
theorem mz_mx1 (y : Int64) : ¬ (if y < 1 then 1 else y) = (0 : Int64) := by
  by_cases h : y < 1
  · rw [if_pos h]
    decide
  · rw [if_neg h]
    intro e
    subst e
    exact h (by decide)
theorem mz_sw2 {x : Int32} (h0 : ¬ x = 0) (h1 : ¬ x = 1) (h2 : ¬ x = 2) : x.toInt < 0 ∨ 2 < x.toInt := mz_sw h0 h1 h2
theorem mz_sw3 {x : Int32} (h0 : ¬ x = 0) (h1 : ¬ x = 1) (h2 : ¬ x = 2) (h3 : ¬ x = 3) : x.toInt < 0 ∨ 3 < x.toInt := by
  rcases mz_sw h0 h1 h2 with h | h
  · exact Or.inl h
  · rw [← Int32.toInt_inj] at h3
    have e3 : (3 : Int32).toInt = 3 := rfl
    rw [e3] at h3
    omega
theorem mz_dec {x B : Int32} (h : ¬ B ≤ x) : (B.toInt - (x + Int32.ofInt 1).toInt).toNat < (B.toInt - x.toInt).toNat := by
  rw [Int32.le_iff_toInt_le] at h
  have h1 := Int32.toInt_le B
  have h2 := Int32.le_toInt x
  have h3 := Int32.le_toInt B
  have h4 := Int32.toInt_le x
  rw [show Int32.maxValue.toInt = 2147483647 from rfl] at h1 h4
  rw [Int32.toInt_add]
  have e1 : (Int32.ofInt 1).toInt = 1 := rfl
  rw [e1]
  have : (x.toInt + 1).bmod (2 ^ 32) = x.toInt + 1 := by
    rw [Int.bmod_def]
    split <;> omega
  rw [this]
  omega
theorem mz_max {a b : Nat} (ha : a < 2 ^ 31) (hb : b < 2 ^ 31) : (if nI a < nI b then nI b else nI a) = nI (max a b) := by
  by_cases h : a < b
  · rw [if_pos ((nI_ltI ha hb).mpr h), Nat.max_eq_right (Nat.le_of_lt h)]
  · rw [if_neg (fun q => h ((nI_ltI ha hb).mp q)), Nat.max_eq_left (by omega)]
theorem mz_in2 {x : Int32} {n j : Nat} (h : x = nI j) (hj : j < n) (hn : n < 2 ^ 31) : vp_in x n := by
  rw [h]
  exact vp_in_nI hj hn
theorem mz_pl2 {x y : Int32} (h0 : ¬ x < 0) (h1 : ¬ 8 ≤ x) (h2 : ¬ y < 0) (h3 : ¬ 128 ≤ y) : ∃ i j : Nat, i < 8 ∧ j < 128 ∧ x = nI i ∧ y = nI j := by
  obtain ⟨i, hi, ei⟩ := mz_ix (n := 8) h0 h1 (by decide)
  obtain ⟨j, hj, ej⟩ := mz_ix (n := 128) h2 h3 (by decide)
  exact ⟨i, j, hi, hj, ei, ej⟩
theorem mz_inr {x : Int32} {n : Nat} (h0 : ¬ x < 0) (h1 : ¬ nI n ≤ x) (hn : n < 2 ^ 31) : vp_in x n := by
  obtain ⟨j, hj, rfl⟩ := mz_ix h0 h1 hn
  exact vp_in_nI hj hn
theorem mz_min {a b : Nat} (ha : a < 2 ^ 31) (hb : b < 2 ^ 31) : (if nI b < nI a then nI b else nI a) = nI (min a b) := by
  by_cases h : b < a
  · rw [if_pos ((nI_ltI hb ha).mpr h), Nat.min_eq_right (Nat.le_of_lt h)]
  · rw [if_neg (fun q => h ((nI_ltI hb ha).mp q)), Nat.min_eq_left (by omega)]
theorem mz_pred {j : Nat} {v : Int32} (hj : j < 128) (hv : v = nI j + Int32.ofInt (-1)) : v = -1 ∨ ∃ i : Nat, i < 128 ∧ v = nI i := by
  cases j with
  | zero => exact Or.inl (by rw [hv]; decide)
  | succ j => exact Or.inr ⟨j, by omega, by rw [hv]; exact pk_m1 j⟩
theorem mz_preds {j : Nat} {v : Int32} (hj : j < 128) (hv : v = nI j + Int32.ofInt (-1)) : (v.toInt + 1).toNat < ((nI j).toInt + 1).toNat := by
  cases j with
  | zero => rw [hv]; decide
  | succ j =>
    rw [show v = nI j by rw [hv]; exact pk_m1 j, nI_toInt (by omega), nI_toInt (by omega)]
    omega
theorem mz_sub1 {u : Nat} {v : Int32} (hu : u ≤ 128) (hv : v = nI u - 1) : v = -1 ∨ ∃ i : Nat, i < 128 ∧ v = nI i := by
  cases u with
  | zero => exact Or.inl (by rw [hv]; decide)
  | succ u => exact Or.inr ⟨u, by omega, by rw [hv]; exact nI_pred u⟩
theorem mz_ne1 {n : Nat} (h : n < 2 ^ 31) : ¬ nI n = -1 := by
  intro e
  have h1 := nI_toInt h
  rw [e] at h1
  have h2 : (-1 : Int32).toInt = -1 := rfl
  rw [h2] at h1
  omega
