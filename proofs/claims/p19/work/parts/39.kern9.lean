/-! weights: the parts of a heap, numbers built of bits, sums and products -/
def mz_bn (P : Nat → Bool) : Nat → Nat
  | 0 => 0
  | k + 1 => mz_bn P k + (if P k = true then 2 ^ k else 0)
theorem mz_bn_lt (P : Nat → Bool) (k : Nat) : mz_bn P k < 2 ^ k := by
  induction k with
  | zero => exact Nat.one_pos
  | succ k ih =>
    show mz_bn P k + _ < _
    rw [Nat.pow_succ]
    split <;> omega
theorem mz_bn_t (P : Nat → Bool) (k j : Nat) : (mz_bn P k).testBit j = (decide (j < k) && P j) := by
  induction k with
  | zero =>
    show (0 : Nat).testBit j = _
    simp
  | succ k ih =>
    have hl := mz_bn_lt P k
    show (mz_bn P k + _).testBit j = _
    rcases Nat.lt_trichotomy j k with h | h | h
    · have e : (mz_bn P k + (if P k = true then 2 ^ k else 0)).testBit j = (mz_bn P k).testBit j := by
        split
        · rw [Nat.add_comm]
          exact Nat.testBit_two_pow_add_gt h _
        · rw [Nat.add_zero]
      rw [e, ih]
      simp [h, show j < k + 1 by omega]
    · subst h
      have z : (mz_bn P j).testBit j = false := Nat.testBit_lt_two_pow hl
      by_cases c : P j = true
      · rw [if_pos c, Nat.add_comm, Nat.testBit_two_pow_add_eq, z, c]
        simp
      · rw [if_neg c, Nat.add_zero, z]
        have c2 : P j = false := by
          cases e : P j
          · rfl
          · exact absurd e c
        rw [c2]
        simp
    · have h2 : mz_bn P k + (if P k = true then 2 ^ k else 0) < 2 ^ j := by
        have h3 : 2 ^ (k + 1) ≤ 2 ^ j := Nat.pow_le_pow_right (by decide) h
        rw [Nat.pow_succ] at h3
        split <;> omega
      rw [Nat.testBit_lt_two_pow h2]
      simp [show ¬ j < k + 1 by omega]
theorem mz_bn_cg {P Q : Nat → Bool} (k : Nat) (h : ∀ j, j < k → P j = Q j) : mz_bn P k = mz_bn Q k := by
  induction k with
  | zero => rfl
  | succ k ih =>
    show mz_bn P k + _ = mz_bn Q k + _
    rw [ih (fun j hj => h j (by omega)), h k (by omega)]
/-- bit j of the i-th part of a heap -/
def mz_db (h : Int32) (i j : Nat) : Bool := mz_t h j && i.testBit (mz_pc h j)
/-- the i-th part of a heap -/
def mz_dp (h : Int32) (i : Nat) : Nat := mz_bn (mz_db h i) 8
theorem mz_dp_lt (h : Int32) (i : Nat) : mz_dp h i < 256 := mz_bn_lt _ 8
theorem mz_nxt256 : ∀ a : Nat, a < 256 → ∀ i : Nat, i < 2 ^ (mz_pc (nI a) 8) → (nI (mz_dp (nI a) i) - nI a) &&& nI a = nI (mz_dp (nI a) (i + 1)) := by decide +kernel
theorem mz_sur256 : ∀ a : Nat, a < 256 → ∀ c : Nat, c < 256 → c &&& a = c → mz_dp (nI a) (mz_rw (nI a) (nI c) 8) = c := by decide +kernel
theorem mz_inj256 : ∀ a : Nat, a < 256 → ∀ i : Nat, i < 2 ^ (mz_pc (nI a) 8) → mz_rw (nI a) (nI (mz_dp (nI a) i)) 8 = i := by decide +kernel
theorem mz_add256 : ∀ t : Nat, t < 8 → ∀ x : Nat, x < 256 → x.testBit t = false → (nI x ||| ((1 : Int32) <<< (nI t &&& 31))) &&& 255 = nI (x + 2 ^ t) ∧ x + 2 ^ t < 256 := by decide +kernel
theorem mz_a255 : ∀ x : Nat, x < 256 → nI x &&& 255 = nI x := by decide +kernel
theorem mz_pl256 : ∀ t : Nat, t < 8 → ∀ x : Nat, x < 256 → x.testBit t = false → (x + 2 ^ t).testBit t = true := by decide +kernel
theorem mz_ma256 : ∀ t : Nat, t < 8 → ∀ c : Nat, c < 256 → c.testBit t = true → c - 2 ^ t < 256 ∧ c = c - 2 ^ t + 2 ^ t ∧ (c - 2 ^ t).testBit t = false := by decide +kernel
theorem mz_mc256 : ∀ t : Nat, t < 8 → ∀ x : Nat, x < 2048 → (x / 8).testBit t = true → ¬ x % 8 = t → (x / 8 - 2 ^ t).testBit (x % 8) = (x / 8).testBit (x % 8) := by decide +kernel
theorem mz_mb256 (t : Nat) (ht : t < 8) (c : Nat) (hc : c < 256) (j : Nat) (hj : j < 8) (h : c.testBit t = true) (hne : ¬ j = t) : (c - 2 ^ t).testBit j = c.testBit j := by
  have h1 := mz_mc256 t ht (8 * c + j) (by omega)
  rw [show (8 * c + j) / 8 = c by omega, show (8 * c + j) % 8 = j by omega] at h1
  exact h1 h hne
