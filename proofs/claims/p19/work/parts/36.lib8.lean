/-! settings, the rows of books, what is drawn -/
theorem mz_t_shr {x : Int32} {k j : Nat} (hk : k < 32) (h : k + j < 32) : mz_t (x >>> (nI k &&& 31)) j = mz_t x (k + j) := by
  unfold mz_t
  rw [Int32.toBitVec_shiftRight]
  show (BitVec.sshiftRight x.toBitVec ((nI k &&& 31 : Int32).toBitVec.smod 32).toNat).getLsbD j = _
  rw [mz_amt hk, BitVec.getLsbD_sshiftRight]
  simp [h, show ¬ 32 ≤ j by omega]
theorem mz_t_nI {a j : Nat} (ha : a < 2 ^ 32) : mz_t (nI a) j = a.testBit j := by
  have h1 : (nI a).toBitVec = BitVec.ofNat 32 a := rfl
  unfold mz_t
  rw [h1, BitVec.getLsbD_ofNat]
  by_cases h : j < 32
  · simp [h]
  · have h2 : a < 2 ^ j := Nat.lt_of_lt_of_le ha (Nat.pow_le_pow_right (by decide) (by omega))
    rw [Nat.testBit_lt_two_pow h2]
    simp
theorem mz_t_255 {j : Nat} (hj : j < 32) : mz_t 255 j = decide (j < 8) := by
  have h1 : ∀ k : Nat, k < 32 → (255 : Int32).toBitVec.getLsbD k = decide (k < 8) := by decide +kernel
  exact h1 j hj
theorem mz_t_all {n j : Nat} (hn : n ≤ 8) (hj : j < 32) : mz_t (nI (2 ^ n - 1)) j = decide (j < n) := by
  have h5 : ∀ m : Nat, m ≤ 8 → ∀ j : Nat, j < 32 → (nI (2 ^ m - 1)).toBitVec.getLsbD j = decide (j < m) := by decide +kernel
  exact h5 n hn j hj
theorem mz_evy {n : Nat} (hn : n ≤ 8) : ((1 : Int32) <<< (nI n &&& 31)) - 1 = nI (2 ^ n - 1) := by
  have h1 : ∀ m : Nat, m ≤ 8 → ((1 : Int32) <<< (nI m &&& 31)) - 1 = nI (2 ^ m - 1) := by decide +kernel
  exact h1 n hn
theorem mz_lt_of_t {x k : Nat} (h : ∀ i, k ≤ i → x.testBit i = false) : x < 2 ^ k := Nat.lt_pow_two_of_testBit x (fun i hi => h i hi)
/-- a heap of things there are -/
def mz_hp (n : Nat) (h : Int32) : Prop := ∀ j, j < 32 → mz_t h j = true → j < n
theorem mz_hp_y {n : Nat} {x : Int32} (hn : n ≤ 8) (h : x &&& ((nI (2 ^ n - 1)) ^^^ (-1)) = 0) : mz_hp n x := by
  intro j hj hx
  have h1 : mz_t (nI (2 ^ n - 1)) j = true := mz_sub.mp h j hj hx
  rw [mz_t_all hn hj] at h1
  simpa using h1
theorem mz_hp_n {n : Nat} {x : Int32} (hn : n ≤ 8) (h : ¬ x &&& ((nI (2 ^ n - 1)) ^^^ (-1)) = 0) : ¬ mz_hp n x := by
  intro q
  apply h
  apply mz_sub.mpr
  intro i hi hx
  have h1 : mz_t (nI (2 ^ n - 1)) i = true := by
    rw [mz_t_all hn hi]
    simpa using q i hi hx
  exact h1
theorem mz_hp_a {n : Nat} {x : Int32} (hn : n ≤ 8) (h : mz_hp n x) : ∃ a : Nat, a < 2 ^ n ∧ x = nI a := by
  obtain ⟨a, ha, rfl⟩ := mz_256 (fun j hj hx => Nat.lt_of_lt_of_le (h j hj hx) hn)
  refine ⟨a, mz_lt_of_t (fun i hi => ?_), rfl⟩
  cases e : a.testBit i
  · rfl
  · by_cases h32 : i < 32
    · have h1 := h i h32 (by rw [mz_t_nI (by omega)]; exact e)
      omega
    · rw [Nat.testBit_lt_two_pow (Nat.lt_of_lt_of_le ha (by
        have : 2 ^ 8 ≤ 2 ^ i := Nat.pow_le_pow_right (by decide) (by omega)
        exact this))] at e
      cases e
theorem mz_hp_of {n a : Nat} (hn : n ≤ 8) (h : a < 2 ^ n) : mz_hp n (nI a) := by
  intro j hj hx
  have h256 := mz_2n hn
  rw [mz_t_nI (by omega)] at hx
  rcases Nat.lt_or_ge j n with q | q
  · exact q
  · rw [Nat.testBit_lt_two_pow (Nat.lt_of_lt_of_le h (Nat.pow_le_pow_right (by decide) q))] at hx
    cases hx
theorem mz_hpm_y {n : Nat} {x : Int32} (hn : n ≤ 8) (h0 : ¬ x < 0) (h1 : ¬ (1 : Int32) <<< (nI n &&& 31) ≤ x) : mz_hp n x := by
  obtain ⟨a, ha, rfl⟩ := mz_outS hn h0 h1
  exact mz_hp_of hn ha
theorem mz_hpm_n0 {n : Nat} {x : Int32} (hn : n ≤ 8) (h0 : x < 0) : ¬ mz_hp n x := by
  intro q
  obtain ⟨a, ha, rfl⟩ := mz_hp_a hn q
  have := mz_2n hn
  exact nI_pos (by omega) h0
theorem mz_hpm_n1 {n : Nat} {x : Int32} (hn : n ≤ 8) (h0 : (1 : Int32) <<< (nI n &&& 31) ≤ x) : ¬ mz_hp n x := by
  intro q
  obtain ⟨a, ha, rfl⟩ := mz_hp_a hn q
  exact mz_ltS ha hn h0
/-- a setting: nothing above 16 bits, its heap among the things there are, its ones in its heap -/
def mz_stg (n : Nat) (s : Int32) : Prop := (∀ j, 16 ≤ j → j < 32 → mz_t s j = false) ∧ (∀ j, j < 8 → mz_t s j = true → j < n) ∧ (∀ j, j < 8 → mz_t s (8 + j) = true → mz_t s j = true)
theorem mz_hi16 {s v : Int32} (e : v = (s.toUInt32 >>> (Int32.toUInt32 16 &&& Int32.toUInt32 31)).toInt32) : v = 0 ↔ ∀ j, 16 ≤ j → j < 32 → mz_t s j = false := by
  have h1 := pk_ushr s 16 16 (by decide)
  rw [← e] at h1
  constructor
  · intro h j hj hj2
    rw [h] at h1
    have h0 : (0 : Int32).toBitVec.toNat = 0 := by decide
    rw [h0] at h1
    have h2 : s.toBitVec.toNat < 2 ^ j := Nat.lt_of_lt_of_le (show s.toBitVec.toNat < 2 ^ 16 by omega) (Nat.pow_le_pow_right (by decide) hj)
    have h3 : s.toBitVec.toNat.testBit j = false := Nat.testBit_lt_two_pow h2
    exact h3
  · intro h
    have h2 : s.toBitVec.toNat < 2 ^ 16 := mz_lt_of_t (fun i hi => by
      by_cases h32 : i < 32
      · exact h i hi h32
      · exact Nat.testBit_lt_two_pow (Nat.lt_of_lt_of_le s.toBitVec.isLt (Nat.pow_le_pow_right (by decide) (by omega))))
    apply Int32.toBitVec_inj.mp
    apply BitVec.eq_of_toNat_eq
    rw [h1]
    show _ = 0
    omega
theorem mz_t_heap {s : Int32} {j : Nat} (hj : j < 8) : mz_t (s &&& 255) j = mz_t s j := by
  rw [mz_t_and, mz_t_255 (by omega)]
  simp [hj]
theorem mz_t_ones {s : Int32} {j : Nat} (hj : j < 8) : mz_t ((s >>> ((8 : Int32) &&& 31)) &&& 255) j = mz_t s (8 + j) := by
  rw [mz_t_and, mz_t_255 (by omega)]
  have h1 : mz_t (s >>> ((8 : Int32) &&& 31)) j = mz_t s (8 + j) := mz_t_shr (k := 8) (by decide) (by omega)
  rw [h1]
  simp [hj]
theorem mz_set_y {n : Nat} {s v : Int32} (e : v = (s.toUInt32 >>> (Int32.toUInt32 16 &&& Int32.toUInt32 31)).toInt32) (h1 : v = 0) (h2 : mz_hp n (s &&& 255)) (h3 : ((s >>> ((8 : Int32) &&& 31)) &&& 255) &&& ((s &&& 255) ^^^ (-1)) = 0) : mz_stg n s := by
  refine ⟨(mz_hi16 e).mp h1, fun j hj hx => h2 j (by omega) (by rw [mz_t_heap hj]; exact hx), fun j hj hx => ?_⟩
  have h4 : mz_t (s &&& 255) j = true := mz_sub.mp h3 j (by omega) (by
    have h5 := mz_t_ones (s := s) hj
    rw [hx] at h5
    exact h5)
  rw [mz_t_heap hj] at h4
  exact h4
theorem mz_set_n1 {n : Nat} {s v : Int32} (e : v = (s.toUInt32 >>> (Int32.toUInt32 16 &&& Int32.toUInt32 31)).toInt32) (h1 : ¬ v = 0) : ¬ mz_stg n s := fun q => h1 ((mz_hi16 e).mpr q.1)
theorem mz_t_and8 {s : Int32} {j : Nat} (hj : j < 32) (h : mz_t (s &&& 255) j = true) : j < 8 := by
  rw [mz_t_and, mz_t_255 hj, Bool.and_eq_true] at h
  simpa using h.2
theorem mz_set_hp {n : Nat} {s : Int32} (h : mz_stg n s) : mz_hp n (s &&& 255) := by
  intro j hj hx
  have h8 := mz_t_and8 hj hx
  rw [mz_t_heap h8] at hx
  exact h.2.1 j h8 hx
theorem mz_set_n2 {n : Nat} {s : Int32} (h1 : ¬ mz_hp n (s &&& 255)) : ¬ mz_stg n s := fun q => h1 (mz_set_hp q)
theorem mz_set_n3 {n : Nat} {s : Int32} (h1 : ¬ ((s >>> ((8 : Int32) &&& 31)) &&& 255) &&& ((s &&& 255) ^^^ (-1)) = 0) : ¬ mz_stg n s := by
  intro q
  apply h1
  apply mz_sub.mpr
  intro i hi hx
  have h8 : i < 8 := mz_t_and8 hi hx
  have h5 : mz_t ((s >>> ((8 : Int32) &&& 31)) &&& 255) i = true := hx
  rw [mz_t_ones h8] at h5
  have h6 := q.2.2 i h8 h5
  rw [← mz_t_heap h8] at h6
  exact h6
theorem mz_set_a {n : Nat} {s : Int32} (h : mz_stg n s) : ∃ a : Nat, a < 65536 ∧ s = nI a := by
  refine ⟨s.toBitVec.toNat, ?_, ?_⟩
  · exact mz_lt_of_t (k := 16) (fun i hi => by
      by_cases h32 : i < 32
      · exact h.1 i hi h32
      · exact Nat.testBit_lt_two_pow (Nat.lt_of_lt_of_le s.toBitVec.isLt (Nat.pow_le_pow_right (by decide) (by omega))))
  · apply Int32.toBitVec_inj.mp
    show s.toBitVec = BitVec.ofNat 32 s.toBitVec.toNat
    rw [BitVec.ofNat_toNat]
    simp
theorem mz_setm_y {n : Nat} {s : Int32} (h0 : ¬ s < 0) (h1 : ¬ (65536 : Int32) ≤ s) (h2 : mz_hp n (s &&& 255)) (h3 : (s >>> ((8 : Int32) &&& 31)) &&& ((s &&& 255) ^^^ (-1)) = 0) : mz_stg n s := by
  obtain ⟨a, ha, rfl⟩ := mz_ix (n := 65536) h0 h1 (by decide)
  refine ⟨fun j hj hj2 => ?_, fun j hj hx => h2 j (by omega) (by rw [mz_t_heap hj]; exact hx), fun j hj hx => ?_⟩
  · rw [mz_t_nI (by omega)]
    exact Nat.testBit_lt_two_pow (Nat.lt_of_lt_of_le (show a < 2 ^ 16 by omega) (Nat.pow_le_pow_right (by decide) hj))
  · have h4 : mz_t (nI a &&& 255) j = true := mz_sub.mp h3 j (by omega) (by
      have h5 : mz_t (nI a >>> ((8 : Int32) &&& 31)) j = mz_t (nI a) (8 + j) := mz_t_shr (k := 8) (by decide) (by omega)
      rw [hx] at h5
      exact h5)
    rw [mz_t_heap hj] at h4
    exact h4
theorem mz_setm_n0 {n : Nat} {s : Int32} (h0 : s < 0) : ¬ mz_stg n s := by
  intro q
  obtain ⟨a, ha, rfl⟩ := mz_set_a q
  exact nI_pos (by omega) h0
theorem mz_setm_n1 {n : Nat} {s : Int32} (h0 : (65536 : Int32) ≤ s) : ¬ mz_stg n s := by
  intro q
  obtain ⟨a, ha, rfl⟩ := mz_set_a q
  have h1 := (nI_leI (a := 65536) (b := a) (by decide) (by omega)).mp h0
  omega
theorem mz_setm_n3 {n : Nat} {s : Int32} (h1 : ¬ (s >>> ((8 : Int32) &&& 31)) &&& ((s &&& 255) ^^^ (-1)) = 0) : ¬ mz_stg n s := by
  intro q
  apply h1
  obtain ⟨a, ha, rfl⟩ := mz_set_a q
  apply mz_sub.mpr
  intro i hi hx
  have e8 : nI a >>> ((8 : Int32) &&& 31) = nI (a / 2 ^ 8) := pk_shrN (by omega) _ 8 (by decide)
  have h5 : mz_t (nI a >>> ((8 : Int32) &&& 31)) i = true := hx
  have h8 : i < 8 := by
    rw [e8, mz_t_nI (by omega)] at h5
    rcases Nat.lt_or_ge i 8 with r | r
    · exact r
    · rw [Nat.testBit_lt_two_pow (Nat.lt_of_lt_of_le (show a / 2 ^ 8 < 2 ^ 8 by omega) (Nat.pow_le_pow_right (by decide) r))] at h5
      cases h5
  rw [show mz_t (nI a >>> ((8 : Int32) &&& 31)) i = mz_t (nI a) (8 + i) from mz_t_shr (k := 8) (by decide) (by omega)] at h5
  have h6 := q.2.2 i h8 h5
  rw [← mz_t_heap h8] at h6
  exact h6
/-- the row of a book: what the parents are, the least first -/
def mz_rw (pa on : Int32) : Nat → Nat
  | 0 => 0
  | k + 1 => mz_rw pa on k + (if mz_t pa k = true ∧ mz_t on k = true then 2 ^ (mz_pc pa k) else 0)
theorem mz_pc_y {pa : Int32} {k : Nat} (h : mz_t pa k = true) : mz_pc pa (k + 1) = mz_pc pa k + 1 := by
  show mz_pc pa k + _ = _
  rw [if_pos h]
theorem mz_pc_n {pa : Int32} {k : Nat} (h : mz_t pa k = false) : mz_pc pa (k + 1) = mz_pc pa k := by
  show mz_pc pa k + _ = _
  rw [if_neg (by rw [h]; decide), Nat.add_zero]
theorem mz_rw_n {pa on : Int32} {k : Nat} (h : mz_t pa k = false) : mz_rw pa on (k + 1) = mz_rw pa on k := by
  show mz_rw pa on k + _ = _
  rw [if_neg (by rw [h]; intro q; cases q.1), Nat.add_zero]
theorem mz_rw_lt (pa on : Int32) (k : Nat) : mz_rw pa on k < 2 ^ (mz_pc pa k) := by
  induction k with
  | zero => exact Nat.one_pos
  | succ k ih =>
    cases h : mz_t pa k
    · rw [mz_rw_n h, mz_pc_n h]
      exact ih
    · rw [mz_pc_y h, Nat.pow_succ]
      show mz_rw pa on k + _ < _
      split <;> omega
theorem mz_rw_7 {pa on : Int32} {t : Nat} (ht : mz_t pa t = false) (k : Nat) (h1 : t < k) (h2 : k ≤ 8) : mz_rw pa on k < 128 := by
  have a := mz_rw_lt pa on k
  have b := mz_pc_ns ht k h1
  have c := mz_p7 (c := mz_pc pa k) (by omega)
  omega
theorem mz_orS : ∀ c : Nat, c ≤ 8 → ∀ q : Nat, q < 2 ^ c → nI q ||| ((1 : Int32) <<< (nI c &&& 31)) = nI (q + 2 ^ c) := by decide +kernel
theorem mz_orZ : ∀ c : Nat, c ≤ 8 → ((0 : Int32) <<< (nI c &&& 31)) = 0 := by decide +kernel
theorem mz_or0 (x : Int32) : x ||| 0 = x := by
  apply mz_t_eq
  intro j hj
  rw [mz_t_or, mz_t_0, Bool.or_false]
theorem mz_rw_s {pa on : Int32} {k : Nat} (hk : k < 8) (h : mz_t pa k = true) : nI (mz_rw pa on k) ||| (((on >>> (nI k &&& 31)) &&& 1) <<< (nI (mz_pc pa k) &&& 31)) = nI (mz_rw pa on (k + 1)) := by
  have hc := mz_pc_le pa k
  show _ = nI (mz_rw pa on k + _)
  cases e : mz_t on k
  · rw [(mz_b0 (show k < 32 by omega)).mpr e, mz_orZ _ (by omega), mz_or0, if_neg (by intro q; cases q.2), Nat.add_zero]
  · rw [(mz_b1 (show k < 32 by omega)).mpr e, if_pos ⟨h, rfl⟩]
    exact mz_orS _ (by omega) _ (mz_rw_lt pa on k)
theorem mz_rw_up {pa on : Int32} {n : Nat} (hn : n ≤ 8) (hb : ∀ q, q < 32 → mz_t pa q = true → q < n) : mz_rw pa on n = mz_rw pa on 8 := by
  have h1 : ∀ d, n + d ≤ 8 → mz_rw pa on (n + d) = mz_rw pa on n := by
    intro d
    induction d with
    | zero => intro _; rfl
    | succ d ih =>
      intro h
      have h2 : mz_t pa (n + d) = false := by
        cases e : mz_t pa (n + d)
        · rfl
        · have := hb (n + d) (by omega) e
          omega
      rw [← ih (by omega)]
      exact mz_rw_n h2
  have h2 := h1 (8 - n) (by omega)
  rw [show n + (8 - n) = 8 by omega] at h2
  exact h2.symm
/-- how many of 100 times a thing is 1, under a deed -/
def mz_pu (fp fb : Nat → Int32) (deed : Int32) (t : Nat) (on : Int32) : Int32 := if mz_t deed t = true then (if mz_t deed (8 + t) = true then 100 else 0) else fb (128 * t + mz_rw (fp t) on 8)
theorem mz_pu_1 {fp fb : Nat → Int32} {deed on : Int32} {t : Nat} (ht : t < 8) (h1 : mz_t (deed &&& 255) t = true) (h2 : mz_t ((deed >>> ((8 : Int32) &&& 31)) &&& 255) t = true) : 100 = mz_pu fp fb deed t on := by
  rw [mz_t_heap ht] at h1
  rw [mz_t_ones ht] at h2
  unfold mz_pu
  rw [if_pos h1, if_pos h2]
theorem mz_pu_0 {fp fb : Nat → Int32} {deed on : Int32} {t : Nat} (ht : t < 8) (h1 : mz_t (deed &&& 255) t = true) (h2 : mz_t ((deed >>> ((8 : Int32) &&& 31)) &&& 255) t = false) : 0 = mz_pu fp fb deed t on := by
  rw [mz_t_heap ht] at h1
  rw [mz_t_ones ht] at h2
  unfold mz_pu
  rw [if_pos h1, if_neg (by rw [h2]; decide)]
theorem mz_pu_b {fp fb : Nat → Int32} {deed on : Int32} {t : Nat} (ht : t < 8) (h1 : mz_t (deed &&& 255) t = false) : fb (128 * t + mz_rw (fp t) on 8) = mz_pu fp fb deed t on := by
  rw [mz_t_heap ht] at h1
  unfold mz_pu
  rw [if_neg (by rw [h1]; decide)]
/-- a thing that has not come, and whose parents all came -/
def mz_ok (fp : Nat → Int32) (came : Int32) (k : Nat) : Bool := !mz_t came k && decide ((fp k) &&& (came ^^^ (-1)) = 0)
/-- the least of them, n where there is none -/
def mz_nk (fp : Nat → Int32) (came : Int32) : Nat → Nat
  | 0 => 0
  | k + 1 => if mz_nk fp came k = k ∧ mz_ok fp came k = false then k + 1 else mz_nk fp came k
theorem mz_nk_eq {fp : Nat → Int32} {came : Int32} {n k : Nat} (hk : k < n) (h1 : mz_ok fp came k = true) (h2 : ∀ q, q < k → mz_ok fp came q = false) : mz_nk fp came n = k := by
  have a : ∀ m, m ≤ k → mz_nk fp came m = m := by
    intro m
    induction m with
    | zero => intro _; rfl
    | succ m ih =>
      intro h
      show (if _ then _ else _) = _
      rw [if_pos ⟨ih (by omega), h2 m (by omega)⟩]
  have b : ∀ d, mz_nk fp came (k + 1 + d) = k := by
    intro d
    induction d with
    | zero =>
      show (if _ then _ else _) = _
      rw [if_neg (by rw [h1]; intro q; cases q.2)]
      exact a k (Nat.le_refl k)
    | succ d ih =>
      show (if mz_nk fp came (k + 1 + d) = k + 1 + d ∧ _ then _ else mz_nk fp came (k + 1 + d)) = _
      rw [if_neg (fun q => by
        have := q.1
        omega)]
      exact ih
  have h := b (n - (k + 1))
  rw [show k + 1 + (n - (k + 1)) = n by omega] at h
  exact h
theorem mz_least {P : Nat → Bool} {n : Nat} (h : ∃ q, q < n ∧ P q = true) : ∃ k, k < n ∧ P k = true ∧ ∀ q, q < k → P q = false := by
  induction n with
  | zero =>
    obtain ⟨q, hq, _⟩ := h
    omega
  | succ n ih =>
    by_cases e : ∃ q, q < n ∧ P q = true
    · obtain ⟨k, a, b, c⟩ := ih e
      exact ⟨k, by omega, b, c⟩
    · obtain ⟨q, hq, hp⟩ := h
      have hqn : q = n := by
        rcases Nat.lt_or_ge q n with r | r
        · exact absurd ⟨q, r, hp⟩ e
        · omega
      subst hqn
      refine ⟨q, by omega, hp, fun r hr => ?_⟩
      cases er : P r
      · rfl
      · exact absurd ⟨r, hr, er⟩ e
theorem mz_nk_ok {fp : Nat → Int32} {came : Int32} {n : Nat} (h : ∃ q, q < n ∧ mz_ok fp came q = true) : mz_nk fp came n < n ∧ mz_ok fp came (mz_nk fp came n) = true := by
  obtain ⟨k, a, b, c⟩ := mz_least h
  rw [mz_nk_eq a b c]
  exact ⟨a, b⟩
theorem mz_ok_y {fp : Nat → Int32} {came : Int32} {k : Nat} (h1 : mz_t came k = false) (h2 : (fp k) &&& (came ^^^ (-1)) = 0) : mz_ok fp came k = true := by
  unfold mz_ok
  rw [h1, decide_eq_true h2]
  rfl
theorem mz_ok_n1 {fp : Nat → Int32} {came : Int32} {k : Nat} (h1 : mz_t came k = true) : mz_ok fp came k = false := by
  unfold mz_ok
  rw [h1]
  rfl
theorem mz_ok_n2 {fp : Nat → Int32} {came : Int32} {k : Nat} (h2 : ¬ (fp k) &&& (came ^^^ (-1)) = 0) : mz_ok fp came k = false := by
  unfold mz_ok
  rw [decide_eq_false h2, Bool.and_false]
theorem mz_ok_ex {fp : Nat → Int32} {came : Int32} {n i : Nat} (ha : mz_acy n fp) (hn : n ≤ 8) (h : n ≤ mz_un came n + i) (hi : i < n) : ∃ q, q < n ∧ mz_ok fp came q = true := by
  obtain ⟨q, _, h1, h2, h3⟩ := mz_next ha hn h hi
  exact ⟨q, h1, mz_ok_y (mz_t_n (by omega) h2) h3⟩
theorem mz_nk_cg {fp gp : Nat → Int32} {came : Int32} (n : Nat) (h : ∀ k, k < n → fp k = gp k) : mz_nk fp came n = mz_nk gp came n := by
  induction n with
  | zero => rfl
  | succ n ih =>
    show (if mz_nk fp came n = n ∧ mz_ok fp came n = false then _ else mz_nk fp came n) = (if mz_nk gp came n = n ∧ mz_ok gp came n = false then _ else mz_nk gp came n)
    have h2 : mz_ok fp came n = mz_ok gp came n := by
      unfold mz_ok
      rw [h n (by omega)]
    rw [ih (fun k hk => h k (by omega)), h2]
def mz_dn (s : Int32) : Int32 := s * 1103515245 + 12345
def mz_ra (s : Int32) : Int32 := (s.toUInt32 >>> (Int32.toUInt32 16 &&& Int32.toUInt32 31)).toInt32
def mz_rnd (s : Int32) : Int32 := mz_ra s - mz_ra s / 100 * 100
theorem mz_rnd_b (s : Int32) : ∃ a : Nat, a < 100 ∧ mz_rnd s = nI a := by
  obtain ⟨x, hx⟩ : ∃ x : Nat, x = s.toBitVec.toNat := ⟨_, rfl⟩
  have hs : s = nI x := by
    apply Int32.toBitVec_inj.mp
    show s.toBitVec = BitVec.ofNat 32 x
    rw [hx, BitVec.ofNat_toNat]
    simp
  have hlt : x < 2 ^ 32 := by rw [hx]; exact s.toBitVec.isLt
  have h1 : mz_ra s = nI (x / 2 ^ 16) := by
    unfold mz_ra
    rw [hs]
    exact pk_ushrN hlt 16 16 (by decide)
  refine ⟨x / 2 ^ 16 % 100, Nat.mod_lt _ (by decide), ?_⟩
  unfold mz_rnd
  rw [h1]
  exact pk_rem (d := 100) (by omega) (by decide) (by decide)
theorem mz_rnd_100 (s : Int32) : mz_rnd s < 100 := by
  obtain ⟨a, ha, e⟩ := mz_rnd_b s
  rw [e]
  exact (nI_ltI (a := a) (b := 100) (by omega) (by decide)).mpr ha
theorem mz_rnd_0 (s : Int32) : ¬ mz_rnd s < 0 := by
  obtain ⟨a, ha, e⟩ := mz_rnd_b s
  rw [e]
  exact nI_pos (by omega)
/-- the seed, what came, what is 1, after i things -/
def mz_ds (n : Nat) (fp fb : Nat → Int32) (deed seed : Int32) : Nat → Int32 × Int32 × Int32
  | 0 => (seed, 0, 0)
  | i + 1 => if mz_nk fp (mz_ds n fp fb deed seed i).2.1 n < n then
      (mz_dn (mz_ds n fp fb deed seed i).1,
       (mz_ds n fp fb deed seed i).2.1 ||| ((1 : Int32) <<< (nI (mz_nk fp (mz_ds n fp fb deed seed i).2.1 n) &&& 31)),
       if mz_rnd (mz_dn (mz_ds n fp fb deed seed i).1) < mz_pu fp fb deed (mz_nk fp (mz_ds n fp fb deed seed i).2.1 n) (mz_ds n fp fb deed seed i).2.2 then (mz_ds n fp fb deed seed i).2.2 ||| ((1 : Int32) <<< (nI (mz_nk fp (mz_ds n fp fb deed seed i).2.1 n) &&& 31)) else (mz_ds n fp fb deed seed i).2.2)
    else mz_ds n fp fb deed seed i
/-- one step, in the names that the loops have -/
theorem mz_ds_s {n i k : Nat} {fp fb : Nat → Int32} {deed seed s c o o1 : Int32} (h1 : s = (mz_ds n fp fb deed seed i).1) (h2 : c = (mz_ds n fp fb deed seed i).2.1) (h3 : o = (mz_ds n fp fb deed seed i).2.2) (hk : mz_nk fp c n = k) (hkn : k < n)
    (ho : o1 = if mz_rnd (mz_dn s) < mz_pu fp fb deed k o then o ||| ((1 : Int32) <<< (nI k &&& 31)) else o) :
    mz_dn s = (mz_ds n fp fb deed seed (i + 1)).1 ∧ c ||| ((1 : Int32) <<< (nI k &&& 31)) = (mz_ds n fp fb deed seed (i + 1)).2.1 ∧ o1 = (mz_ds n fp fb deed seed (i + 1)).2.2 := by
  have e : mz_ds n fp fb deed seed (i + 1) = (mz_dn s, c ||| ((1 : Int32) <<< (nI k &&& 31)), o1) := by
    subst hk
    rw [ho]
    subst h1
    subst h2
    subst h3
    show (if mz_nk fp (mz_ds n fp fb deed seed i).2.1 n < n then _ else _) = _
    rw [if_pos hkn]
  rw [e]
  exact ⟨rfl, rfl, rfl⟩
theorem mz_on_y {x q o b : Int32} (h : ¬ q ≤ x) : o ||| b = if x < q then o ||| b else o := by
  rw [if_pos (by
    rw [Int32.lt_iff_toInt_lt]
    rw [Int32.le_iff_toInt_le] at h
    omega)]
theorem mz_on_n {x q o b : Int32} (h : q ≤ x) : o = if x < q then o ||| b else o := by
  rw [if_neg (by
    rw [Int32.lt_iff_toInt_lt]
    rw [Int32.le_iff_toInt_le] at h
    omega)]
/-- as the reference decides -/
theorem mz_om_d1 {fp fb : Nat → Int32} {deed s o b : Int32} {t : Nat} (h1 : mz_t deed t = true) (h2 : mz_t deed (8 + t) = true) : o ||| b = if mz_rnd s < mz_pu fp fb deed t o then o ||| b else o := by
  unfold mz_pu
  rw [if_pos h1, if_pos h2, if_pos (mz_rnd_100 s)]
theorem mz_om_d0 {fp fb : Nat → Int32} {deed s o b : Int32} {t : Nat} (h1 : mz_t deed t = true) (h2 : mz_t deed (8 + t) = false) : o ||| 0 = if mz_rnd s < mz_pu fp fb deed t o then o ||| b else o := by
  have e : mz_pu fp fb deed t o = 0 := by
    unfold mz_pu
    rw [if_pos h1, if_neg (by rw [h2]; decide)]
  rw [e, if_neg (mz_rnd_0 s), mz_or0]
theorem mz_om_y {fp fb : Nat → Int32} {deed s o b : Int32} {t : Nat} (h1 : mz_t deed t = false) (h : ¬ fb (128 * t + mz_rw (fp t) o 8) ≤ mz_rnd s) : o ||| b = if mz_rnd s < mz_pu fp fb deed t o then o ||| b else o := by
  have e : mz_pu fp fb deed t o = fb (128 * t + mz_rw (fp t) o 8) := by
    unfold mz_pu
    rw [if_neg (by rw [h1]; decide)]
  rw [e]
  exact mz_on_y h
theorem mz_om_n {fp fb : Nat → Int32} {deed s o b : Int32} {t : Nat} (h1 : mz_t deed t = false) (h : fb (128 * t + mz_rw (fp t) o 8) ≤ mz_rnd s) : o ||| 0 = if mz_rnd s < mz_pu fp fb deed t o then o ||| b else o := by
  have e : mz_pu fp fb deed t o = fb (128 * t + mz_rw (fp t) o 8) := by
    unfold mz_pu
    rw [if_neg (by rw [h1]; decide)]
  rw [e, mz_or0]
  exact mz_on_n h
theorem mz_acy_cg {n : Nat} {f g : Nat → Int32} (h : ∀ k, k < n → f k = g k) (ha : mz_acy n g) : mz_acy n f := by
  intro C hC
  obtain ⟨t, h1, h2, h3⟩ := ha C hC
  exact ⟨t, h1, h2, by rw [h t h1]; exact h3⟩
theorem mz_pu_cg {n t : Nat} {fp fb gp gb : Nat → Int32} {deed on : Int32} (ht : t < n) (hp : ∀ k, k < n → fp k = gp k) (hb : mz_be n fb gb) (hr : ∀ k, k < n → ∀ on, mz_rw (fp k) on 8 < 128) : mz_pu fp fb deed t on = mz_pu gp gb deed t on := by
  unfold mz_pu
  have h1 := hr t ht on
  rw [hb (128 * t + mz_rw (fp t) on 8) (by omega), hp t ht]
theorem mz_ds_cg {n : Nat} {fp fb gp gb : Nat → Int32} {deed seed : Int32} (hp : ∀ k, k < n → fp k = gp k) (hb : mz_be n fb gb) (hr : ∀ k, k < n → ∀ on, mz_rw (fp k) on 8 < 128) (i : Nat) : mz_ds n gp gb deed seed i = mz_ds n fp fb deed seed i := by
  induction i with
  | zero => rfl
  | succ i ih =>
    show (if mz_nk gp (mz_ds n gp gb deed seed i).2.1 n < n then _ else _) = (if mz_nk fp (mz_ds n fp fb deed seed i).2.1 n < n then _ else _)
    rw [ih, ← mz_nk_cg n hp]
    by_cases c : mz_nk fp (mz_ds n fp fb deed seed i).2.1 n < n
    · rw [if_pos c, if_pos c, mz_pu_cg c hp hb hr]
    · rw [if_neg c, if_neg c]
theorem mz_r128 {n : Nat} {fp : Nat → Int32} (hn : n ≤ 8) (ha : mz_acy n fp) : ∀ k, k < n → ∀ on, mz_rw (fp k) on 8 < 128 := by
  intro k hk on
  have h1 : mz_t (fp k) k = false := mz_acy_self (by omega) hk ha
  exact mz_rw_7 h1 8 (by omega) (by decide)
theorem mz_t_y0 {x : Int32} {j : Nat} (hj : j < 32) (h : ¬ (x >>> (nI j &&& 31)) &&& 1 = 0) : mz_t x j = true := by
  cases e : mz_t x j
  · exact absurd ((mz_b0 hj).mpr e) h
  · rfl
theorem mz_t_y8 {x : Int32} {j : Nat} (hj : j < 8) (h : (x >>> (nI (8 + j) &&& 31)) &&& 1 = 1) : mz_t x (8 + j) = true := mz_t_y (by omega) h
theorem mz_t_n8 {x : Int32} {j : Nat} (hj : j < 8) (h : ¬ (x >>> (nI (8 + j) &&& 31)) &&& 1 = 1) : mz_t x (8 + j) = false := mz_t_n (by omega) h
theorem mz_t_n0 {x : Int32} {j : Nat} (hj : j < 32) (h : (x >>> (nI j &&& 31)) &&& 1 = 0) : mz_t x j = false := (mz_b0 hj).mp h
