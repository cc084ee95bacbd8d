/-! bits of ints; drawings that lead nowhere round; a remainder is smaller -/
theorem mz_sh1 {n : Nat} (h : n < 31) : (1 : Int32) <<< (nI n &&& 31) = nI (2 ^ n) := by
  have h1 : ∀ k : Nat, k < 31 → (1 : Int32) <<< (nI k &&& 31) = nI (2 ^ k) := by decide +kernel
  exact h1 n h
theorem mz_2n {n : Nat} (h : n ≤ 8) : 2 ^ n ≤ 256 := by
  have h1 : ∀ k : Nat, k ≤ 8 → 2 ^ k ≤ 256 := by decide
  exact h1 n h
theorem mz_ones {i : Nat} (h : i < 32) : (-1 : Int32).toBitVec.getLsbD i = true := by
  have h1 : ∀ k : Nat, k < 32 → (-1 : Int32).toBitVec.getLsbD k = true := by decide +kernel
  exact h1 i h
theorem mz_lrem {x y : Int64} (h : ¬ y = 0) : (x - x / y * y).toInt.natAbs < y.toInt.natAbs := by
  have hy : y.toInt ≠ 0 := by
    intro e
    apply h
    rw [← Int64.toInt_inj, e]
    rfl
  have e1 : (x - x / y * y).toInt = (x.toInt - x.toInt.tdiv y.toInt * y.toInt).bmod (2 ^ 64) := by
    rw [Int64.toInt_sub, Int64.toInt_mul, Int64.toInt_div]
    rw [Int.bmod_mul_bmod, Int.sub_bmod_bmod]
  have e2 : x.toInt - x.toInt.tdiv y.toInt * y.toInt = x.toInt.tmod y.toInt := by
    rw [Int.tmod_def, Int.mul_comm]
  rw [e1, e2]
  have h3 : (x.toInt.tmod y.toInt).natAbs < y.toInt.natAbs := by
    rw [Int.natAbs_tmod]
    exact Nat.mod_lt _ (by omega)
  have h4 := Int64.le_toInt y
  have h5 := Int64.toInt_lt y
  have h6 : (x.toInt.tmod y.toInt).bmod (2 ^ 64) = x.toInt.tmod y.toInt := by
    apply Int.bmod_eq_of_le <;> omega
  rw [h6]
  exact h3
def mz_un (F : Int32) : Nat → Nat
  | 0 => 0
  | n + 1 => mz_un F n + (if (F >>> (nI n &&& 31)) &&& 1 = 0 then 1 else 0)
theorem mz_amt {j : Nat} (hj : j < 32) : ((nI j &&& 31 : Int32).toBitVec.smod 32).toNat = j := by
  have h1 : ∀ k : Nat, k < 32 → ((nI k &&& 31 : Int32).toBitVec.smod 32).toNat = k := by decide +kernel
  exact h1 j hj
/-- bit j of x, as the program tests it -/
theorem mz_bit {x : Int32} {j : Nat} (hj : j < 32) : (x >>> (nI j &&& 31)) &&& 1 = if x.toBitVec.getLsbD j then 1 else 0 := by
  apply Int32.toBitVec_inj.mp
  rw [Int32.toBitVec_and, Int32.toBitVec_shiftRight]
  show BitVec.sshiftRight x.toBitVec ((nI j &&& 31 : Int32).toBitVec.smod 32).toNat &&& 1#32 = _
  rw [mz_amt hj]
  apply BitVec.eq_of_getLsbD_eq
  intro i hi
  rw [BitVec.getLsbD_and, BitVec.getLsbD_sshiftRight]
  by_cases h0 : i = 0
  · subst h0
    cases hb : x.toBitVec.getLsbD j
    · simp [hb, hj]
    · simp [hb, hj]
  · have h1 : (1#32).getLsbD i = false := by
      rw [BitVec.getLsbD_one]
      simp [h0]
    rw [h1]
    cases hb : x.toBitVec.getLsbD j
    · simp
    · simp [h0]
theorem mz_b1 {x : Int32} {j : Nat} (hj : j < 32) : (x >>> (nI j &&& 31)) &&& 1 = 1 ↔ x.toBitVec.getLsbD j = true := by
  rw [mz_bit hj]
  cases x.toBitVec.getLsbD j <;> decide
theorem mz_b0 {x : Int32} {j : Nat} (hj : j < 32) : (x >>> (nI j &&& 31)) &&& 1 = 0 ↔ x.toBitVec.getLsbD j = false := by
  rw [mz_bit hj]
  cases x.toBitVec.getLsbD j <;> decide
theorem mz_one {j i : Nat} (hj : j < 32) : ((1 : Int32) <<< (nI j &&& 31)).toBitVec.getLsbD i = decide (i = j) := by
  have h1 : ∀ k : Nat, k < 32 → ((1 : Int32) <<< (nI k &&& 31)).toBitVec = BitVec.twoPow 32 k := by decide +kernel
  rw [h1 j hj, BitVec.getLsbD_twoPow]
  by_cases h : i = j
  · subst h
    simp [hj]
  · simp [h, Ne.symm h]
theorem mz_un_mono {F G : Int32} : ∀ {n : Nat}, n ≤ 32 → (∀ j, j < n → G.toBitVec.getLsbD j = false → F.toBitVec.getLsbD j = false) → mz_un G n ≤ mz_un F n
  | 0, _, _ => Nat.le_refl _
  | n + 1, hn, h => by
    have ih := mz_un_mono (n := n) (by omega) (fun j hj => h j (by omega))
    unfold mz_un
    have h1 := h n (by omega)
    by_cases hg : (G >>> (nI n &&& 31)) &&& 1 = 0
    · rw [if_pos hg, if_pos ((mz_b0 (by omega)).mpr (h1 ((mz_b0 (by omega)).mp hg)))]
      omega
    · rw [if_neg hg]
      split <;> omega
theorem mz_un_set {F : Int32} {k : Nat} (hF : (F >>> (nI k &&& 31)) &&& 1 = 0) : ∀ {n : Nat}, n ≤ 32 → k < n → mz_un (F ||| ((1 : Int32) <<< (nI k &&& 31))) n < mz_un F n
  | 0, _, h => absurd h (Nat.not_lt_zero k)
  | n + 1, hn, hk => by
    unfold mz_un
    by_cases e : k = n
    · subst e
      have h1 : ¬ ((F ||| ((1 : Int32) <<< (nI k &&& 31))) >>> (nI k &&& 31)) &&& 1 = 0 := by
        rw [mz_b0 (by omega), Int32.toBitVec_or, BitVec.getLsbD_or, mz_one (by omega)]
        simp
      rw [if_neg h1, if_pos hF]
      have := mz_un_mono (F := F) (G := F ||| ((1 : Int32) <<< (nI k &&& 31))) (n := k) (by omega) (fun j hj hq => by
        rw [Int32.toBitVec_or, BitVec.getLsbD_or] at hq
        simp at hq
        exact hq.1)
      omega
    · have ih := mz_un_set hF (n := n) (by omega) (by omega)
      have h2 : (((F ||| ((1 : Int32) <<< (nI k &&& 31))) >>> (nI n &&& 31)) &&& 1 = 0) ↔ ((F >>> (nI n &&& 31)) &&& 1 = 0) := by
        rw [mz_b0 (by omega), mz_b0 (by omega), Int32.toBitVec_or, BitVec.getLsbD_or, mz_one (by omega)]
        simp [Ne.symm e]
      by_cases h3 : (F >>> (nI n &&& 31)) &&& 1 = 0
      · rw [if_pos h3, if_pos (h2.mpr h3)]
        omega
      · rw [if_neg h3, if_neg (fun q => h3 (h2.mp q))]
        omega
/-- k is in F, or neither t nor one of F leads to it -/
def mz_clo (g : Nat → Int32) (t F : Int32) (k : Nat) : Prop := ¬ (F >>> (nI k &&& 31)) &&& 1 = 0 ∨ (¬ ((g k) >>> (t &&& 31)) &&& 1 = 1 ∧ (g k) &&& F = 0)
/-- nothing leads round: whatever came, one that didn't has all its parents among what came -/
def mz_acy (n : Nat) (g : Nat → Int32) : Prop := ∀ C : Int32, (∃ t, t < n ∧ ¬ (C >>> (nI t &&& 31)) &&& 1 = 1) → ∃ t, t < n ∧ (¬ (C >>> (nI t &&& 31)) &&& 1 = 1) ∧ (g t) &&& (C ^^^ (-1)) = 0
theorem mz_sub {x C : Int32} : x &&& (C ^^^ (-1)) = 0 ↔ ∀ i, i < 32 → x.toBitVec.getLsbD i = true → C.toBitVec.getLsbD i = true := by
  constructor
  · intro h i hi hx
    have h1 : (x &&& (C ^^^ (-1))).toBitVec.getLsbD i = false := by rw [h]; simp
    rw [Int32.toBitVec_and, Int32.toBitVec_xor, BitVec.getLsbD_and, BitVec.getLsbD_xor, hx] at h1
    have h2 : (-1 : Int32).toBitVec.getLsbD i = true := mz_ones hi
    rw [h2] at h1
    simpa using h1
  · intro h
    apply Int32.toBitVec_inj.mp
    apply BitVec.eq_of_getLsbD_eq
    intro i hi
    rw [Int32.toBitVec_and, Int32.toBitVec_xor, BitVec.getLsbD_and, BitVec.getLsbD_xor]
    have h2 : (-1 : Int32).toBitVec.getLsbD i = true := mz_ones hi
    rw [h2]
    cases hx : x.toBitVec.getLsbD i
    · simp
    · rw [h i hi hx]
      simp
theorem mz_and0 {x F : Int32} : x &&& F = 0 ↔ ∀ i, i < 32 → x.toBitVec.getLsbD i = true → F.toBitVec.getLsbD i = false := by
  constructor
  · intro h i hi hx
    have h1 : (x &&& F).toBitVec.getLsbD i = false := by rw [h]; simp
    rw [Int32.toBitVec_and, BitVec.getLsbD_and, hx] at h1
    simpa using h1
  · intro h
    apply Int32.toBitVec_inj.mp
    apply BitVec.eq_of_getLsbD_eq
    intro i hi
    rw [Int32.toBitVec_and, BitVec.getLsbD_and]
    cases hx : x.toBitVec.getLsbD i
    · simp
    · rw [h i hi hx]
      simp
/-- fewer parents lead round no more -/
theorem mz_acy_less {n : Nat} {g h : Nat → Int32} (ha : mz_acy n g) (hs : ∀ t, t < n → ∀ i, i < 32 → (h t).toBitVec.getLsbD i = true → (g t).toBitVec.getLsbD i = true) : mz_acy n h := by
  intro C hC
  obtain ⟨t, ht, h1, h2⟩ := ha C hC
  exact ⟨t, ht, h1, mz_sub.mpr (fun i hi hx => mz_sub.mp h2 i hi (hs t ht i hi hx))⟩
/-- one more thing, without parents -/
theorem mz_acy_more {n : Nat} {g h : Nat → Int32} (ha : mz_acy n g) (hs : ∀ t, t < n → h t = g t) (h0 : h n = 0) : mz_acy (n + 1) h := by
  intro C hC
  by_cases q : ∃ t, t < n ∧ ¬ (C >>> (nI t &&& 31)) &&& 1 = 1
  · obtain ⟨t, ht, h1, h2⟩ := ha C q
    exact ⟨t, by omega, h1, by rw [hs t ht]; exact h2⟩
  · obtain ⟨t, ht, h1⟩ := hC
    have : t = n := by
      rcases Nat.lt_or_ge t n with a | a
      · exact absurd ⟨t, a, h1⟩ q
      · omega
    subst this
    exact ⟨t, ht, h1, by rw [h0]; exact mz_sub.mpr (fun i hi hx => by simp at hx)⟩
/-- an arrow from f to t, where f isn't t and none of what is below t -/
theorem mz_acy_add {n f t : Nat} {g h : Nat → Int32} {F : Int32} (hn : n ≤ 32) (hf : f < n) (ht : t < n) (hft : f ≠ t) (ha : mz_acy n g) (hc : ∀ k, k < n → mz_clo g (nI t) F k) (hF : ¬ (F >>> (nI f &&& 31)) &&& 1 = 1)
    (hs : ∀ k, k < n → k ≠ t → h k = g k) (ht2 : h t = (g t) ||| ((1 : Int32) <<< (nI f &&& 31))) : mz_acy n h := by
  intro C hC
  have low : ∀ k, k < n → ∀ {D : Int32}, (g k) &&& (D ^^^ (-1)) = 0 → ∀ i, i < 32 → (g k).toBitVec.getLsbD i = true → D.toBitVec.getLsbD i = true := fun k hk D hD => mz_sub.mp hD
  by_cases q : ∃ k, k < n ∧ (¬ (C >>> (nI k &&& 31)) &&& 1 = 1) ∧ k ≠ t ∧ F.toBitVec.getLsbD k = false
  · obtain ⟨k0, hk0, hkC, hkt, hkF⟩ := q
    obtain ⟨E, hE⟩ : ∃ E : Int32, E = C ||| F ||| ((1 : Int32) <<< (nI t &&& 31)) := ⟨_, rfl⟩
    have bE : ∀ i, i < 32 → E.toBitVec.getLsbD i = (C.toBitVec.getLsbD i || F.toBitVec.getLsbD i || decide (i = t)) := fun i hi => by
      rw [hE, Int32.toBitVec_or, Int32.toBitVec_or, BitVec.getLsbD_or, BitVec.getLsbD_or, mz_one (by omega)]
    have hk1 : ¬ C.toBitVec.getLsbD k0 = true := fun q => hkC ((mz_b1 (by omega)).mpr q)
    obtain ⟨k, hk, k1, k2⟩ := ha E ⟨k0, hk0, by
      rw [mz_b1 (by omega), bE k0 (by omega)]
      simp [hk1, hkF, hkt]⟩
    rw [mz_b1 (by omega), bE k (by omega)] at k1
    have kC : C.toBitVec.getLsbD k = false := by
      cases hh : C.toBitVec.getLsbD k
      · rfl
      · exact absurd (by simp [hh]) k1
    have kF : F.toBitVec.getLsbD k = false := by
      cases hh : F.toBitVec.getLsbD k
      · rfl
      · exact absurd (by simp [hh]) k1
    have kt : k ≠ t := fun e => k1 (by simp [e])
    refine ⟨k, hk, by rw [mz_b1 (by omega), kC]; decide, ?_⟩
    rw [hs k hk kt]
    refine mz_sub.mpr (fun i hi hx => ?_)
    have h5 := low k hk k2 i hi hx
    rw [bE i hi] at h5
    rcases hc k hk with c1 | ⟨c1, c2⟩
    · exact absurd ((mz_b0 (by omega)).mpr kF) c1
    · have c3 := mz_and0.mp c2 i hi hx
      by_cases e : i = t
      · subst e
        exact absurd ((mz_b1 (by omega)).mpr hx) c1
      · simpa [c3, e] using h5
  · obtain ⟨k, hk, k1, k2⟩ := ha C hC
    have fC : C.toBitVec.getLsbD f = true := by
      cases hh : C.toBitVec.getLsbD f
      · exfalso
        apply q
        refine ⟨f, hf, by rw [mz_b1 (by omega), hh]; decide, hft, ?_⟩
        cases h9 : F.toBitVec.getLsbD f
        · rfl
        · exact absurd ((mz_b1 (by omega)).mpr h9) hF
      · rfl
    refine ⟨k, hk, k1, ?_⟩
    refine mz_sub.mpr (fun i hi hx => ?_)
    by_cases e : k = t
    · rw [e, ht2, Int32.toBitVec_or, BitVec.getLsbD_or, mz_one (by omega)] at hx
      by_cases e2 : i = f
      · rw [e2]
        exact fC
      · simp [e2] at hx
        exact low k hk k2 i hi (by rw [e]; exact hx)
    · rw [hs k hk e] at hx
      exact low k hk k2 i hi hx
/-- none leads to itself -/
theorem mz_acy_self {n t : Nat} {g : Nat → Int32} (hn : n ≤ 32) (ht : t < n) (ha : mz_acy n g) : (g t).toBitVec.getLsbD t = false := by
  obtain ⟨C, hC⟩ : ∃ C : Int32, C = ((1 : Int32) <<< (nI t &&& 31)) ^^^ (-1) := ⟨_, rfl⟩
  have bC : ∀ i, i < 32 → C.toBitVec.getLsbD i = !decide (i = t) := fun i hi => by
    rw [hC, Int32.toBitVec_xor, BitVec.getLsbD_xor, mz_one (by omega)]
    have h2 : (-1 : Int32).toBitVec.getLsbD i = true := mz_ones hi
    rw [h2]
    simp
  obtain ⟨k, hk, k1, k2⟩ := ha C ⟨t, ht, by rw [mz_b1 (by omega), bC t (by omega)]; simp⟩
  rw [mz_b1 (by omega), bC k (by omega)] at k1
  have e : k = t := by simpa using k1
  subst e
  cases hh : (g k).toBitVec.getLsbD k
  · rfl
  · have := mz_sub.mp k2 k (by omega) hh
    rw [bC k (by omega)] at this
    simp at this
theorem mz_n1 {x : Int32} {j : Nat} (hj : j < 32) (h : ¬ (x >>> (nI j &&& 31)) &&& 1 = 1) : (x >>> (nI j &&& 31)) &&& 1 = 0 := by
  rw [mz_bit hj] at h ⊢
  cases hb : x.toBitVec.getLsbD j
  · rfl
  · rw [hb] at h
    exact absurd rfl h
theorem mz_p7 {c : Nat} (h : c ≤ 7) : 2 ^ c ≤ 128 := by
  have h1 : ∀ k : Nat, k ≤ 7 → 2 ^ k ≤ 128 := by decide
  exact h1 c h
theorem mz_row {q c : Nat} (b : Int32) (hq : q < 2 ^ c) (hc : c ≤ 7) : ∃ r : Nat, nI q ||| ((b &&& 1) <<< (nI c &&& 31)) = nI r ∧ r < 2 ^ (c + 1) := by
  obtain ⟨e, he, ee⟩ := pk_andE b (m := 1) 1 (by decide)
  have h2 : ∀ k : Nat, k < 8 → ∀ a : Nat, a < 2 → nI a <<< (nI k &&& 31) = nI (a * 2 ^ k) := by decide +kernel
  rw [ee, h2 c (by omega) e he]
  refine ⟨q ||| e * 2 ^ c, ?_, ?_⟩
  · apply Int32.toBitVec_inj.mp
    rw [Int32.toBitVec_or]
    show BitVec.ofNat 32 q ||| BitVec.ofNat 32 (e * 2 ^ c) = BitVec.ofNat 32 (q ||| e * 2 ^ c)
    apply BitVec.eq_of_toNat_eq
    simp only [BitVec.toNat_or, BitVec.toNat_ofNat]
    rw [Nat.or_mod_two_pow]
  · apply Nat.or_lt_two_pow
    · exact Nat.lt_of_lt_of_le hq (Nat.pow_le_pow_right (by decide) (by omega))
    · rcases (show e = 0 ∨ e = 1 by omega) with rfl | rfl
      · rw [Nat.zero_mul]
        exact Nat.two_pow_pos _
      · rw [Nat.one_mul]
        exact Nat.pow_lt_pow_right (by decide) (by omega)
theorem mz_bt {x : Int32} {c j : Nat} (hj : j < 32) : ∃ d : Nat, nI c + ((x >>> (nI j &&& 31)) &&& 1) = nI d ∧ d ≤ c + 1 ∧ (x.toBitVec.getLsbD j = false → d = c) := by
  rw [mz_bit hj]
  cases x.toBitVec.getLsbD j
  · exact ⟨c, Int32.add_zero _, by omega, fun _ => rfl⟩
  · exact ⟨c + 1, nI_1 c, by omega, fun h => by cases h⟩
theorem mz_predG {B j : Nat} {v : Int32} (hj : j < B) (hv : v = nI j + Int32.ofInt (-1)) : v = -1 ∨ ∃ i : Nat, i < B ∧ v = nI i := by
  cases j with
  | zero => exact Or.inl (by rw [hv]; decide)
  | succ j => exact Or.inr ⟨j, by omega, by rw [hv]; exact pk_m1 j⟩
theorem mz_predsG {j : Nat} {v : Int32} (hj : j < 2 ^ 31) (hv : v = nI j + Int32.ofInt (-1)) : (v.toInt + 1).toNat < ((nI j).toInt + 1).toNat := by
  cases j with
  | zero => rw [hv]; decide
  | succ j =>
    rw [show v = nI j by rw [hv]; exact pk_m1 j, nI_toInt (by omega), nI_toInt (by omega)]
    omega
theorem mz_sub1G {B u : Nat} {v : Int32} (hu : u ≤ B) (hv : v = nI u - 1) : v = -1 ∨ ∃ i : Nat, i < B ∧ v = nI i := by
  cases u with
  | zero => exact Or.inl (by rw [hv]; decide)
  | succ u => exact Or.inr ⟨u, by omega, by rw [hv]; exact nI_pred u⟩
theorem mz_two {a b k : Nat} {x y : Int32} (hk : k = 2 * b + (if y = 0 then 0 else 1)) (hy : ¬ y = 0) (h1 : a ≤ b) (h2 : ¬ x = 0 → a < b) : 2 * a + (if x = 0 then 0 else 1) < k := by
  rw [hk, if_neg hy]
  by_cases h : x = 0
  · rw [if_pos h]
    omega
  · rw [if_neg h]
    have := h2 h
    omega
