/-! two walks with a stack in the reference: how deep, and why they end -/
def mz_up (T : Nat → Nat) (k v : Nat) : Nat → Nat := fun i => if i = k then v else T i
theorem mz_up_s (T : Nat → Nat) (k v : Nat) : mz_up T k v k = v := by simp [mz_up]
theorem mz_up_n (T : Nat → Nat) {k j : Nat} (v : Nat) (h : j ≠ k) : mz_up T k v j = T j := by simp [mz_up, h]
def mz_ms (T : Nat → Nat) (n : Nat) : Nat → Nat
  | 0 => 0
  | D + 1 => mz_ms T n D + (n + 1 - T D) * 10 ^ (9 - D)
theorem mz_ms_c {T U : Nat → Nat} {n : Nat} : ∀ {D : Nat}, (∀ i, i < D → T i = U i) → mz_ms T n D = mz_ms U n D
  | 0, _ => rfl
  | D + 1, h => by
    unfold mz_ms
    rw [mz_ms_c (D := D) (fun i hi => h i (by omega)), h D (by omega)]
theorem mz_ms_up {T : Nat → Nat} {n D k v : Nat} (h : D ≤ k) : mz_ms (mz_up T k v) n D = mz_ms T n D := mz_ms_c (fun i hi => mz_up_n T v (by omega))
theorem mz_ten {D : Nat} : 0 < 10 ^ (9 - D) := Nat.pow_pos (by decide)
theorem mz_ms_pop {T : Nat → Nat} {n D : Nat} (h : T D ≤ n) : mz_ms T n D < mz_ms T n (D + 1) := by
  have h1 := mz_ten (D := D)
  have h2 : 1 * 10 ^ (9 - D) ≤ (n + 1 - T D) * 10 ^ (9 - D) := Nat.mul_le_mul_right _ (by omega)
  show mz_ms T n D < mz_ms T n D + (n + 1 - T D) * 10 ^ (9 - D)
  omega
theorem mz_ms_inc {T : Nat → Nat} {n D : Nat} (h : T D ≤ n) : mz_ms (mz_up T D (T D + 1)) n (D + 1) + 10 ^ (9 - D) = mz_ms T n (D + 1) := by
  show mz_ms (mz_up T D (T D + 1)) n D + (n + 1 - mz_up T D (T D + 1) D) * 10 ^ (9 - D) + 10 ^ (9 - D) = mz_ms T n D + (n + 1 - T D) * 10 ^ (9 - D)
  rw [mz_ms_up (Nat.le_refl D), mz_up_s]
  have e : n + 1 - T D = (n + 1 - (T D + 1)) + 1 := by omega
  rw [e, Nat.add_mul, Nat.one_mul]
  omega
theorem mz_ms_stay {T : Nat → Nat} {n D : Nat} (h : T D ≤ n) : mz_ms (mz_up T D (T D + 1)) n (D + 1) < mz_ms T n (D + 1) := by
  have h1 := mz_ms_inc h
  have h2 := mz_ten (D := D)
  omega
theorem mz_ms_push {T : Nat → Nat} {n D : Nat} (h : T D ≤ n) (hn : n ≤ 8) (hD : D ≤ 8) : mz_ms (mz_up (mz_up T D (T D + 1)) (D + 1) 0) n (D + 2) < mz_ms T n (D + 1) := by
  have h1 := mz_ms_inc h
  show mz_ms (mz_up (mz_up T D (T D + 1)) (D + 1) 0) n (D + 1) + (n + 1 - mz_up (mz_up T D (T D + 1)) (D + 1) 0 (D + 1)) * 10 ^ (9 - (D + 1)) < _
  rw [mz_ms_up (Nat.le_refl _), mz_up_s]
  have e : 10 ^ (9 - D) = 10 * 10 ^ (9 - (D + 1)) := by
    rw [show 9 - D = (9 - (D + 1)) + 1 by omega, Nat.pow_succ, Nat.mul_comm]
  have h2 : (n + 1 - 0) * 10 ^ (9 - (D + 1)) ≤ 9 * 10 ^ (9 - (D + 1)) := Nat.mul_le_mul_right _ (by omega)
  have h3 := mz_ten (D := D + 1)
  omega
/-- a way of D things so far: which, what was tried at each, all of them used, no two the same -/
def mz_dfs (n D : Nat) (V T : Nat → Nat) (fw ft : Nat → Int32) (u : Int32) : Prop := (∀ i, i < D → fw i = nI (V i) ∧ V i < n) ∧ (∀ i, i < D → ft i = nI (T i) ∧ T i ≤ n) ∧ (∀ i j, i < j → j < D → V i ≠ V j) ∧ (∀ i, i < D → u.toBitVec.getLsbD (V i) = true)
theorem mz_holes : ∀ (m n : Nat) (f : Nat → Nat), (∀ i, i < n → f i < m) → (∀ i j, i < j → j < n → f i ≠ f j) → n ≤ m := by
  intro m
  induction m with
  | zero =>
    intro n f h1 _
    cases n with
    | zero => exact Nat.le_refl _
    | succ n => exact absurd (h1 0 (by omega)) (by omega)
  | succ m ih =>
    intro n f h1 h2
    by_cases q : ∃ k, k < n ∧ f k = m
    · obtain ⟨k, hk, ek⟩ := q
      have h3 := ih (n - 1) (fun i => if i < k then f i else f (i + 1)) (fun i hi => by
        by_cases a : i < k
        · have b1 := h1 i (by omega)
          have b2 := h2 i k a hk
          simp only [a, if_true]
          omega
        · have b1 := h1 (i + 1) (by omega)
          have b2 := h2 k (i + 1) (by omega) (by omega)
          simp only [a, if_false]
          omega) (fun i j hij hj => by
        by_cases a : i < k
        · by_cases b : j < k
          · simp only [a, b, if_true]
            exact h2 i j hij (by omega)
          · simp only [a, b, if_true, if_false]
            exact h2 i (j + 1) (by omega) (by omega)
        · have b : ¬ j < k := by omega
          simp only [a, b, if_false]
          exact h2 (i + 1) (j + 1) (by omega) (by omega))
      omega
    · have h3 := ih n f (fun i hi => by
        have b1 := h1 i hi
        have b2 : f i ≠ m := fun e => q ⟨i, hi, e⟩
        omega) h2
      omega
theorem mz_dfs_room {n D t : Nat} {V T : Nat → Nat} {fw ft : Nat → Int32} {u : Int32} (h : mz_dfs n D V T fw ft u) (ht : t < n) (hu : u.toBitVec.getLsbD t = false) : D < n := by
  have h1 := mz_holes n (D + 1) (fun i => if i < D then V i else t) (fun i hi => by
    by_cases a : i < D
    · simp only [a, if_true]
      exact (h.1 i a).2
    · simp only [a, if_false]
      exact ht) (fun i j hij hj => by
    have a : i < D := by omega
    by_cases b : j < D
    · simp only [a, b, if_true]
      exact h.2.2.1 i j hij b
    · simp only [a, b, if_true, if_false]
      intro e
      have h4 := h.2.2.2 i a
      rw [e, hu] at h4
      cases h4)
  omega
theorem mz_dfs_stay {n E : Nat} {V T : Nat → Nat} {fw ft : Nat → Int32} {u x : Int32} (h : mz_dfs n (E + 1) V T fw ft u) (hx : x = nI (T E + 1)) (hT : T E < n) : mz_dfs n (E + 1) V (mz_up T E (T E + 1)) fw (upd ft E x) u := by
  refine ⟨h.1, fun i hi => ?_, h.2.2⟩
  by_cases e : i = E
  · subst e
    rw [mz_up_s, pk_us]
    exact ⟨hx, hT⟩
  · rw [mz_up_n T _ e, pk_un e]
    exact h.2.1 i hi
theorem mz_dfs_way {n D : Nat} {V T : Nat → Nat} {fw ft : Nat → Int32} {u x : Int32} (h : mz_dfs n D V T fw ft u) : mz_dfs n D V T (upd fw D x) ft u := by
  refine ⟨fun i hi => ?_, h.2⟩
  rw [pk_un (by omega)]
  exact h.1 i hi
theorem mz_dfs_pop {n E : Nat} {V T : Nat → Nat} {fw ft : Nat → Int32} {u x : Int32} (hn : n ≤ 8) (h : mz_dfs n (E + 1) V T fw ft u) : mz_dfs n E V T fw (upd ft E x) (u &&& (((1 : Int32) <<< ((fw E) &&& 31)) ^^^ (-1))) := by
  refine ⟨fun i hi => h.1 i (by omega), fun i hi => ?_, fun i j hij hj => h.2.2.1 i j hij (by omega), fun i hi => ?_⟩
  · rw [pk_un (by omega)]
    exact h.2.1 i (by omega)
  · have h1 := h.2.2.2 i (by omega)
    have h2 := h.2.2.1 i E (by omega) (by omega)
    have h3 := (h.1 i (by omega)).2
    have h4 := (h.1 E (by omega)).2
    rw [(h.1 E (by omega)).1, Int32.toBitVec_and, BitVec.getLsbD_and, h1, Int32.toBitVec_xor, BitVec.getLsbD_xor, mz_one (by omega), mz_ones (by omega)]
    simp [h2]
theorem mz_dfs_push {n D t : Nat} {V T : Nat → Nat} {fw ft : Nat → Int32} {u : Int32} (hn : n ≤ 8) (h : mz_dfs n D V T fw ft u) (ht : t < n) (hu : u.toBitVec.getLsbD t = false) : mz_dfs n (D + 1) (mz_up V D t) (mz_up T D 0) (upd fw D (nI t)) (upd ft D 0) (u ||| ((1 : Int32) <<< (nI t &&& 31))) := by
  refine ⟨fun i hi => ?_, fun i hi => ?_, fun i j hij hj => ?_, fun i hi => ?_⟩
  · by_cases e : i = D
    · subst e
      rw [mz_up_s, pk_us]
      exact ⟨rfl, ht⟩
    · rw [mz_up_n V _ e, pk_un e]
      exact h.1 i (by omega)
  · by_cases e : i = D
    · subst e
      rw [mz_up_s, pk_us]
      exact ⟨rfl, Nat.zero_le _⟩
    · rw [mz_up_n T _ e, pk_un e]
      exact h.2.1 i (by omega)
  · rw [mz_up_n V _ (show i ≠ D by omega)]
    by_cases e : j = D
    · subst e
      rw [mz_up_s]
      intro q
      have h4 := h.2.2.2 i (by omega)
      rw [q, hu] at h4
      cases h4
    · rw [mz_up_n V _ e]
      exact h.2.2.1 i j hij (by omega)
  · rw [Int32.toBitVec_or, BitVec.getLsbD_or]
    by_cases e : i = D
    · subst e
      rw [mz_up_s, mz_one (by omega)]
      simp
    · rw [mz_up_n V _ e, h.2.2.2 i (by omega)]
      simp
theorem mz_nb {x : Int32} {j : Nat} (hj : j < 32) (h : ¬ (x >>> (nI j &&& 31)) &&& 1 = 1) : x.toBitVec.getLsbD j = false := by
  cases hb : x.toBitVec.getLsbD j
  · rfl
  · exact absurd ((mz_b1 hj).mpr hb) h
theorem mz_dfs_0 {n i : Nat} {fw ft : Nat → Int32} (hn : n ≤ 8) (hi : i < n) : mz_dfs n 1 (fun _ => i) (fun _ => 0) (upd fw 0 (nI i)) (upd ft 0 0) ((1 : Int32) <<< (nI i &&& 31)) := by
  refine ⟨fun k hk => ?_, fun k hk => ?_, fun a b h1 h2 => by omega, fun k hk => ?_⟩
  · obtain rfl : k = 0 := by omega
    exact ⟨pk_us, hi⟩
  · obtain rfl : k = 0 := by omega
    exact ⟨pk_us, Nat.zero_le _⟩
  · rw [mz_one (by omega)]
    simp
theorem mz_dfs_w {n D t : Nat} {V T : Nat → Nat} {fw ft : Nat → Int32} {u : Int32} (hn : n ≤ 8) (h : mz_dfs n D V T fw ft u) (ht : t < n) : ∀ i, i < D + 1 → ∃ j : Nat, j < 8 ∧ upd fw D (nI t) i = nI j := by
  intro i hi
  by_cases e : i = D
  · subst e
    exact ⟨t, by omega, pk_us⟩
  · have h1 := h.1 i (by omega)
    exact ⟨V i, by omega, by rw [pk_un e]; exact h1.1⟩
theorem mz_cut {n j : Nat} {g : Nat → Int32} {b : Int32} (ha : mz_acy n g) : mz_acy n (upd g j ((g j) &&& (b ^^^ (-1)))) := by
  refine mz_acy_less ha (fun t ht i hi hx => ?_)
  by_cases e : t = j
  · subst e
    rw [pk_us, Int32.toBitVec_and, BitVec.getLsbD_and] at hx
    simp at hx
    exact hx.1
  · rw [pk_un e] at hx
    exact hx
theorem mz_turn_back {n i j : Nat} {g : Nat → Int32} (hn : n ≤ 8) (hi : i < n) (ha : mz_acy n g) (hb : ((g j) >>> (nI i &&& 31)) &&& 1 = 1) : mz_acy n (upd (upd g j ((g j) &&& (((1 : Int32) <<< (nI i &&& 31)) ^^^ (-1)))) j (((upd g j ((g j) &&& (((1 : Int32) <<< (nI i &&& 31)) ^^^ (-1)))) j) ||| ((1 : Int32) <<< (nI i &&& 31)))) := by
  refine mz_acy_less ha (fun t ht q hq hx => ?_)
  by_cases e : t = j
  · subst e
    rw [pk_us, pk_us, Int32.toBitVec_or, Int32.toBitVec_and, BitVec.getLsbD_or, BitVec.getLsbD_and, mz_one (by omega)] at hx
    by_cases e2 : q = i
    · subst e2
      exact (mz_b1 (by omega)).mp hb
    · simp [e2] at hx
      exact hx.1
  · rw [pk_un e, pk_un e] at hx
    exact hx
theorem mz_turn_on {n i j : Nat} {g : Nat → Int32} {F b : Int32} (hn : n ≤ 8) (hi : i < n) (hj : j < n) (ha : mz_acy n g) (hb : ((g j) >>> (nI i &&& 31)) &&& 1 = 1) (hc : ∀ k, k < n → mz_clo (upd g j ((g j) &&& (b ^^^ (-1)))) (nI i) F k) (hF : ¬ (F >>> (nI j &&& 31)) &&& 1 = 1) : mz_acy n (upd (upd g j ((g j) &&& (b ^^^ (-1)))) i (((upd g j ((g j) &&& (b ^^^ (-1)))) i) ||| ((1 : Int32) <<< (nI j &&& 31)))) := by
  have hne : j ≠ i := by
    intro e
    subst e
    have h1 := mz_acy_self (by omega) hj ha
    rw [mz_b1 (by omega), h1] at hb
    cases hb
  exact mz_acy_add (by omega) hj hi hne (mz_cut ha) hc hF (fun k hk hne2 => pk_un hne2) pk_us
theorem mz_un_pos {F : Int32} : ∀ {n : Nat}, 0 < mz_un F n → ∃ t, t < n ∧ (F >>> (nI t &&& 31)) &&& 1 = 0
  | 0, h => absurd h (Nat.lt_irrefl 0)
  | n + 1, h => by
    by_cases q : (F >>> (nI n &&& 31)) &&& 1 = 0
    · exact ⟨n, by omega, q⟩
    · unfold mz_un at h
      rw [if_neg q] at h
      obtain ⟨t, h1, h2⟩ := mz_un_pos (n := n) (by omega)
      exact ⟨t, by omega, h2⟩
theorem mz_un_one {F : Int32} {k : Nat} (hk : k < 32) : ∀ {n : Nat}, n ≤ 32 → mz_un F n ≤ mz_un (F ||| ((1 : Int32) <<< (nI k &&& 31))) n + (if k < n then 1 else 0)
  | 0, _ => Nat.zero_le _
  | n + 1, hn => by
    have ih := mz_un_one (F := F) hk (n := n) (by omega)
    unfold mz_un
    by_cases e : k = n
    · subst e
      rw [if_neg (Nat.lt_irrefl k)] at ih
      rw [if_pos (Nat.lt_succ_self k)]
      split <;> omega
    · have h2 : (((F ||| ((1 : Int32) <<< (nI k &&& 31))) >>> (nI n &&& 31)) &&& 1 = 0) ↔ ((F >>> (nI n &&& 31)) &&& 1 = 0) := by
        rw [mz_b0 (by omega), mz_b0 (by omega), Int32.toBitVec_or, BitVec.getLsbD_or, mz_one (by omega)]
        simp [Ne.symm e]
      have e2 : (if k < n + 1 then 1 else 0) = (if k < n then 1 else 0) := by
        by_cases a : k < n
        · rw [if_pos a, if_pos (by omega)]
        · rw [if_neg a, if_neg (by omega)]
      rw [e2]
      by_cases h3 : (F >>> (nI n &&& 31)) &&& 1 = 0
      · rw [if_pos h3, if_pos (h2.mpr h3)]
        omega
      · rw [if_neg h3, if_neg (fun q => h3 (h2.mp q))]
        omega
theorem mz_un_0 : ∀ {n : Nat}, n ≤ 8 → n ≤ mz_un 0 n := by decide +kernel
theorem mz_un_next {F : Int32} {k n i : Nat} (hn : n ≤ 8) (hk : k < n) (h : n ≤ mz_un F n + i) : n ≤ mz_un (F ||| ((1 : Int32) <<< (nI k &&& 31))) n + (i + 1) := by
  have h1 := mz_un_one (F := F) (k := k) (by omega) (n := n) (by omega)
  rw [if_pos hk] at h1
  omega
theorem mz_next {n i : Nat} {g : Nat → Int32} {C : Int32} (ha : mz_acy n g) (hn : n ≤ 8) (h : n ≤ mz_un C n + i) (hi : i < n) : ∃ q : Nat, 0 ≤ q ∧ q < n ∧ (¬ (C >>> (nI q &&& 31)) &&& 1 = 1) ∧ (g q) &&& (C ^^^ (-1)) = 0 := by
  obtain ⟨t, h1, h2⟩ := mz_un_pos (F := C) (n := n) (by omega)
  obtain ⟨q, h3, h4, h5⟩ := ha C ⟨t, h1, by rw [h2]; decide⟩
  exact ⟨q, Nat.zero_le _, h3, h4, h5⟩
