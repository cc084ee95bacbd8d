/-! least heaps: counting what has a property, and the parts of a heap in their order -/
noncomputable def mz_ct (Q : Nat → Prop) : Nat → Nat
  | 0 => 0
  | m + 1 => mz_ct Q m + @ite Nat (Q m) (Classical.propDecidable (Q m)) 1 0
theorem mz_ct_y {Q : Nat → Prop} {m : Nat} (h : Q m) : mz_ct Q (m + 1) = mz_ct Q m + 1 := by
  show mz_ct Q m + @ite Nat (Q m) (Classical.propDecidable (Q m)) 1 0 = _
  rw [if_pos h]
theorem mz_ct_n {Q : Nat → Prop} {m : Nat} (h : ¬ Q m) : mz_ct Q (m + 1) = mz_ct Q m := by
  show mz_ct Q m + @ite Nat (Q m) (Classical.propDecidable (Q m)) 1 0 = _
  rw [if_neg h]
  rfl
theorem mz_ct_up {Q : Nat → Prop} {a b : Nat} (h : a ≤ b) : mz_ct Q a ≤ mz_ct Q b := by
  induction b with
  | zero =>
    have e : a = 0 := by omega
    rw [e]
    exact Nat.le_refl _
  | succ b ih =>
    rcases Nat.lt_or_ge b a with c | c
    · have e : a = b + 1 := by omega
      rw [e]
      exact Nat.le_refl _
    · have i := ih c
      by_cases q : Q b
      · rw [mz_ct_y q]
        omega
      · rw [mz_ct_n q]
        exact i
theorem mz_ct_lt {Q : Nat → Prop} {a b : Nat} (h : a < b) (q : Q a) : mz_ct Q a < mz_ct Q b := by
  have u := mz_ct_up (Q := Q) (show a + 1 ≤ b from h)
  rw [mz_ct_y q] at u
  omega
theorem mz_ct_one {Q : Nat → Prop} {a b : Nat} (qa : Q a) (qb : Q b) (e : mz_ct Q a = mz_ct Q b) : a = b := by
  rcases Nat.lt_trichotomy a b with c | c | c
  · have u := mz_ct_lt c qa
    omega
  · exact c
  · have u := mz_ct_lt c qb
    omega
theorem mz_ct_le (Q : Nat → Prop) (m : Nat) : mz_ct Q m ≤ m := by
  induction m with
  | zero => exact Nat.le_refl 0
  | succ m ih =>
    by_cases q : Q m
    · rw [mz_ct_y q]
      omega
    · rw [mz_ct_n q]
      omega
theorem mz_ct_gap {Q : Nat → Prop} {a b : Nat} (h : a ≤ b) (hno : ∀ c, a ≤ c → c < b → ¬ Q c) : mz_ct Q b = mz_ct Q a := by
  induction b with
  | zero =>
    have e : a = 0 := by omega
    rw [e]
  | succ b ih =>
    rcases Nat.lt_or_ge b a with c | c
    · have e : a = b + 1 := by omega
      rw [e]
    · rw [mz_ct_n (hno b c (by omega))]
      exact ih c (fun x h1 h2 => hno x h1 (by omega))
/-- the least ones that have a property -/
def mz_lp (P : Nat → Prop) (z : Nat) : Prop := P z ∧ ∀ s, s < z → mz_ss (nI s) (nI z) → ¬ P s
theorem mz_lp_ex {P : Nat → Prop} (s : Nat) : P s → ∃ z, z ≤ s ∧ mz_ss (nI z) (nI s) ∧ mz_lp P z := by
  induction s using Nat.strongRecOn with
  | _ s ih =>
    intro hs
    by_cases c : ∃ t, t < s ∧ mz_ss (nI t) (nI s) ∧ P t
    · obtain ⟨t, t1, t2, t3⟩ := c
      obtain ⟨z, z1, z2, z3⟩ := ih t t1 t3
      exact ⟨z, by omega, fun j hj hx => t2 j hj (z2 j hj hx), z3⟩
    · exact ⟨s, Nat.le_refl s, fun _ _ h => h, hs, fun t t1 t2 t3 => c ⟨t, t1, t2, t3⟩⟩
theorem mz_inc256 : ∀ a : Nat, a < 256 → ∀ i : Nat, i < 2 ^ (mz_pc (nI a) 8) → (i + 1 < 2 ^ (mz_pc (nI a) 8) → mz_dp (nI a) i < mz_dp (nI a) (i + 1)) := by decide +kernel
theorem mz_dp_s {h : Int32} (hh : ∀ j, j < 32 → mz_t h j = true → j < 8) {i : Nat} (hi : i + 1 < 2 ^ (mz_pc h 8)) : mz_dp h i < mz_dp h (i + 1) := by
  obtain ⟨a, ha, rfl⟩ := mz_256 hh
  exact mz_inc256 a ha i (by omega) hi
theorem mz_dp_up {h : Int32} (hh : ∀ j, j < 32 → mz_t h j = true → j < 8) {i j : Nat} (hij : i < j) (hj : j < 2 ^ (mz_pc h 8)) : mz_dp h i < mz_dp h j := by
  induction j with
  | zero => omega
  | succ j ih =>
    have s := mz_dp_s hh hj
    rcases Nat.lt_or_ge i j with c | c
    · have u := ih c (by omega)
      omega
    · have e : i = j := by omega
      rw [e]
      exact s
def mz_zz (h : Int32) (i : Nat) : Nat := if i < 2 ^ (mz_pc h 8) then mz_dp h i else 256
theorem mz_zz_y {h : Int32} {i : Nat} (hi : i < 2 ^ (mz_pc h 8)) : mz_zz h i = mz_dp h i := if_pos hi
theorem mz_zz_n {h : Int32} {i : Nat} (hi : ¬ i < 2 ^ (mz_pc h 8)) : mz_zz h i = 256 := if_neg hi
/-- what has the property is a part of the heap h -/
def mz_pin (P : Nat → Prop) (h : Int32) : Prop := ∀ z, P z → z < 256 ∧ ∀ j, z.testBit j = true → mz_t h j = true
theorem mz_zz_ct {P : Nat → Prop} {h : Int32} {i : Nat} (hh : ∀ j, j < 32 → mz_t h j = true → j < 8) (hP : mz_pin P h) (hi : i < 2 ^ (mz_pc h 8)) : mz_ct (mz_lp P) (mz_zz h (i + 1)) = mz_ct (mz_lp P) (mz_dp h i + 1) := by
  have gap : ∀ c, mz_dp h i + 1 ≤ c → c < mz_zz h (i + 1) → ¬ mz_lp P c := by
    intro c c1 c2 q
    obtain ⟨p1, p2⟩ := hP c q.1
    obtain ⟨y, y1, y2⟩ := mz_sur hh p1 p2
    have hy : i < y := by
      rcases Nat.lt_or_ge i y with k | k
      · exact k
      · rcases Nat.lt_or_ge y i with k2 | k2
        · have u := mz_dp_up hh k2 hi
          omega
        · have e : y = i := by omega
          rw [e] at y2
          omega
    by_cases k : i + 1 < 2 ^ (mz_pc h 8)
    · rw [mz_zz_y k] at c2
      rcases Nat.lt_or_ge (i + 1) y with k2 | k2
      · have u := mz_dp_up hh k2 y1
        omega
      · have e : y = i + 1 := by omega
        rw [e] at y2
        omega
    · omega
  refine mz_ct_gap ?_ gap
  by_cases k : i + 1 < 2 ^ (mz_pc h 8)
  · rw [mz_zz_y k]
    exact mz_dp_s hh k
  · rw [mz_zz_n k]
    have u := mz_dp_lt h i
    omega
/-- what the class has found behind i parts -/
def mz_fd (P : Nat → Prop) (h : Int32) (i lk : Nat) (ff : Nat → Int32) : Prop := lk = mz_ct (mz_lp P) (mz_zz h i) ∧ (∀ q, q < lk → ∃ y, y < i ∧ ff q = nI (mz_dp h y) ∧ mz_lp P (mz_dp h y) ∧ mz_ct (mz_lp P) (mz_dp h y) = q) ∧ ∀ y, y < i → mz_lp P (mz_dp h y) → ∃ q, q < lk ∧ ff q = nI (mz_dp h y)
theorem mz_fd_0 {P : Nat → Prop} {h : Int32} {ff : Nat → Int32} : mz_fd P h 0 0 ff := by
  refine ⟨?_, fun q hq => absurd hq (Nat.not_lt_zero q), fun y hy => absurd hy (Nat.not_lt_zero y)⟩
  rw [mz_zz_y (Nat.two_pow_pos _), mz_dp_0]
  rfl
theorem mz_fd_n {P : Nat → Prop} {h : Int32} {i lk : Nat} {ff : Nat → Int32} (hh : ∀ j, j < 32 → mz_t h j = true → j < 8) (hP : mz_pin P h) (hi : i < 2 ^ (mz_pc h 8)) (hf : mz_fd P h i lk ff) (hno : ¬ mz_lp P (mz_dp h i)) : mz_fd P h (i + 1) lk ff := by
  obtain ⟨f1, f2, f3⟩ := hf
  refine ⟨?_, fun q hq => ?_, fun y hy hl => ?_⟩
  · rw [mz_zz_ct hh hP hi, mz_ct_n hno, f1, mz_zz_y hi]
  · obtain ⟨y, y1, y2⟩ := f2 q hq
    exact ⟨y, by omega, y2⟩
  · rcases Nat.lt_or_ge y i with c | c
    · exact f3 y c hl
    · have e : y = i := by omega
      rw [e] at hl
      exact absurd hl hno
theorem mz_fd_y {P : Nat → Prop} {h : Int32} {i lk : Nat} {ff : Nat → Int32} (hh : ∀ j, j < 32 → mz_t h j = true → j < 8) (hP : mz_pin P h) (hi : i < 2 ^ (mz_pc h 8)) (hf : mz_fd P h i lk ff) (hy : mz_lp P (mz_dp h i)) : mz_fd P h (i + 1) (lk + 1) (upd ff lk (nI (mz_dp h i))) := by
  obtain ⟨f1, f2, f3⟩ := hf
  have e : lk = mz_ct (mz_lp P) (mz_dp h i) := by rw [f1, mz_zz_y hi]
  refine ⟨?_, fun q hq => ?_, fun y hy2 hl => ?_⟩
  · rw [mz_zz_ct hh hP hi, mz_ct_y hy, ← e]
  · rcases Nat.lt_or_ge q lk with c | c
    · obtain ⟨y, y1, y2, y3⟩ := f2 q c
      exact ⟨y, by omega, by rw [pk_un (by omega)]; exact y2, y3⟩
    · have e2 : q = lk := by omega
      rw [e2]
      exact ⟨i, by omega, pk_us, hy, e.symm⟩
  · rcases Nat.lt_or_ge y i with c | c
    · obtain ⟨q, q1, q2⟩ := f3 y c hl
      exact ⟨q, by omega, by rw [pk_un (by omega)]; exact q2⟩
    · have e2 : y = i := by omega
      rw [e2]
      exact ⟨lk, by omega, pk_us⟩
theorem mz_fd_h {P : Nat → Prop} {h : Int32} {i lk : Nat} {ff : Nat → Int32} (hh : ∀ j, j < 32 → mz_t h j = true → j < 8) (hi : i < 2 ^ (mz_pc h 8)) (hf : mz_fd P h i lk ff) (hx : ∃ q, q < lk ∧ (ff q) &&& (nI (mz_dp h i) ^^^ (-1)) = 0) : ¬ mz_lp P (mz_dp h i) := by
  intro hl
  obtain ⟨q, q1, q2⟩ := hx
  obtain ⟨y, y1, y2, y3, y4⟩ := hf.2.1 q q1
  rw [y2] at q2
  exact hl.2 (mz_dp h y) (mz_dp_up hh y1 hi) (fun j hj hb => mz_sub.mp q2 j hj hb) y3.1
theorem mz_fd_p {P : Nat → Prop} {h : Int32} {i lk : Nat} {ff : Nat → Int32} (hh : ∀ j, j < 32 → mz_t h j = true → j < 8) (hP : mz_pin P h) (hi : i < 2 ^ (mz_pc h 8)) (hf : mz_fd P h i lk ff) (hx : ∀ q, q < lk → ¬ (ff q) &&& (nI (mz_dp h i) ^^^ (-1)) = 0) (hp : P (mz_dp h i)) : mz_lp P (mz_dp h i) := by
  refine ⟨hp, fun s s1 s2 s3 => ?_⟩
  obtain ⟨z, z1, z2, z3⟩ := mz_lp_ex s s3
  obtain ⟨p1, p2⟩ := hP z z3.1
  obtain ⟨y, y1, y2⟩ := mz_sur hh p1 p2
  have hy : y < i := by
    rcases Nat.lt_or_ge y i with c | c
    · exact c
    · rcases Nat.lt_or_ge i y with c2 | c2
      · have u := mz_dp_up hh c2 y1
        omega
      · have e : y = i := by omega
        rw [e] at y2
        omega
  obtain ⟨q, q1, q2⟩ := hf.2.2 y hy (by rw [y2]; exact z3)
  refine hx q q1 ?_
  rw [q2, y2]
  exact mz_sub.mpr (fun j hj hb => s2 j hj (z2 j hj hb))
theorem mz_fd_e {P : Nat → Prop} {h : Int32} {i lk : Nat} {ff : Nat → Int32} (hi : i = 2 ^ (mz_pc h 8)) (hf : mz_fd P h i lk ff) : lk = mz_ct (mz_lp P) 256 ∧ ∀ q, q < lk → ∃ z, z < 256 ∧ ff q = nI z ∧ mz_lp P z ∧ mz_ct (mz_lp P) z = q := by
  obtain ⟨f1, f2, f3⟩ := hf
  refine ⟨?_, fun q hq => ?_⟩
  · rw [f1, mz_zz_n (by omega)]
  · obtain ⟨y, y1, y2, y3, y4⟩ := f2 q hq
    exact ⟨_, mz_dp_lt h y, y2, y3, y4⟩
theorem mz_pc_ns2 {x : Int32} {a b : Nat} (ha : mz_t x a = false) (hb : mz_t x b = false) (hab : a < b) (k : Nat) (hk : b < k) : mz_pc x k + 2 ≤ k := by
  induction k with
  | zero => omega
  | succ k ih =>
    by_cases e : b = k
    · rw [e] at hb hab
      have u := mz_pc_ns ha k hab
      rw [mz_pc_n hb]
      omega
    · have u := ih (by omega)
      cases c : mz_t x k
      · rw [mz_pc_n c]
        omega
      · rw [mz_pc_y c]
        omega
theorem mz_k64 {x : Int32} {a b : Nat} (ha : mz_t x a = false) (hb : mz_t x b = false) (hab : ¬ a = b) (h1 : a < 8) (h2 : b < 8) : 2 ^ (mz_pc x 8) ≤ 64 := by
  have h : mz_pc x 8 ≤ 6 := by
    rcases Nat.lt_or_ge a b with c | c
    · have u := mz_pc_ns2 ha hb c 8 h2
      omega
    · have u := mz_pc_ns2 hb ha (by omega) 8 h1
      omega
  have u : 2 ^ (mz_pc x 8) ≤ 2 ^ 6 := Nat.pow_le_pow_right (by decide) h
  exact u
/-- the seen things but two -/
def mz_amg (sh : Int32) (i j : Nat) : Int32 := (sh &&& (((1 : Int32) <<< (nI i &&& 31)) ^^^ (-1))) &&& (((1 : Int32) <<< (nI j &&& 31)) ^^^ (-1))
theorem mz_amg_t {sh : Int32} {i j k : Nat} (hi : i < 32) (hj : j < 32) (hk : k < 32) : mz_t (mz_amg sh i j) k = ((mz_t sh k && !decide (k = i)) && !decide (k = j)) := by
  unfold mz_amg
  rw [mz_t_and, mz_t_and, mz_t_not hk, mz_t_not hk, mz_t_1 hi, mz_t_1 hj]
theorem mz_amg_i {sh : Int32} {i j : Nat} (hi : i < 32) (hj : j < 32) : mz_t (mz_amg sh i j) i = false := by
  rw [mz_amg_t hi hj hi]
  simp
theorem mz_amg_j {sh : Int32} {i j : Nat} (hi : i < 32) (hj : j < 32) : mz_t (mz_amg sh i j) j = false := by
  rw [mz_amg_t hi hj hj]
  simp
theorem mz_amg_s {sh : Int32} {i j k : Nat} (hi : i < 32) (hj : j < 32) (hk : k < 32) (h : mz_t (mz_amg sh i j) k = true) : mz_t sh k = true := by
  rw [mz_amg_t hi hj hk, Bool.and_eq_true, Bool.and_eq_true] at h
  exact h.1.1
theorem mz_sn_lt {n k : Nat} {sh : Int32} {fs : Nat → Int32} (h : mz_sn n sh fs) (hk : k < 32) (ht : mz_t sh k = true) : k < n := by
  rw [h k hk, Bool.and_eq_true] at ht
  simpa using ht.1
theorem mz_amg_8 {n i j : Nat} {sh : Int32} {fs : Nat → Int32} (hn : n ≤ 8) (h : mz_sn n sh fs) (hi : i < n) (hj : j < n) : ∀ k, k < 32 → mz_t (mz_amg sh i j) k = true → k < 8 := by
  intro k hk ht
  have u := mz_sn_lt h hk (mz_amg_s (by omega) (by omega) hk ht)
  omega
/-- the k-th of the least -/
def mz_la (P : Nat → Prop) (k r : Int32) : Prop := (∃ z, z < 256 ∧ mz_lp P z ∧ nI (mz_ct (mz_lp P) z) = k ∧ r = nI z) ∨ (r = -1 ∧ ∀ z, z < 256 → mz_lp P z → ¬ nI (mz_ct (mz_lp P) z) = k)
theorem mz_la_one {P : Nat → Prop} {k r s : Int32} (h1 : mz_la P k r) (h2 : mz_la P k s) : r = s := by
  rcases h1 with ⟨z, z1, z2, z3, z4⟩ | ⟨h1, h1b⟩
  · rcases h2 with ⟨y, y1, y2, y3, y4⟩ | ⟨h2, h2b⟩
    · have a1 := mz_ct_le (mz_lp P) z
      have a2 := mz_ct_le (mz_lp P) y
      have e := (nI_eq (a := mz_ct (mz_lp P) z) (b := mz_ct (mz_lp P) y) (by omega) (by omega)).mp (z3.trans y3.symm)
      have e2 := mz_ct_one z2 y2 e
      rw [z4, y4, e2]
    · exact absurd z3 (h2b z z1 z2)
  · rcases h2 with ⟨y, y1, y2, y3, y4⟩ | ⟨h2, _⟩
    · exact absurd y3 (h1b y y1 y2)
    · rw [h1, h2]
theorem mz_la_x {P : Nat → Prop} {lk : Nat} {ff : Nat → Int32} {k r : Int32} (h1 : lk = mz_ct (mz_lp P) 256) (h2 : ∀ q, q < lk → ∃ z, z < 256 ∧ ff q = nI z ∧ mz_lp P z ∧ mz_ct (mz_lp P) z = q) (h : (∃ q, q < lk ∧ k = nI q ∧ r = ff q) ∨ (r = -1 ∧ ∀ q, q < lk → ¬ k = nI q)) : mz_la P k r := by
  rcases h with ⟨q, q1, q2, q3⟩ | ⟨h3, h4⟩
  · obtain ⟨z, z1, z2, z3, z4⟩ := h2 q q1
    exact Or.inl ⟨z, z1, z3, by rw [z4, q2], by rw [q3, z2]⟩
  · refine Or.inr ⟨h3, fun z z1 z2 e => h4 (mz_ct (mz_lp P) z) ?_ e.symm⟩
    rw [h1]
    exact mz_ct_lt z1 z2
theorem mz_pm (x y : Int32) : x + Int32.ofInt (-1) + (y + 1) = x + y := by
  rw [Int32.add_comm y, ← Int32.add_assoc, Int32.add_assoc x, show Int32.ofInt (-1) + (1 : Int32) = 0 by decide, Int32.add_zero]
theorem mz_la_n {P : Nat → Prop} {i : Nat} {x k : Int32} (h : x + nI (mz_ct (mz_lp P) i) = k) (hy : ¬ mz_lp P i) : x + nI (mz_ct (mz_lp P) (i + 1)) = k := by
  rw [mz_ct_n hy]
  exact h
theorem mz_la_y {P : Nat → Prop} {i : Nat} {x k : Int32} (h : x + nI (mz_ct (mz_lp P) i) = k) (hy : mz_lp P i) : x + Int32.ofInt (-1) + nI (mz_ct (mz_lp P) (i + 1)) = k := by
  rw [mz_ct_y hy, ← nI_1, mz_pm]
  exact h
theorem mz_la_b {P : Nat → Prop} {i : Nat} {x k : Int32} (h : x + nI (mz_ct (mz_lp P) i) = k) (hne : ¬ x = 0) (hb : ∀ z, z < i → mz_lp P z → ¬ nI (mz_ct (mz_lp P) z) = k) : ∀ z, z < i + 1 → mz_lp P z → ¬ nI (mz_ct (mz_lp P) z) = k := by
  intro z hz hl e
  by_cases c : z = i
  · rw [c] at e
    apply hne
    have h1 := Int32.add_sub_cancel x (nI (mz_ct (mz_lp P) i))
    rw [h, e, Int32.sub_self] at h1
    exact h1.symm
  · exact hb z (by omega) hl e
theorem mz_la_bn {P : Nat → Prop} {i : Nat} {k : Int32} (hn : ¬ mz_lp P i) (hb : ∀ z, z < i → mz_lp P z → ¬ nI (mz_ct (mz_lp P) z) = k) : ∀ z, z < i + 1 → mz_lp P z → ¬ nI (mz_ct (mz_lp P) z) = k := by
  intro z hz hl e
  by_cases c : z = i
  · rw [c] at hl
    exact hn hl
  · exact hb z (by omega) hl e
theorem mz_la_r {P : Nat → Prop} {i : Nat} {x k : Int32} (hi : i < 256) (h : x + nI (mz_ct (mz_lp P) i) = k) (h0 : x = 0) (hy : mz_lp P i) : mz_la P k (nI i) := by
  rw [h0, Int32.zero_add] at h
  exact Or.inl ⟨i, hi, hy, h, rfl⟩
theorem mz_la_neg {P : Nat → Prop} {k : Int32} (h : k < 0) : mz_la P k (-1) := by
  refine Or.inr ⟨rfl, fun z hz _ e => ?_⟩
  have a1 := mz_ct_le (mz_lp P) z
  rw [← e] at h
  exact nI_pos (by omega) h
/-! which heaps bar, as the reference has them -/
def mz_PB (n : Nat) (g : Nat → Int32) (am : Int32) (i j q : Nat) : Prop := q < 256 ∧ (∀ k, q.testBit k = true → mz_t am k = true) ∧ ¬ mz_pth n g (nI q) (mz_Mm n g (nI q)) i j
theorem mz_PB_in {n i j : Nat} {g : Nat → Int32} {am : Int32} : mz_pin (mz_PB n g am i j) am := fun _ h => ⟨h.1, h.2.1⟩
theorem mz_tb8 {q k : Nat} (hq : q < 256) (h : q.testBit k = true) : k < 8 := by
  rcases Nat.lt_or_ge k 8 with c | c
  · exact c
  · have u : q.testBit k = false := Nat.testBit_lt_two_pow (Nat.lt_of_lt_of_le hq (Nat.pow_le_pow_right (n := 2) (by decide) c))
    rw [h] at u
    cases u
theorem mz_PB_sub {q : Nat} {am : Int32} (hq : q < 256) : (nI q) &&& (am ^^^ (-1)) = 0 ↔ ∀ k, q.testBit k = true → mz_t am k = true := by
  constructor
  · intro h k hk
    have c := mz_tb8 hq hk
    have e : mz_t (nI q) k = true := by
      rw [mz_t_nI (by omega)]
      exact hk
    exact mz_sub.mp h k (by omega) e
  · intro h
    refine mz_sub.mpr (fun k hk hx => ?_)
    have e : mz_t (nI q) k = true := hx
    rw [mz_t_nI (by omega)] at e
    exact h k e
theorem mz_yea {n i j : Nat} {G : Nat → Int32} {z : Int32} (hn : n ≤ 8) (hi : i < n) (hj : j < n) : (∃ a b, a < n ∧ b < n ∧ mz_t ((1 : Int32) <<< (nI i &&& 31)) a = true ∧ mz_t ((1 : Int32) <<< (nI j &&& 31)) b = true ∧ mz_pth n G z (mz_Mm n G z) a b) ↔ mz_pth n G z (mz_Mm n G z) i j := by
  constructor
  · intro ⟨a, b, _, _, h3, h4, h5⟩
    rw [mz_t_1 (by omega)] at h3
    rw [mz_t_1 (by omega)] at h4
    have e1 : a = i := by simpa using h3
    have e2 : b = j := by simpa using h4
    rw [e1, e2] at h5
    exact h5
  · intro h
    refine ⟨i, j, hi, hj, ?_, ?_, h⟩
    · rw [mz_t_1 (by omega)]
      simp
    · rw [mz_t_1 (by omega)]
      simp
theorem mz_bi2 {i j : Nat} (hi : i < 32) (hj : j < 32) (hne : ¬ i = j) : ((1 : Int32) <<< (nI i &&& 31)) &&& ((1 : Int32) <<< (nI j &&& 31)) = 0 := by
  refine mz_and0.mpr (fun k hk hx => ?_)
  have e : mz_t ((1 : Int32) <<< (nI i &&& 31)) k = true := hx
  rw [mz_t_1 hi] at e
  have e1 : k = i := by simpa using e
  have e2 : mz_t ((1 : Int32) <<< (nI j &&& 31)) k = false := by
    rw [mz_t_1 hj, e1]
    simpa using hne
  exact e2
/-- the class's answer for two single things -/
theorem mz_bars_1 {n i j : Nat} {fp fc gp : Nat → Int32} {z M C F : Int32} (hn : n ≤ 8) (hi : i < n) (hj : j < n) (hr : mz_rel n fp fc gp) (hacy : mz_acy n gp) (hz : mz_hp n z) (hzi : mz_t z i = false) (hM : mz_lst fp z M) (hl : mz_brl fp fc ((1 : Int32) <<< (nI i &&& 31)) z M C F) : (C ||| F) &&& ((1 : Int32) <<< (nI j &&& 31)) = 0 ↔ ¬ mz_pth n gp z (mz_Mm n gp z) i j := by
  have hd : ((1 : Int32) <<< (nI i &&& 31)) &&& z = 0 := by
    refine mz_and0.mpr (fun k hk hx => ?_)
    have e : mz_t ((1 : Int32) <<< (nI i &&& 31)) k = true := hx
    rw [mz_t_1 (by omega)] at e
    have e1 : k = i := by simpa using e
    rw [e1]
    exact hzi
  have b := mz_bars_law (b := (1 : Int32) <<< (nI j &&& 31)) hn hr hacy (mz_hp_bi hi hn) hz hd hM hl
  rw [mz_yea hn hi hj] at b
  constructor
  · intro h q
    exact b.mpr q h
  · intro h
    exact Classical.byContradiction (fun q => h (b.mp q))
theorem mz_hPb {n i j : Nat} {fp fc gp : Nat → Int32} {sh : Int32} {fs : Nat → Int32} (hn : n ≤ 8) (hi : i < n) (hj : j < n) (hr : mz_rel n fp fc gp) (hacy : mz_acy n gp) (hs : mz_sn n sh fs) : ∀ z, z < 256 → (∀ k, z.testBit k = true → mz_t (mz_amg sh i j) k = true) → ∀ M C F : Int32, mz_lst fp (nI z) M → mz_brl fp fc ((1 : Int32) <<< (nI i &&& 31)) (nI z) M C F → ((C ||| F) &&& ((1 : Int32) <<< (nI j &&& 31)) = 0 ↔ mz_PB n gp (mz_amg sh i j) i j z) := by
  intro z hz hsb M C F hM hl
  have tz : ∀ k, mz_t (nI z) k = z.testBit k := fun k => mz_t_nI (by omega)
  have hp : mz_hp n (nI z) := by
    intro k hk hx
    rw [tz] at hx
    exact mz_sn_lt hs hk (mz_amg_s (by omega) (by omega) hk (hsb k hx))
  have hzi : mz_t (nI z) i = false := by
    rw [tz]
    cases e : z.testBit i
    · rfl
    · have u := hsb i e
      rw [mz_amg_i (by omega) (by omega)] at u
      cases u
  rw [mz_bars_1 hn hi hj hr hacy hp hzi hM hl]
  constructor
  · intro h
    exact ⟨hz, hsb, h⟩
  · intro h
    exact h.2.2
theorem mz_wk_y {n i j q : Nat} {g : Nat → Int32} {am : Int32} (hq : q < 256) (h1 : (nI q) &&& (am ^^^ (-1)) = 0) (h2 : ¬ mz_pth n g (nI q) (mz_Mm n g (nI q)) i j) : mz_PB n g am i j q := ⟨hq, (mz_PB_sub hq).mp h1, h2⟩
theorem mz_wk_n1 {n i j q : Nat} {g : Nat → Int32} {am : Int32} (hq : q < 256) (h1 : ¬ (nI q) &&& (am ^^^ (-1)) = 0) : ¬ mz_PB n g am i j q := fun h => h1 ((mz_PB_sub hq).mpr h.2.1)
theorem mz_wk_n2 {n i j q : Nat} {g : Nat → Int32} {am : Int32} (h2 : mz_pth n g (nI q) (mz_Mm n g (nI q)) i j) : ¬ mz_PB n g am i j q := fun h => h.2.2 h2
def mz_tab (P : Nat → Prop) (m : Nat) (f : Nat → Int32) : Prop := ∀ q, q < m → (f q = 1 ∧ P q) ∨ (f q = 0 ∧ ¬ P q)
theorem mz_tab_0 {P : Nat → Prop} {f : Nat → Int32} : mz_tab P 0 f := fun q hq => absurd hq (Nat.not_lt_zero q)
theorem mz_tab_y {P : Nat → Prop} {m : Nat} {f : Nat → Int32} (h : mz_tab P m f) (hp : P m) : mz_tab P (m + 1) (upd f m (vp_nar .boolean 1)) := by
  intro q hq
  by_cases e : q = m
  · rw [e, pk_us]
    exact Or.inl ⟨by decide, hp⟩
  · rw [pk_un e]
    exact h q (by omega)
theorem mz_tab_n {P : Nat → Prop} {m : Nat} {f : Nat → Int32} (h : mz_tab P m f) (hp : ¬ P m) : mz_tab P (m + 1) (upd f m (vp_nar .boolean 0)) := by
  intro q hq
  by_cases e : q = m
  · rw [e, pk_us]
    exact Or.inr ⟨by decide, hp⟩
  · rw [pk_un e]
    exact h q (by omega)
theorem mz_tab_1 {P : Nat → Prop} {m q : Nat} {f : Nat → Int32} (h : mz_tab P m f) (hq : q < m) (hx : ¬ f q = 0) : P q := by
  rcases h q hq with c | c
  · exact c.2
  · exact absurd c.1 hx
theorem mz_tab_z {P : Nat → Prop} {m q : Nat} {f : Nat → Int32} (h : mz_tab P m f) (hq : q < m) (hx : f q = 0) : ¬ P q := by
  rcases h q hq with c | c
  · rw [hx] at c
    exact absurd c.1 (by decide)
  · exact c.2
theorem mz_ss_and {s z : Nat} : (nI s) &&& (nI z) = nI s ↔ mz_ss (nI s) (nI z) := by
  constructor
  · intro h j hj hx
    rw [← h, mz_t_and, Bool.and_eq_true] at hx
    exact hx.2
  · intro h
    refine mz_t_eq (fun j hj => ?_)
    rw [mz_t_and]
    cases e : mz_t (nI s) j
    · rfl
    · rw [h j hj e]
      rfl
theorem mz_il_s {P : Nat → Prop} {i z : Nat} (h : ∀ s, s < i → mz_ss (nI s) (nI z) → ¬ P s) (hx : mz_ss (nI i) (nI z) → ¬ P i) : ∀ s, s < i + 1 → mz_ss (nI s) (nI z) → ¬ P s := by
  intro s hs
  by_cases e : s = i
  · rw [e]
    exact hx
  · exact h s (by omega)
/-! fit -/
/-- neither t nor what is below it is in z -/
def mz_zf (n : Nat) (g : Nat → Int32) (z : Int32) (t : Nat) : Prop := mz_t z t = false ∧ ∀ S : Int32, mz_bs n g t S → ∀ k, k < n → mz_t S k = true → mz_t z k = false
/-- on the road from i to j -/
def mz_rd (n : Nat) (g : Nat → Int32) (i j m : Nat) (r : Int32) : Prop := ∀ t, t < 32 → (mz_t r t = true ↔ t = j ∨ (t < m ∧ t < n ∧ (∃ B : Int32, mz_bs n g i B ∧ mz_t B t = true) ∧ ∃ S : Int32, mz_bs n g t S ∧ mz_t S j = true))
def mz_ft (n : Nat) (g : Nat → Int32) (i j : Nat) (z : Int32) : Prop := (∀ B : Int32, mz_bs n g i B → mz_t B j = false → ¬ mz_pth n g z (mz_Mm n g z) i j) ∧ ∀ B r : Int32, mz_bs n g i B → mz_t B j = true → mz_rd n g i j n r → (∀ t, t < n → mz_t r t = true → mz_zf n g z t) ∧ ¬ mz_pth n (mz_pwo g (nI i) r) z (mz_Mm n (mz_pwo g (nI i) r) z) i j
theorem mz_ft_A {n i j : Nat} {g : Nat → Int32} {z B : Int32} (hj : j < n) (hB : mz_bs n g i B) (hb : mz_t B j = false) : mz_ft n g i j z ↔ ¬ mz_pth n g z (mz_Mm n g z) i j := by
  constructor
  · intro h
    exact h.1 B hB hb
  · intro h
    refine ⟨fun _ _ _ => h, fun B1 r h1 h2 _ => ?_⟩
    rw [mz_bs_one h1 hB hj, hb] at h2
    cases h2
theorem mz_rd_one {n i j : Nat} {g : Nat → Int32} {a b : Int32} (h1 : mz_rd n g i j n a) (h2 : mz_rd n g i j n b) : a = b := by
  refine mz_t_eq (fun t ht => ?_)
  have u := (h1 t ht).trans (h2 t ht).symm
  cases e1 : mz_t a t
  · cases e2 : mz_t b t
    · rfl
    · have := u.mpr e2
      rw [e1] at this
      cases this
  · exact (u.mp e1).symm
theorem mz_ft_B0 {n i j t : Nat} {g : Nat → Int32} {z B r : Int32} (hB : mz_bs n g i B) (hb : mz_t B j = true) (hr : mz_rd n g i j n r) (ht : t < n) (h1 : mz_t r t = true) (h2 : ¬ mz_zf n g z t) : ¬ mz_ft n g i j z := fun h => h2 ((h.2 B r hB hb hr).1 t ht h1)
theorem mz_ft_B1 {n i j : Nat} {g : Nat → Int32} {z B r : Int32} (hj : j < n) (hB : mz_bs n g i B) (hb : mz_t B j = true) (hr : mz_rd n g i j n r) (h1 : ∀ t, t < n → mz_t r t = true → mz_zf n g z t) : mz_ft n g i j z ↔ ¬ mz_pth n (mz_pwo g (nI i) r) z (mz_Mm n (mz_pwo g (nI i) r) z) i j := by
  constructor
  · intro h
    exact (h.2 B r hB hb hr).2
  · intro h
    refine ⟨fun B1 q1 q2 => ?_, fun B1 r1 q1 q2 q3 => ?_⟩
    · rw [mz_bs_one q1 hB hj, hb] at q2
      cases q2
    · rw [mz_rd_one q3 hr]
      exact ⟨h1, h⟩
theorem mz_zf_y {n t : Nat} {g : Nat → Int32} {z S : Int32} (hn : n ≤ 8) (ht : t < n) (hS : mz_bs n g t S) (h : z &&& (((1 : Int32) <<< (nI t &&& 31)) ||| S) = 0) : mz_zf n g z t := by
  have a : ∀ k, k < 32 → mz_t z k = true → mz_t (((1 : Int32) <<< (nI t &&& 31)) ||| S) k = false := fun k hk hx => mz_and0.mp h k hk hx
  refine ⟨?_, fun S1 h1 k hk hx => ?_⟩
  · cases e : mz_t z t
    · rfl
    · have u := a t (by omega) e
      rw [mz_t_or, mz_t_1 (by omega)] at u
      simp at u
  · cases e : mz_t z k
    · rfl
    · have u := a k (by omega) e
      rw [mz_t_or, ← mz_bs_one h1 hS hk, hx] at u
      simp at u
theorem mz_zf_n {n t : Nat} {g : Nat → Int32} {z S : Int32} (hn : n ≤ 8) (ht : t < n) (hS : mz_bs n g t S) (hz : mz_hp n z) (h : ¬ z &&& (((1 : Int32) <<< (nI t &&& 31)) ||| S) = 0) : ¬ mz_zf n g z t := by
  intro q
  apply h
  refine mz_and0.mpr (fun k hk hx => ?_)
  have hx2 : mz_t z k = true := hx
  have kn := hz k hk hx2
  have e : mz_t (((1 : Int32) <<< (nI t &&& 31)) ||| S) k = false := by
    rw [mz_t_or, mz_t_1 (by omega)]
    cases e1 : mz_t S k
    · by_cases c : k = t
      · rw [c, q.1] at hx2
        cases hx2
      · simpa using c
    · have u := q.2 S hS k kn e1
      rw [hx2] at u
      cases u
  exact e
/-- the class's heaps against the reference's -/
theorem mz_lst_n {n : Nat} {fc : Nat → Int32} {h S : Int32} (hf : ∀ k, k < 8 → ∀ j, j < 32 → mz_t (fc k) j = true → j < n) (hh : mz_hp n h) (hS : mz_lst fc h S) : mz_hp n S := by
  obtain ⟨Q, hQ⟩ := mz_comp n (fun _ => True)
  intro k hk hx
  exact ((hQ k hk).mp (hS.2.2 Q (fun k hk _ j hj hy => (hQ j hj).mpr ⟨hf k hk j hj hy, trivial⟩) (fun j hj hy => (hQ j hj).mpr ⟨hh j hj hy, trivial⟩) k hk hx)).1
theorem mz_road {n i j : Nat} {fp fc gp : Nat → Int32} {S R : Int32} (hn : n ≤ 8) (hi : i < n) (hj : j < n) (hr : mz_rel n fp fc gp) (hS : mz_lst fc (fc i) S) (hb : mz_t S j = true) (hR : mz_lst fp ((1 : Int32) <<< (nI j &&& 31)) R) : mz_rd n gp i j n (S &&& R) := by
  have hfc : ∀ k, k < 8 → ∀ j, j < 32 → mz_t (fc k) j = true → j < n := fun k hk j hj hx => (hr.2.2.2 k hk j hj hx).1
  have hSn := mz_lst_n hfc (fun k hk hx => hfc i (by omega) k hk hx) hS
  obtain ⟨B, hB, hB2⟩ := mz_bs_ex (G := gp) hn hi
  have hSB : ∀ k, k < n → mz_t S k = mz_t B k := mz_below hn hi hr hS hB
  have hRM := mz_M_eq hn hr.2.2.1 (mz_hp_bi hj hn) hR
  intro t ht
  rw [mz_t_and, Bool.and_eq_true]
  constructor
  · intro ⟨h1, h2⟩
    have tn := hSn t ht h1
    rcases (hRM t tn).mp h2 with h3 | ⟨S1, s1, k, k1, k2, k3⟩
    · rw [mz_t_1 (by omega)] at h3
      exact Or.inl (by simpa using h3)
    · rw [mz_t_1 (by omega)] at k3
      have e : k = j := by simpa using k3
      rw [e] at k2
      refine Or.inr ⟨tn, tn, ⟨B, hB, ?_⟩, S1, mz_bs_cg hr.1 s1, k2⟩
      rw [← hSB t tn]
      exact h1
  · intro h
    rcases h with h | ⟨tn, _, ⟨B1, b1, b2⟩, S1, s1, s2⟩
    · rw [h]
      refine ⟨hb, (hRM j hj).mpr (Or.inl ?_)⟩
      rw [mz_t_1 (by omega)]
      simp
    · refine ⟨?_, (hRM t tn).mpr (Or.inr ⟨S1, mz_bs_cg (fun k hk => (hr.1 k hk).symm) s1, j, hj, s2, ?_⟩)⟩
      · rw [hSB t tn, mz_bs_one hB b1 tn]
        exact b2
      · rw [mz_t_1 (by omega)]
        simp
/-- what is on the road or below it -/
theorem mz_wab {n : Nat} {fp fc gp : Nat → Int32} {r X : Int32} (hn : n ≤ 8) (hr : mz_rel n fp fc gp) (hrn : mz_hp n r) (hX : mz_lst fc r X) : ∀ k, k < 32 → (mz_t X k = true ↔ k < n ∧ ∃ t, t < n ∧ mz_t r t = true ∧ (k = t ∨ ∃ S : Int32, mz_bs n gp t S ∧ mz_t S k = true)) := by
  have hfc : ∀ k, k < 8 → ∀ j, j < 32 → mz_t (fc k) j = true → j < n := fun k hk j hj hx => (hr.2.2.2 k hk j hj hx).1
  have hXn := mz_lst_n hfc hrn hX
  obtain ⟨Q, hQ⟩ := mz_comp n (fun k => ∃ t, t < n ∧ mz_t r t = true ∧ (k = t ∨ ∃ S : Int32, mz_bs n gp t S ∧ mz_t S k = true))
  intro k hk
  constructor
  · intro hx
    refine (hQ k hk).mp (hX.2.2 Q (fun v hv hq u hu hy => ?_) (fun v hv hq => (hQ v hv).mpr ⟨hrn v hv hq, v, hrn v hv hq, hq, Or.inl rfl⟩) k hk hx)
    obtain ⟨vn, t, tn, t1, t2⟩ := (hQ v (by omega)).mp hq
    have un := hfc v hv u hu hy
    have har : mz_t (gp u) v = true := by
      rw [← hr.1 u un, ← hr.2.1 v u vn un]
      exact hy
    refine (hQ u hu).mpr ⟨un, t, tn, t1, Or.inr ?_⟩
    obtain ⟨T, hT, _⟩ := mz_bs_ex (G := gp) hn tn
    refine ⟨T, hT, ?_⟩
    rcases (mz_clo_i (n := n) (by omega) (by omega)).mp (hT.1 u un) with q | ⟨q1, q2⟩
    · exact q
    · rcases t2 with e | ⟨S, s1, s2⟩
      · rw [← e, har] at q1
        cases q1
      · have u5 := q2 v (by omega) har
        rw [mz_bs_one hT s1 vn, s2] at u5
        cases u5
  · intro ⟨kn, t, tn, t1, t2⟩
    have tX := hX.1 t (by omega) t1
    rcases t2 with e | ⟨S, s1, s2⟩
    · rw [e]
      exact tX
    · obtain ⟨Q2, hQ2⟩ := mz_comp n (fun v => mz_t X v = true)
      have cl : ∀ q, q < n → mz_clo gp (nI t) Q2 q := by
        intro q hq
        rw [mz_clo_i (n := n) (by omega) (by omega)]
        cases e : mz_t Q2 q
        · right
          have no : ¬ mz_t X q = true := fun h => by
            rw [(hQ2 q (by omega)).mpr ⟨hq, h⟩] at e
            cases e
          have ch : ∀ v, v < n → mz_t (gp q) v = true → mz_t X v = true → False := by
            intro v vn hv hvx
            apply no
            refine hX.2.1 v (by omega) hvx q (by omega) ?_
            rw [hr.2.1 v q vn hq, hr.1 q hq]
            exact hv
          refine ⟨?_, fun v hv hx => ?_⟩
          · cases e2 : mz_t (gp q) t
            · rfl
            · exact (ch t tn e2 tX).elim
          · cases e2 : mz_t Q2 v
            · rfl
            · obtain ⟨vn, vx⟩ := (hQ2 v hv).mp e2
              exact (ch v vn hx vx).elim
        · exact Or.inl rfl
      exact ((hQ2 k hk).mp (s1.2 Q2 cl k kn s2)).2
/-- the class's drawing with some arrows left out -/
def mz_tc (fc : Nat → Int32) (i : Nat) (r : Int32) (k : Nat) : Int32 := if k = i then (fc k) &&& (r ^^^ (-1)) else fc k
theorem mz_pwo_t {fp : Nat → Int32} {i k u : Nat} {r : Int32} (hi : i < 32) (hu : u < 32) : mz_t (mz_pwo fp (nI i) r k) u = (mz_t (fp k) u && !(mz_t r k && decide (u = i))) := by
  unfold mz_pwo
  cases e : mz_t r k
  · rw [if_neg (by decide)]
    simp
  · rw [if_pos rfl, mz_t_and, mz_t_not hu, mz_t_1 hi]
    simp
theorem mz_tc_t {fc : Nat → Int32} {i k u : Nat} {r : Int32} (hu : u < 32) : mz_t (mz_tc fc i r k) u = (mz_t (fc k) u && !(mz_t r u && decide (k = i))) := by
  unfold mz_tc
  by_cases e : k = i
  · rw [if_pos e, mz_t_and, mz_t_not hu]
    simp [e]
  · rw [if_neg e]
    simp [e]
theorem mz_rel_wo {n i : Nat} {fp fc gp : Nat → Int32} {r : Int32} (hn : n ≤ 8) (hi : i < n) (hr : mz_rel n fp fc gp) : mz_rel n (mz_pwo fp (nI i) r) (mz_tc fc i r) (mz_pwo gp (nI i) r) := by
  obtain ⟨r1, r2, r3, r4⟩ := hr
  refine ⟨fun k hk => ?_, fun a b ha hb => ?_, fun k hk j hj hx => ?_, fun k hk j hj hx => ?_⟩
  · unfold mz_pwo
    rw [r1 k hk]
  · rw [mz_tc_t (by omega), mz_pwo_t (by omega) (by omega), r2 a b ha hb]
  · rw [mz_pwo_t (by omega) hj, Bool.and_eq_true] at hx
    exact r3 k hk j hj hx.1
  · rw [mz_tc_t hj, Bool.and_eq_true] at hx
    exact r4 k hk j hj hx.1
theorem mz_acy_wo {n i : Nat} {gp : Nat → Int32} {r : Int32} (hn : n ≤ 8) (hi : i < n) (ha : mz_acy n gp) : mz_acy n (mz_pwo gp (nI i) r) := by
  refine mz_acy_less ha (fun t _ u hu hx => ?_)
  have e : mz_t (mz_pwo gp (nI i) r t) u = true := hx
  rw [mz_pwo_t (by omega) hu, Bool.and_eq_true] at e
  exact e.1
/-- what the class must know of its answer -/
def mz_fA (fp fc : Nat → Int32) (i j : Nat) (z : Int32) (Q : Prop) : Prop := ∀ S M C F : Int32, mz_lst fc (fc i) S → mz_t S j = false → mz_lst fp z M → mz_brl fp fc ((1 : Int32) <<< (nI i &&& 31)) z M C F → ((C ||| F) &&& ((1 : Int32) <<< (nI j &&& 31)) = 0 ↔ Q)
def mz_fB (fp fc : Nat → Int32) (i j : Nat) (z : Int32) (Q : Prop) : Prop := ∀ S R X : Int32, mz_lst fc (fc i) S → mz_t S j = true → mz_lst fp ((1 : Int32) <<< (nI j &&& 31)) R → mz_lst fc (S &&& R) X → (¬ z &&& X = 0 → ¬ Q) ∧ (z &&& X = 0 → ∀ M C F : Int32, mz_lst (mz_pwo fp (nI i) (S &&& R)) z M → mz_brl (mz_pwo fp (nI i) (S &&& R)) (mz_tc fc i (S &&& R)) ((1 : Int32) <<< (nI i &&& 31)) z M C F → ((C ||| F) &&& ((1 : Int32) <<< (nI j &&& 31)) = 0 ↔ Q))
theorem mz_fit_A {n i j : Nat} {fp fc gp : Nat → Int32} {z : Int32} (hn : n ≤ 8) (hi : i < n) (hj : j < n) (hr : mz_rel n fp fc gp) (ha : mz_acy n gp) (hz : mz_hp n z) (hzi : mz_t z i = false) : mz_fA fp fc i j z (mz_ft n gp i j z) := by
  intro S M C F hS hb hM hl
  obtain ⟨B, hB, _⟩ := mz_bs_ex (G := gp) hn hi
  have e : mz_t B j = false := by
    rw [← mz_below hn hi hr hS hB j hj]
    exact hb
  rw [mz_ft_A hj hB e]
  exact mz_bars_1 hn hi hj hr ha hz hzi hM hl
theorem mz_fit_B {n i j : Nat} {fp fc gp : Nat → Int32} {z : Int32} (hn : n ≤ 8) (hi : i < n) (hj : j < n) (hr : mz_rel n fp fc gp) (ha : mz_acy n gp) (hz : mz_hp n z) (hzi : mz_t z i = false) : mz_fB fp fc i j z (mz_ft n gp i j z) := by
  intro S R X hS hb hR hX
  have hfc : ∀ k, k < 8 → ∀ j, j < 32 → mz_t (fc k) j = true → j < n := fun k hk j hj hx => (hr.2.2.2 k hk j hj hx).1
  have hSn := mz_lst_n hfc (fun k hk hx => hfc i (by omega) k hk hx) hS
  have hrn : mz_hp n (S &&& R) := by
    intro k hk hx
    rw [mz_t_and, Bool.and_eq_true] at hx
    exact hSn k hk hx.1
  have hrd := mz_road hn hi hj hr hS hb hR
  have hw := mz_wab hn hr hrn hX
  obtain ⟨B, hB, _⟩ := mz_bs_ex (G := gp) hn hi
  have e : mz_t B j = true := by
    rw [← mz_below hn hi hr hS hB j hj]
    exact hb
  refine ⟨fun h => ?_, fun h M C F hM hl => ?_⟩
  · have h1 : ∃ k, k < 32 ∧ mz_t z k = true ∧ mz_t X k = true := by
      apply Classical.byContradiction
      intro no
      apply h
      refine mz_and0.mpr (fun k hk hx => ?_)
      have e2 : mz_t X k = false := by
        cases e2 : mz_t X k
        · rfl
        · exact absurd ⟨k, hk, hx, e2⟩ no
      exact e2
    obtain ⟨k, hk, k1, k2⟩ := h1
    obtain ⟨kn, t, tn, t1, t2⟩ := (hw k hk).mp k2
    refine mz_ft_B0 hB e hrd tn t1 (fun q => ?_)
    rcases t2 with e2 | ⟨T, s1, s2⟩
    · rw [e2, q.1] at k1
      cases k1
    · rw [q.2 T s1 k kn s2] at k1
      cases k1
  · rw [mz_ft_B1 hj hB e hrd (fun t tn t1 => ?_)]
    · exact mz_bars_1 hn hi hj (mz_rel_wo hn hi hr) (mz_acy_wo hn hi ha) hz hzi hM hl
    · have zx : ∀ k, k < 32 → mz_t X k = true → mz_t z k = false := by
        intro k hk hx
        cases e2 : mz_t z k
        · rfl
        · have u : mz_t X k = false := mz_and0.mp h k hk e2
          rw [hx] at u
          cases u
      refine ⟨zx t (by omega) ((hw t (by omega)).mpr ⟨tn, t, tn, t1, Or.inl rfl⟩), fun T s1 k kn s2 => ?_⟩
      exact zx k (by omega) ((hw k (by omega)).mpr ⟨kn, t, tn, t1, Or.inr ⟨T, s1, s2⟩⟩)
/-! the reference's road -/
theorem mz_rd_0 {n i j : Nat} {g : Nat → Int32} (hj : j < 32) : mz_rd n g i j 0 ((1 : Int32) <<< (nI j &&& 31)) := by
  intro t ht
  rw [mz_t_1 hj]
  constructor
  · intro h
    exact Or.inl (by simpa using h)
  · intro h
    rcases h with h | h
    · simpa using h
    · omega
theorem mz_rd_y {n i j m : Nat} {g : Nat → Int32} {r B S : Int32} (hn : n ≤ 8) (hm : m < n) (h : mz_rd n g i j m r) (hB : mz_bs n g i B) (hS : mz_bs n g m S) (h1 : mz_t B m = true) (h2 : mz_t S j = true) : mz_rd n g i j (m + 1) (r ||| ((1 : Int32) <<< (nI m &&& 31))) := by
  intro t ht
  rw [mz_t_or, mz_t_1 (by omega), Bool.or_eq_true, h t ht]
  constructor
  · intro q
    rcases q with (q | ⟨q1, q2⟩) | q
    · exact Or.inl q
    · exact Or.inr ⟨by omega, q2⟩
    · have e : t = m := by simpa using q
      rw [e]
      exact Or.inr ⟨by omega, hm, ⟨B, hB, h1⟩, S, hS, h2⟩
  · intro q
    rcases q with q | ⟨q1, q2⟩
    · exact Or.inl (Or.inl q)
    · by_cases e : t = m
      · exact Or.inr (by simpa using e)
      · exact Or.inl (Or.inr ⟨by omega, q2⟩)
theorem mz_rd_n {n i j m : Nat} {g : Nat → Int32} {r B S : Int32} (hj : j < n) (hm : m < n) (h : mz_rd n g i j m r) (hB : mz_bs n g i B) (hx : mz_t B m = false ∨ (mz_bs n g m S ∧ mz_t S j = false)) : mz_rd n g i j (m + 1) r := by
  intro t ht
  rw [h t ht]
  constructor
  · intro q
    rcases q with q | ⟨q1, q2⟩
    · exact Or.inl q
    · exact Or.inr ⟨by omega, q2⟩
  · intro q
    rcases q with q | ⟨q1, q2, ⟨B1, b1, b2⟩, S1, s1, s2⟩
    · exact Or.inl q
    · by_cases e : t = m
      · rw [e] at b2 s1
        rcases hx with hx | ⟨x1, x2⟩
        · rw [mz_bs_one b1 hB hm, hx] at b2
          cases b2
        · rw [mz_bs_one s1 x1 hj, x2] at s2
          cases s2
      · exact Or.inr ⟨by omega, q2, ⟨B1, b1, b2⟩, S1, s1, s2⟩
theorem mz_zfs {n i : Nat} {g : Nat → Int32} {z r : Int32} (h : ∀ t, t < i → mz_t r t = true → mz_zf n g z t) (hx : mz_t r i = true → mz_zf n g z i) : ∀ t, t < i + 1 → mz_t r t = true → mz_zf n g z t := by
  intro t ht
  by_cases e : t = i
  · rw [e]
    exact hx
  · exact h t (by omega)
theorem mz_thp_s {fp f : Nat → Int32} {a r v : Int32} {i : Nat} (h : ∀ k, k < i → f k = mz_pwo fp a r k) (hv : v = mz_pwo fp a r i) : ∀ k, k < i + 1 → upd f i v k = mz_pwo fp a r k := by
  intro k hk
  by_cases e : k = i
  · rw [e, pk_us]
    exact hv
  · rw [pk_un e]
    exact h k (by omega)
theorem mz_thc_s {fc f : Nat → Int32} {r v : Int32} {a i : Nat} (h : ∀ k, k < i → f k = mz_tc fc a r k) (hv : v = mz_tc fc a r i) : ∀ k, k < i + 1 → upd f i v k = mz_tc fc a r k := by
  intro k hk
  by_cases e : k = i
  · rw [e, pk_us]
    exact hv
  · rw [pk_un e]
    exact h k (by omega)
theorem mz_tc_1 {fc : Nat → Int32} {a i : Nat} {r : Int32} (h : i = a) : (fc i) &&& (r ^^^ (-1)) = mz_tc fc a r i := by
  unfold mz_tc
  rw [if_pos h]
theorem mz_tc_0 {fc : Nat → Int32} {a i : Nat} {r : Int32} (h : ¬ i = a) : fc i = mz_tc fc a r i := by
  unfold mz_tc
  rw [if_neg h]
theorem mz_cl2_8 {f g : Nat → Int32} {F : Int32} (h : ∀ k, k < 8 → f k = g k) (hc : mz_cl2 f F) : mz_cl2 g F := fun k hk hx => by
  rw [← h k hk]
  exact hc k hk hx
theorem mz_lst_8 {f g : Nat → Int32} {z M : Int32} (h : ∀ k, k < 8 → f k = g k) (hl : mz_lst f z M) : mz_lst g z M := ⟨hl.1, mz_cl2_8 h hl.2.1, fun F hF => hl.2.2 F (mz_cl2_8 (fun k hk => (h k hk).symm) hF)⟩
theorem mz_br_8 {f g u v : Nat → Int32} {a z M C F : Int32} (h1 : ∀ k, k < 8 → f k = g k) (h2 : ∀ k, k < 8 → u k = v k) (hb : mz_br f u a z M C F) : mz_br g v a z M C F := ⟨hb.1, fun k hk hx => by
  rw [← h1 k hk]
  exact hb.2.1 k hk hx, fun k hk hx hz => by
  rw [← h2 k hk]
  exact hb.2.2 k hk hx hz⟩
theorem mz_brl_8 {f g u v : Nat → Int32} {a z M C F : Int32} (h1 : ∀ k, k < 8 → f k = g k) (h2 : ∀ k, k < 8 → u k = v k) (hl : mz_brl f u a z M C F) : mz_brl g v a z M C F := ⟨mz_br_8 h1 h2 hl.1, fun C1 F1 hb => hl.2 C1 F1 (mz_br_8 (fun k hk => (h1 k hk).symm) (fun k hk => (h2 k hk).symm) hb)⟩
theorem mz_t8_p {fp f : Nat → Int32} {i : Nat} {r : Int32} (hi : i < 8) (h : ∀ k, k < 8 → f k = mz_pwo fp (nI i) r k) (hp : ∀ k, k < 8 → ∀ j, j < 32 → mz_t (fp k) j = true → j < 8) : ∀ k, k < 8 → ∀ j, j < 32 → mz_t (f k) j = true → j < 8 := by
  intro k hk j hj hx
  rw [h k hk, mz_pwo_t (by omega) hj, Bool.and_eq_true] at hx
  exact hp k hk j hj hx.1
theorem mz_t8_c {fc f : Nat → Int32} {i : Nat} {r : Int32} (h : ∀ k, k < 8 → f k = mz_tc fc i r k) (hp : ∀ k, k < 8 → ∀ j, j < 32 → mz_t (fc k) j = true → j < 8) : ∀ k, k < 8 → ∀ j, j < 32 → mz_t (f k) j = true → j < 8 := by
  intro k hk j hj hx
  rw [h k hk, mz_tc_t hj, Bool.and_eq_true] at hx
  exact hp k hk j hj hx.1
