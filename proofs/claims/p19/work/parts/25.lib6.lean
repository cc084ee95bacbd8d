/-! heaps as sets: what is gathered, the least heap that is closed -/
def mz_t (x : Int32) (j : Nat) : Bool := x.toBitVec.getLsbD j
theorem mz_t_or {a b : Int32} {j : Nat} : mz_t (a ||| b) j = (mz_t a j || mz_t b j) := by
  unfold mz_t
  rw [Int32.toBitVec_or, BitVec.getLsbD_or]
theorem mz_t_and {a b : Int32} {j : Nat} : mz_t (a &&& b) j = (mz_t a j && mz_t b j) := by
  unfold mz_t
  rw [Int32.toBitVec_and, BitVec.getLsbD_and]
theorem mz_t_not {a : Int32} {j : Nat} (hj : j < 32) : mz_t (a ^^^ (-1)) j = !mz_t a j := by
  unfold mz_t
  rw [Int32.toBitVec_xor, BitVec.getLsbD_xor, mz_ones hj]
  simp
theorem mz_t_1 {i j : Nat} (hj : j < 32) : mz_t ((1 : Int32) <<< (nI j &&& 31)) i = decide (i = j) := mz_one hj
theorem mz_t_0 {j : Nat} : mz_t 0 j = false := by
  unfold mz_t
  simp
theorem mz_t_eq {a b : Int32} (h : ∀ j, j < 32 → mz_t a j = mz_t b j) : a = b := by
  apply Int32.toBitVec_inj.mp
  apply BitVec.eq_of_getLsbD_eq
  intro i hi
  exact h i hi
theorem mz_t_y {x : Int32} {j : Nat} (hj : j < 32) (h : (x >>> (nI j &&& 31)) &&& 1 = 1) : mz_t x j = true := (mz_b1 hj).mp h
theorem mz_t_n {x : Int32} {j : Nat} (hj : j < 32) (h : ¬ (x >>> (nI j &&& 31)) &&& 1 = 1) : mz_t x j = false := mz_nb hj h
def mz_ss (a b : Int32) : Prop := ∀ j, j < 32 → mz_t a j = true → mz_t b j = true
def mz_cl2 (f : Nat → Int32) (F : Int32) : Prop := ∀ k, k < 8 → mz_t F k = true → mz_ss (f k) F
/-- r is the least heap that holds h and, with each of its things, that thing's row -/
def mz_lst (f : Nat → Int32) (h r : Int32) : Prop := mz_ss h r ∧ mz_cl2 f r ∧ ∀ F, mz_cl2 f F → mz_ss h F → mz_ss r F
def mz_ga (f : Nat → Int32) (h : Int32) (i : Nat) (r : Int32) : Prop := ∀ j, j < 32 → (mz_t r j = true ↔ ∃ k, k < i ∧ mz_t h k = true ∧ mz_t (f k) j = true)
theorem mz_ga_0 {f : Nat → Int32} {h : Int32} : mz_ga f h 0 0 := by
  intro j hj
  constructor
  · intro e
    rw [mz_t_0] at e
    cases e
  · intro ⟨k, hk, _⟩
    omega
theorem mz_ga_y {f : Nat → Int32} {h r : Int32} {i : Nat} (hg : mz_ga f h i r) (ht : mz_t h i = true) : mz_ga f h (i + 1) (r ||| (f i)) := by
  intro j hj
  rw [mz_t_or, Bool.or_eq_true, hg j hj]
  constructor
  · intro e
    rcases e with ⟨k, h1, h2⟩ | e
    · exact ⟨k, by omega, h2⟩
    · exact ⟨i, by omega, ht, e⟩
  · intro ⟨k, h1, h2, h3⟩
    by_cases e : k = i
    · subst e
      exact Or.inr h3
    · exact Or.inl ⟨k, by omega, h2, h3⟩
theorem mz_ga_n {f : Nat → Int32} {h r : Int32} {i : Nat} (hg : mz_ga f h i r) (ht : mz_t h i = false) : mz_ga f h (i + 1) r := by
  intro j hj
  rw [hg j hj]
  constructor
  · intro ⟨k, h1, h2⟩
    exact ⟨k, by omega, h2⟩
  · intro ⟨k, h1, h2, h3⟩
    by_cases e : k = i
    · subst e
      rw [ht] at h2
      cases h2
    · exact ⟨k, by omega, h2, h3⟩
theorem mz_lst_done {f : Nat → Int32} {h r q : Int32} (hg : mz_ga f r 8 q) (e : r ||| q = r) (h1 : mz_ss h r) (h3 : ∀ F, mz_cl2 f F → mz_ss h F → mz_ss r F) : mz_lst f h r := by
  refine ⟨h1, fun k hk hr j hj hx => ?_, h3⟩
  have h5 : mz_t q j = true := (hg j hj).mpr ⟨k, hk, hr, hx⟩
  rw [← e, mz_t_or, h5]
  simp
theorem mz_lst_min {f : Nat → Int32} {h r q : Int32} (hg : mz_ga f r 8 q) (h3 : ∀ F, mz_cl2 f F → mz_ss h F → mz_ss r F) : ∀ F, mz_cl2 f F → mz_ss h F → mz_ss (r ||| q) F := by
  intro F hF hh j hj hx
  rw [mz_t_or, Bool.or_eq_true] at hx
  rcases hx with hx | hx
  · exact h3 F hF hh j hj hx
  · obtain ⟨k, hk, h4, h5⟩ := (hg j hj).mp hx
    exact hF k hk (h3 F hF hh k (by omega) h4) j hj h5
theorem mz_lst_sup {h r q : Int32} (h1 : mz_ss h r) : mz_ss h (r ||| q) := by
  intro j hj hx
  rw [mz_t_or, h1 j hj hx]
  simp
theorem mz_un_grow {f : Nat → Int32} {r q : Int32} (hg : mz_ga f r 8 q) (hf : ∀ k, k < 8 → ∀ j, j < 32 → mz_t (f k) j = true → j < 8) (e : ¬ (r ||| q) = r) : mz_un (r ||| q) 8 < mz_un r 8 ∧ mz_un r 8 ≤ 7 := by
  have h1 : ∃ j, j < 32 ∧ mz_t q j = true ∧ mz_t r j = false := by
    apply Classical.byContradiction
    intro hno
    apply e
    apply mz_t_eq
    intro j hj
    rw [mz_t_or]
    cases hq : mz_t q j
    · simp
    · cases hr : mz_t r j
      · exact absurd ⟨j, hj, hq, hr⟩ hno
      · simp
  obtain ⟨j, hj, hq, hr⟩ := h1
  obtain ⟨k, hk, hk2, hk3⟩ := (hg j hj).mp hq
  have hj8 := hf k hk j hj hk3
  constructor
  · have a1 := mz_un_set (F := r) (k := j) ((mz_b0 hj).mpr hr) (n := 8) (by decide) hj8
    have a2 := mz_un_mono (F := r ||| ((1 : Int32) <<< (nI j &&& 31))) (G := r ||| q) (n := 8) (by decide) (fun i hi hx => by
      rw [Int32.toBitVec_or, BitVec.getLsbD_or, mz_one hj]
      rw [Int32.toBitVec_or, BitVec.getLsbD_or, Bool.or_eq_false_iff] at hx
      have : i ≠ j := by
        intro e2
        subst e2
        have : mz_t q i = false := hx.2
        rw [hq] at this
        cases this
      simp [hx.1, this])
    omega
  · have a1 := mz_un_one (F := r) (k := k) (by omega) (n := 8) (by decide)
    have a3 : r ||| ((1 : Int32) <<< (nI k &&& 31)) = r := by
      apply mz_t_eq
      intro i hi
      rw [mz_t_or, mz_t_1 (by omega)]
      by_cases e2 : i = k
      · subst e2
        rw [hk2]
        simp
      · simp [e2]
    have a4 : ∀ (F : Int32) (n : Nat), mz_un F n ≤ n := by
      intro F n
      induction n with
      | zero => exact Nat.le_refl _
      | succ n ih =>
        unfold mz_un
        split <;> omega
    have a5 : mz_un r 8 < 8 := by
      rcases Nat.lt_or_ge (mz_un r 8) 8 with q | q
      · exact q
      · exfalso
        have a6 : ∀ n, n ≤ 8 → mz_un r n = n := by
          intro n hn
          have b1 : ∀ d n, n + d = 8 → mz_un r n = n := by
            intro d
            induction d with
            | zero =>
              intro n h
              have := a4 r n
              have : n = 8 := by omega
              subst this
              omega
            | succ d ih =>
              intro n h
              have b2 := ih (n + 1) (by omega)
              have b3 := a4 r n
              unfold mz_un at b2
              by_cases b4 : (r >>> (nI n &&& 31)) &&& 1 = 0
              · rw [if_pos b4] at b2
                omega
              · rw [if_neg b4] at b2
                omega
          exact b1 (8 - n) n (by omega)
        have a7 := a6 (k + 1) (by omega)
        have a8 := a6 k (by omega)
        unfold mz_un at a7
        rw [if_neg (fun q => by
          have := (mz_b0 (show k < 32 by omega)).mp q
          have h9 : mz_t r k = false := this
          rw [hk2] at h9
          cases h9)] at a7
        omega
    omega
/-- a book's page j is blank up to row i, all else is as it was -/
def mz_bkp (fb g : Nat → Int32) (j i : Nat) : Prop := ∀ q, g q = if 128 * j ≤ q ∧ q < 128 * j + i then 50 else fb q
theorem mz_bk_0 {fb : Nat → Int32} {j : Nat} : mz_bkp fb fb j 0 := by
  intro q
  rw [if_neg (by omega)]
theorem mz_bk_s {fb g : Nat → Int32} {j i q : Nat} (h : mz_bkp fb g j i) (e : q = 128 * j + i) : mz_bkp fb (upd g q 50) j (i + 1) := by
  intro k
  by_cases a : k = q
  · subst a
    rw [pk_us, if_pos (by omega)]
  · rw [pk_un a, h k]
    by_cases b : 128 * j ≤ k ∧ k < 128 * j + i
    · rw [if_pos b, if_pos (by omega)]
    · rw [if_neg b, if_neg (by omega)]
theorem mz_lst_one {f : Nat → Int32} {h a b : Int32} (ha : mz_lst f h a) (hb : mz_lst f h b) {j : Nat} (hj : j < 32) : mz_t a j = mz_t b j := by
  cases e1 : mz_t a j
  · cases e2 : mz_t b j
    · rfl
    · have := hb.2.2 a ha.2.1 ha.1 j hj e2
      rw [e1] at this
      cases this
  · have := ha.2.2 b hb.2.1 hb.1 j hj e1
    rw [this]
/-- an arrow may come from i to j, as the class reckons it -/
def mz_can (fp fc : Nat → Int32) (i j : Nat) : Prop := ¬ i = j ∧ mz_t ((fp i) ||| (fc i)) j = false ∧ ∃ S, mz_lst fc (fc j) S ∧ mz_t S i = false
def mz_cant (fp fc : Nat → Int32) (i j : Nat) : Prop := i = j ∨ mz_t ((fp i) ||| (fc i)) j = true ∨ ∃ S, mz_lst fc (fc j) S ∧ mz_t S i = true
theorem mz_excl {fp fc : Nat → Int32} {i j : Nat} (hi : i < 32) (h1 : mz_can fp fc i j) (h2 : mz_cant fp fc i j) : False := by
  obtain ⟨a1, a2, S, a3, a4⟩ := h1
  rcases h2 with b | b | ⟨S2, b1, b2⟩
  · exact a1 b
  · rw [a2] at b
    cases b
  · rw [mz_lst_one a3 b1 hi, b2] at a4
    cases a4
/-- what is below t, as the reference reckons it: closed, and the least such -/
def mz_bs (n : Nat) (g : Nat → Int32) (t : Nat) (S : Int32) : Prop := (∀ k, k < n → mz_clo g (nI t) S k) ∧ ∀ F : Int32, (∀ k, k < n → mz_clo g (nI t) F k) → ∀ k, k < n → mz_t S k = true → mz_t F k = true
/-- the two drawings are one: parents alike, children are parents turned round, nothing beyond n -/
def mz_rel (n : Nat) (fp fc gp : Nat → Int32) : Prop := (∀ k, k < n → fp k = gp k) ∧ (∀ i j, i < n → j < n → mz_t (fc i) j = mz_t (fp j) i) ∧ (∀ k, k < n → ∀ j, j < 32 → mz_t (fp k) j = true → j < n) ∧ (∀ k, k < 8 → ∀ j, j < 32 → mz_t (fc k) j = true → j < n ∧ k < n)
/-- both reckon the same things below t -/
theorem mz_below {n t : Nat} {fp fc gp : Nat → Int32} {S1 S2 : Int32} (hn : n ≤ 8) (ht : t < n) (hr : mz_rel n fp fc gp) (h1 : mz_lst fc (fc t) S1) (h2 : mz_bs n gp t S2) : ∀ k, k < n → mz_t S1 k = mz_t S2 k := by
  obtain ⟨r1, r2, r3, r4⟩ := hr
  obtain ⟨a1, a2, a3⟩ := h1
  obtain ⟨b1, b2⟩ := h2
  have c1 : ∀ k, k < n → mz_clo gp (nI t) S1 k := by
    intro k hk
    by_cases e : mz_t S1 k = true
    · left
      intro q
      have := (mz_b0 (show k < 32 by omega)).mp q
      have h9 : mz_t S1 k = false := this
      rw [e] at h9
      cases h9
    · right
      constructor
      · intro q
        apply e
        apply a1 k (by omega)
        rw [r2 t k ht hk, r1 k hk]
        exact mz_t_y (by omega) q
      · apply mz_and0.mpr
        intro i hi hx
        have hx2 : mz_t (fp k) i = true := by rw [r1 k hk]; exact hx
        have hin := r3 k hk i hi hx2
        cases hs : mz_t S1 i
        · exact hs
        · exfalso
          apply e
          apply a2 i (by omega) hs k (by omega)
          rw [r2 i k hin hk]
          exact hx2
  intro k hk
  cases e1 : mz_t S1 k
  · cases e2 : mz_t S2 k
    · rfl
    · have := b2 S1 c1 k hk e2
      rw [e1] at this
      cases this
  · -- S2, cut to the things there are, is closed for the class too
    obtain ⟨M, hM⟩ : ∃ M : Int32, ∀ j, j < 32 → mz_t M j = (decide (j < n) && mz_t S2 j) := by
      have hall : ∀ m, m ≤ 8 → ∃ M : Int32, ∀ j, j < 32 → mz_t M j = decide (j < m) := by
        intro m hm
        refine ⟨nI (2 ^ m - 1), ?_⟩
        have h5 : ∀ m : Nat, m ≤ 8 → ∀ j : Nat, j < 32 → (nI (2 ^ m - 1)).toBitVec.getLsbD j = decide (j < m) := by decide +kernel
        exact fun j hj => h5 m hm j hj
      obtain ⟨M, hM⟩ := hall n hn
      exact ⟨M &&& S2, fun j hj => by rw [mz_t_and, hM j hj]⟩
    have d1 : mz_cl2 fc M := by
      intro q hq hx j hj hy
      rw [hM q (by omega), Bool.and_eq_true] at hx
      obtain ⟨hqn, hq2⟩ := hx
      have hqn : q < n := by simpa using hqn
      have hjn := (r4 q hq j hj hy).1
      rw [hM j hj, Bool.and_eq_true]
      refine ⟨by simpa using hjn, ?_⟩
      rcases b1 j hjn with c | ⟨c, c2⟩
      · cases e3 : mz_t S2 j
        · exact absurd ((mz_b0 (show j < 32 by omega)).mpr e3) c
        · rfl
      · exfalso
        rw [r2 q j hqn hjn, r1 j hjn] at hy
        have := mz_and0.mp c2 q (by omega) hy
        have h9 : mz_t S2 q = false := this
        rw [hq2] at h9
        cases h9
    have d2 : mz_ss (fc t) M := by
      intro j hj hy
      have hjn := (r4 t (by omega) j hj hy).1
      rw [hM j hj, Bool.and_eq_true]
      refine ⟨by simpa using hjn, ?_⟩
      rcases b1 j hjn with c | ⟨c, c2⟩
      · cases e3 : mz_t S2 j
        · exact absurd ((mz_b0 (show j < 32 by omega)).mpr e3) c
        · rfl
      · exfalso
        rw [r2 t j ht hjn, r1 j hjn] at hy
        exact c ((mz_b1 (by omega)).mpr hy)
    have d3 := a3 M d1 d2 k (by omega) e1
    rw [hM k (by omega), Bool.and_eq_true] at d3
    rw [d3.2]
theorem mz_bs_add {n t k : Nat} {g : Nat → Int32} {X : Int32} (hn : n ≤ 8) (hk : k < n) (hg : ∀ k, k < n → ∀ j, j < 32 → mz_t (g k) j = true → j < n) (hm : ∀ F : Int32, (∀ k, k < n → mz_clo g (nI t) F k) → ∀ k, k < n → mz_t X k = true → mz_t F k = true) (hc : ((g k) >>> (nI t &&& 31)) &&& 1 = 1 ∨ ¬ (g k) &&& X = 0) : ∀ F : Int32, (∀ k, k < n → mz_clo g (nI t) F k) → ∀ q, q < n → mz_t (X ||| ((1 : Int32) <<< (nI k &&& 31))) q = true → mz_t F q = true := by
  intro F hF q hq hx
  rw [mz_t_or, mz_t_1 (by omega), Bool.or_eq_true] at hx
  rcases hx with hx | hx
  · exact hm F hF q hq hx
  · have e : q = k := by simpa using hx
    subst e
    rcases hF q hq with c | ⟨c, c2⟩
    · cases e3 : mz_t F q
      · exact absurd ((mz_b0 (show q < 32 by omega)).mpr e3) c
      · rfl
    · exfalso
      rcases hc with hc | hc
      · exact c hc
      · apply hc
        apply mz_and0.mpr
        intro i hi hy
        have hin := hg q hq i hi hy
        cases hs : mz_t X i
        · exact hs
        · have h8 := hm F hF i hin hs
          have h9 : mz_t F i = false := mz_and0.mp c2 i hi hy
          rw [h8] at h9
          cases h9
theorem mz_bs_one {n t : Nat} {g : Nat → Int32} {a b : Int32} (ha : mz_bs n g t a) (hb : mz_bs n g t b) {j : Nat} (hj : j < n) : mz_t a j = mz_t b j := by
  cases e1 : mz_t a j
  · cases e2 : mz_t b j
    · rfl
    · have := hb.2 a ha.1 j hj e2
      rw [e1] at this
      cases this
  · rw [ha.2 b hb.1 j hj e1]
def mz_mcan (n : Nat) (g : Nat → Int32) (i j : Nat) : Prop := ¬ i = j ∧ mz_t (g j) i = false ∧ mz_t (g i) j = false ∧ ∃ S, mz_bs n g j S ∧ mz_t S i = false
def mz_mcant (n : Nat) (g : Nat → Int32) (i j : Nat) : Prop := i = j ∨ mz_t (g j) i = true ∨ mz_t (g i) j = true ∨ ∃ S, mz_bs n g j S ∧ mz_t S i = true
theorem mz_mexcl {n : Nat} {g : Nat → Int32} {i j : Nat} (hi : i < n) (h1 : mz_mcan n g i j) (h2 : mz_mcant n g i j) : False := by
  obtain ⟨a1, a2, a3, S, a4, a5⟩ := h1
  rcases h2 with b | b | b | ⟨S2, b1, b2⟩
  · exact a1 b
  · rw [a2] at b
    cases b
  · rw [a3] at b
    cases b
  · rw [mz_bs_one a4 b1 hi, b2] at a5
    cases a5
/-- the class lets an arrow come just where the reference does -/
theorem mz_same {n i j : Nat} {fp fc gp : Nat → Int32} (hn : n ≤ 8) (hi : i < n) (hj : j < n) (hr : mz_rel n fp fc gp) (h1 : mz_can fp fc i j) (h2 : mz_mcant n gp i j) : False := by
  obtain ⟨a1, a2, S, a3, a4⟩ := h1
  rw [mz_t_or, Bool.or_eq_false_iff] at a2
  rcases h2 with b | b | b | ⟨S2, b1, b2⟩
  · exact a1 b
  · rw [← hr.1 j hj, ← hr.2.1 i j hi hj, a2.2] at b
    cases b
  · rw [← hr.1 i hi, a2.1] at b
    cases b
  · rw [mz_below hn hj hr a3 b1 i hi, b2] at a4
    cases a4
theorem mz_same2 {n i j : Nat} {fp fc gp : Nat → Int32} (hn : n ≤ 8) (hi : i < n) (hj : j < n) (hr : mz_rel n fp fc gp) (h1 : mz_cant fp fc i j) (h2 : mz_mcan n gp i j) : False := by
  obtain ⟨a1, a2, a3, S, a4, a5⟩ := h2
  rcases h1 with b | b | ⟨S1, b1, b2⟩
  · exact a1 b
  · rw [mz_t_or, Bool.or_eq_true] at b
    rcases b with b | b
    · rw [hr.1 i hi, a3] at b
      cases b
    · rw [hr.2.1 i j hi hj, hr.1 j hj, a2] at b
      cases b
  · rw [mz_below hn hj hr b1 a4 i hi, a5] at b2
    cases b2
/-- the relation is kept where an arrow comes on both sides -/
theorem mz_rel_add {n i j : Nat} {fp fc gp : Nat → Int32} (hn : n ≤ 8) (hi : i < n) (hj : j < n) (hr : mz_rel n fp fc gp) : mz_rel n (upd fp j ((fp j) ||| (1 <<< ((nI i) &&& 31)))) (upd fc i ((fc i) ||| (1 <<< ((nI j) &&& 31)))) (upd gp j ((gp j) ||| (1 <<< ((nI i) &&& 31)))) := by
  obtain ⟨r1, r2, r3, r4⟩ := hr
  refine ⟨fun k hk => ?_, fun a b ha hb => ?_, fun k hk q hq hx => ?_, fun k hk q hq hx => ?_⟩
  · by_cases e : k = j
    · subst e
      rw [pk_us, pk_us, r1 k hk]
    · rw [pk_un e, pk_un e, r1 k hk]
  · by_cases e : a = i
    · subst e
      rw [pk_us, mz_t_or, mz_t_1 (by omega)]
      by_cases e2 : b = j
      · subst e2
        rw [pk_us, mz_t_or, mz_t_1 (by omega), r2 a b ha hb]
        simp
      · rw [pk_un e2, r2 a b ha hb]
        simp [e2]
    · rw [pk_un e]
      by_cases e2 : b = j
      · subst e2
        rw [pk_us, mz_t_or, mz_t_1 (by omega), r2 a b ha hb]
        simp [e]
      · rw [pk_un e2, r2 a b ha hb]
  · by_cases e : k = j
    · subst e
      rw [pk_us, mz_t_or, mz_t_1 (by omega), Bool.or_eq_true] at hx
      rcases hx with hx | hx
      · exact r3 k hk q hq hx
      · have : q = i := by simpa using hx
        omega
    · rw [pk_un e] at hx
      exact r3 k hk q hq hx
  · by_cases e : k = i
    · subst e
      rw [pk_us, mz_t_or, mz_t_1 (by omega), Bool.or_eq_true] at hx
      rcases hx with hx | hx
      · exact r4 k hk q hq hx
      · have : q = j := by simpa using hx
        omega
    · rw [pk_un e] at hx
      exact r4 k hk q hq hx
/-- the relation is kept where an arrow goes on both sides -/
theorem mz_rel_cut {n i j : Nat} {fp fc gp : Nat → Int32} (hn : n ≤ 8) (hi : i < n) (hj : j < n) (hr : mz_rel n fp fc gp) : mz_rel n (upd fp j ((fp j) &&& ((1 <<< ((nI i) &&& 31)) ^^^ (-1)))) (upd fc i ((fc i) &&& ((1 <<< ((nI j) &&& 31)) ^^^ (-1)))) (upd gp j ((gp j) &&& ((1 <<< ((nI i) &&& 31)) ^^^ (-1)))) := by
  obtain ⟨r1, r2, r3, r4⟩ := hr
  refine ⟨fun k hk => ?_, fun a b ha hb => ?_, fun k hk q hq hx => ?_, fun k hk q hq hx => ?_⟩
  · by_cases e : k = j
    · subst e
      rw [pk_us, pk_us, r1 k hk]
    · rw [pk_un e, pk_un e, r1 k hk]
  · by_cases e : a = i
    · subst e
      rw [pk_us, mz_t_and, mz_t_not (by omega), mz_t_1 (by omega)]
      by_cases e2 : b = j
      · subst e2
        rw [pk_us, mz_t_and, mz_t_not (by omega), mz_t_1 (by omega)]
        simp
      · rw [pk_un e2, r2 a b ha hb]
        simp [e2]
    · rw [pk_un e]
      by_cases e2 : b = j
      · subst e2
        rw [pk_us, mz_t_and, mz_t_not (by omega), mz_t_1 (by omega), r2 a b ha hb]
        simp [e]
      · rw [pk_un e2, r2 a b ha hb]
  · by_cases e : k = j
    · subst e
      rw [pk_us, mz_t_and, Bool.and_eq_true] at hx
      exact r3 k hk q hq hx.1
    · rw [pk_un e] at hx
      exact r3 k hk q hq hx
  · by_cases e : k = i
    · subst e
      rw [pk_us, mz_t_and, Bool.and_eq_true] at hx
      exact r4 k hk q hq hx.1
    · rw [pk_un e] at hx
      exact r4 k hk q hq hx
/-- one more thing on both sides, without arrows -/
theorem mz_rel_more {n : Nat} {fp fc gp gq : Nat → Int32} (hn : n < 8) (hr : mz_rel n fp fc gp) (h0 : ∀ k, k < 8 → ∀ j, j < 32 → mz_t (fp k) j = true → k < n) (hs : ∀ k, k < n → gq k = gp k) (hq : gq n = 0) : mz_rel (n + 1) fp fc gq := by
  obtain ⟨r1, r2, r3, r4⟩ := hr
  have z1 : ∀ j, j < 32 → mz_t (fp n) j = false := by
    intro j hj
    cases e : mz_t (fp n) j
    · rfl
    · have := h0 n hn j hj e
      omega
  have z2 : ∀ j, j < 32 → mz_t (fc n) j = false := by
    intro j hj
    cases e : mz_t (fc n) j
    · rfl
    · have := (r4 n hn j hj e).2
      omega
  refine ⟨fun k hk => ?_, fun a b ha hb => ?_, fun k hk q hq2 hx => ?_, fun k hk q hq2 hx => ?_⟩
  · by_cases e : k = n
    · subst e
      rw [hq]
      exact mz_t_eq (fun j hj => by rw [z1 j hj, mz_t_0])
    · rw [hs k (by omega), r1 k (by omega)]
  · by_cases e : a = n
    · subst e
      rw [z2 b (by omega)]
      cases e2 : mz_t (fp b) a
      · rfl
      · by_cases e3 : b = a
        · subst e3
          rw [z1 b (by omega)] at e2
          cases e2
        · have := r3 b (by omega) a (by omega) e2
          omega
    · by_cases e3 : b = n
      · subst e3
        rw [z1 a (by omega)]
        cases e2 : mz_t (fc a) b
        · rfl
        · have := (r4 a (by omega) b (by omega) e2).1
          omega
      · exact r2 a b (by omega) (by omega)
  · by_cases e : k = n
    · subst e
      rw [z1 q hq2] at hx
      cases hx
    · have := r3 k (by omega) q hq2 hx
      omega
  · have := r4 k hk q hq2 hx
    omega
theorem mz_back {f : Nat → Int32} {i j : Nat} (hi : i < 32) (h : mz_t (f j) i = true) : upd (upd f j ((f j) &&& ((1 <<< ((nI i) &&& 31)) ^^^ (-1)))) j (((upd f j ((f j) &&& ((1 <<< ((nI i) &&& 31)) ^^^ (-1)))) j) ||| (1 <<< ((nI i) &&& 31))) = f := by
  funext k
  by_cases e : k = j
  · subst e
    rw [pk_us, pk_us]
    apply mz_t_eq
    intro q hq
    rw [mz_t_or, mz_t_and, mz_t_not hq, mz_t_1 hi]
    by_cases e2 : q = i
    · subst e2
      rw [h]
      simp
    · simp [e2]
  · rw [pk_un e, pk_un e]
theorem mz_hf8_cut {fc : Nat → Int32} {i : Nat} {b : Int32} (h : ∀ k, k < 8 → ∀ j, j < 32 → mz_t (fc k) j = true → j < 8) : ∀ k, k < 8 → ∀ j, j < 32 → mz_t (upd fc i ((fc i) &&& b) k) j = true → j < 8 := by
  intro k hk j hj hx
  by_cases e : k = i
  · subst e
    rw [pk_us, mz_t_and, Bool.and_eq_true] at hx
    exact h k hk j hj hx.1
  · rw [pk_un e] at hx
    exact h k hk j hj hx
theorem mz_hgb_cut {n : Nat} {fp : Nat → Int32} {i : Nat} {b : Int32} (h : ∀ k, k < n → ∀ j, j < 32 → mz_t (fp k) j = true → j < n) : ∀ k, k < n → ∀ j, j < 32 → mz_t (upd fp i ((fp i) &&& b) k) j = true → j < n := by
  intro k hk j hj hx
  by_cases e : k = i
  · subst e
    rw [pk_us, mz_t_and, Bool.and_eq_true] at hx
    exact h k hk j hj hx.1
  · rw [pk_un e] at hx
    exact h k hk j hj hx
/-- no two things lead to one another -/
theorem mz_acy_two {n i j : Nat} {g : Nat → Int32} (hn : n ≤ 8) (hi : i < n) (hj : j < n) (ha : mz_acy n g) (h1 : mz_t (g j) i = true) (h2 : mz_t (g i) j = true) : False := by
  obtain ⟨C, hC⟩ : ∃ C : Int32, C = (((1 : Int32) <<< (nI i &&& 31)) ||| ((1 : Int32) <<< (nI j &&& 31))) ^^^ (-1) := ⟨_, rfl⟩
  have bC : ∀ k, k < 32 → mz_t C k = !(decide (k = i) || decide (k = j)) := by
    intro k hk
    rw [hC, mz_t_not hk, mz_t_or, mz_t_1 (by omega), mz_t_1 (by omega)]
  obtain ⟨k, hk, k1, k2⟩ := ha C ⟨i, hi, by
    intro q
    have := mz_t_y (by omega) q
    rw [bC i (by omega)] at this
    simp at this⟩
  have k3 := mz_t_n (by omega) k1
  rw [bC k (by omega)] at k3
  have k4 : k = i ∨ k = j := by
    by_cases a : k = i
    · exact Or.inl a
    · by_cases b : k = j
      · exact Or.inr b
      · simp [a, b] at k3
  rcases k4 with rfl | rfl
  · have := mz_sub.mp k2 j (by omega) h2
    have h9 : mz_t C j = true := this
    rw [bC j (by omega)] at h9
    simp at h9
  · have := mz_sub.mp k2 i (by omega) h1
    have h9 : mz_t C i = true := this
    rw [bC i (by omega)] at h9
    simp at h9
theorem mz_turn_can {n i j : Nat} {g : Nat → Int32} {S : Int32} (hn : n ≤ 8) (hi : i < n) (hj : j < n) (ha : mz_acy n g) (hb : mz_t (g j) i = true) (hS : mz_bs n (upd g j ((g j) &&& ((1 <<< ((nI i) &&& 31)) ^^^ (-1)))) i S) (hf : mz_t S j = false) : mz_mcan n (upd g j ((g j) &&& ((1 <<< ((nI i) &&& 31)) ^^^ (-1)))) j i := by
  have hne : ¬ j = i := by
    intro e
    subst e
    have h1 : mz_t (g j) j = false := mz_acy_self (by omega) hj ha
    rw [hb] at h1
    cases h1
  refine ⟨hne, ?_, ?_, S, hS, hf⟩
  · rw [pk_un (fun e => hne e.symm)]
    cases e : mz_t (g i) j
    · rfl
    · exact (mz_acy_two hn hi hj ha hb e).elim
  · rw [pk_us, mz_t_and, mz_t_not (by omega), mz_t_1 (by omega)]
    simp
/-- parents beyond n are empty -/
def mz_z8 (n : Nat) (f : Nat → Int32) : Prop := ∀ k, k < 8 → ∀ j, j < 32 → mz_t (f k) j = true → k < n
theorem mz_z8_up {n j : Nat} {f : Nat → Int32} {x : Int32} (hj : j < n) (h : mz_z8 n f) : mz_z8 n (upd f j x) := by
  intro k hk q hq hx
  by_cases e : k = j
  · omega
  · rw [pk_un e] at hx
    exact h k hk q hq hx
theorem mz_z8_more {n : Nat} {f : Nat → Int32} (h : mz_z8 n f) : mz_z8 (n + 1) f := fun k hk j hj hx => Nat.lt_succ_of_lt (h k hk j hj hx)
theorem mz_z8_0 : mz_z8 0 (fun _ => 0) := by
  intro k hk j hj hx
  rw [mz_t_0] at hx
  cases hx
theorem mz_rel_0 : mz_rel 0 (fun _ => 0) (fun _ => 0) (fun _ => 0) := by
  refine ⟨fun k hk => absurd hk (Nat.not_lt_zero k), fun i j hi => absurd hi (Nat.not_lt_zero i), fun k hk => absurd hk (Nat.not_lt_zero k), fun k hk j hj hx => ?_⟩
  rw [mz_t_0] at hx
  cases hx
theorem mz_rel_hf {n : Nat} {fp fc gp : Nat → Int32} (hn : n ≤ 8) (h : mz_rel n fp fc gp) : ∀ k, k < 8 → ∀ j, j < 32 → mz_t (fc k) j = true → j < 8 := fun k hk j hj hx => Nat.lt_of_lt_of_le (h.2.2.2 k hk j hj hx).1 hn
theorem mz_rel_hg {n : Nat} {fp fc gp : Nat → Int32} (h : mz_rel n fp fc gp) : ∀ k, k < n → ∀ j, j < 32 → mz_t (gp k) j = true → j < n := fun k hk j hj hx => h.2.2.1 k hk j hj (by rw [h.1 k hk]; exact hx)
theorem mz_rel_b {n i j : Nat} {fp fc gp : Nat → Int32} (h : mz_rel n fp fc gp) (hi : i < n) (hj : j < n) : mz_t (fc i) j = mz_t (gp j) i := by rw [h.2.1 i j hi hj, h.1 j hj]
