/-! chances: bounds of weights, the greatest common divisor, two settings together -/
def mz_bo (n : Nat) (fb : Nat → Int32) : Prop := ∀ q, q < 128 * n → mz_okp (fb q)
theorem mz_okp_a {x : Int32} (h : mz_okp x) : ∃ a : Nat, a ≤ 100 ∧ x = nI a := by
  obtain ⟨a, ha, e⟩ := mz_ix (n := 101) h.1 (fun q => by
    have h2 := h.2
    rw [Int32.le_iff_toInt_le] at h2 q
    have e1 : (nI 101).toInt = 101 := rfl
    have e2 : (100 : Int32).toInt = 100 := rfl
    rw [e1] at q
    rw [e2] at h2
    omega) (by decide)
  exact ⟨a, by omega, e⟩
theorem mz_pu_ok {n k : Nat} {fp fb : Nat → Int32} {d on : Int32} (hk : k < n) (hb : mz_bo n fb) (hr : ∀ k, k < n → ∀ on, mz_rw (fp k) on 8 < 128) : mz_okp (mz_pu fp fb d k on) := by
  unfold mz_pu
  split
  · split
    · exact ⟨by decide, by decide⟩
    · exact ⟨by decide, by decide⟩
  · have := hr k hk on
    exact hb _ (by omega)
theorem mz_fa_b {n k c : Nat} {fp fb : Nat → Int32} {d : Int32} (hk : k < n) (hb : mz_bo n fb) (hr : ∀ k, k < n → ∀ on, mz_rw (fp k) on 8 < 128) : ∃ a : Nat, a ≤ 100 ∧ mz_fac fp fb d c k = lN a := by
  obtain ⟨a, ha, e⟩ := mz_okp_a (mz_pu_ok (d := d) (on := nI c) hk hb hr)
  unfold mz_fac
  rw [e]
  split
  · exact ⟨a, ha, nI_l (by omega)⟩
  · refine ⟨100 - a, by omega, ?_⟩
    have h1 : (100 : Int32) - nI a = nI (100 - a) := pk_sub (a := 100) ha
    rw [h1]
    exact nI_l (by omega)
theorem mz_pr_b {F : Nat → Int64} {S : Int32} (m : Nat) (h : ∀ k, k < m → ∃ a : Nat, a ≤ 100 ∧ F k = lN a) : ∃ a : Nat, a ≤ 100 ^ m ∧ mz_pr F S m = lN a := by
  induction m with
  | zero => exact ⟨1, Nat.le_refl _, rfl⟩
  | succ m ih =>
    obtain ⟨a, ha, e⟩ := ih (fun k hk => h k (by omega))
    obtain ⟨b, hb, e2⟩ := h m (by omega)
    show ∃ a, _ ∧ (if mz_t S m = true then mz_pr F S m * F m else mz_pr F S m) = _
    have hp : 100 ^ (m + 1) = 100 ^ m * 100 := Nat.pow_succ 100 m
    split
    · exact ⟨a * b, by rw [hp]; exact Nat.mul_le_mul ha hb, by rw [e, e2, lN_mul]⟩
    · exact ⟨a, by omega, e⟩
theorem mz_wt_b {n c : Nat} {fp fb : Nat → Int32} {d : Int32} (hn : n ≤ 8) (hb : mz_bo n fb) (hr : ∀ k, k < n → ∀ on, mz_rw (fp k) on 8 < 128) : ∃ a : Nat, a ≤ 100 ^ 8 ∧ mz_wt n fp fb d c = lN a := by
  obtain ⟨a, ha, e⟩ := mz_pr_b (S := nI (2 ^ n - 1)) n (fun k hk => mz_fa_b (c := c) (d := d) hk hb hr)
  exact ⟨a, Nat.le_trans ha (Nat.pow_le_pow_right (by decide) hn), e⟩
theorem mz_su_b {g : Nat → Int64} {B : Nat} (m : Nat) (h : ∀ c, c < m → ∃ a : Nat, a ≤ B ∧ g c = lN a) : ∃ a : Nat, a ≤ m * B ∧ mz_su g m = lN a := by
  induction m with
  | zero => exact ⟨0, Nat.zero_le _, rfl⟩
  | succ m ih =>
    obtain ⟨a, ha, e⟩ := ih (fun c hc => h c (by omega))
    obtain ⟨b, hb, e2⟩ := h m (by omega)
    exact ⟨a + b, by rw [Nat.succ_mul]; omega, by show mz_su g m + g m = _; rw [e, e2, lN_add]⟩
/-- a sum of weights of some cases -/
theorem mz_ws_b {n : Nat} {fp fb : Nat → Int32} {d : Int32} {P : Nat → Bool} (hn : n ≤ 8) (hb : mz_bo n fb) (hr : ∀ k, k < n → ∀ on, mz_rw (fp k) on 8 < 128) : ∃ a : Nat, a < 2 ^ 62 ∧ mz_su (fun c => if P c = true then mz_wt n fp fb d c else 0) (2 ^ n) = lN a := by
  obtain ⟨a, ha, e⟩ := mz_su_b (g := fun c => if P c = true then mz_wt n fp fb d c else 0) (B := 100 ^ 8) (2 ^ n) (fun c _ => by
    show ∃ a : Nat, a ≤ 100 ^ 8 ∧ (if P c = true then mz_wt n fp fb d c else 0) = lN a
    split
    · exact mz_wt_b hn hb hr
    · exact ⟨0, Nat.zero_le _, rfl⟩)
  have h1 : 2 ^ n * 100 ^ 8 ≤ 256 * 100 ^ 8 := Nat.mul_le_mul_right _ (mz_2n hn)
  have h2 : 256 * 100 ^ 8 < 2 ^ 62 := by decide
  exact ⟨a, by omega, e⟩
theorem mz_cs_b {n : Nat} {fp fb : Nat → Int32} {d h o : Int32} (hn : n ≤ 8) (hb : mz_bo n fb) (hr : ∀ k, k < n → ∀ on, mz_rw (fp k) on 8 < 128) : ∃ a : Nat, a < 2 ^ 62 ∧ mz_cs (mz_wt n fp fb d) h o n = lN a := mz_ws_b (P := fun c => mz_mtc h o c n) hn hb hr
/-- the cases that agree with two settings -/
def mz_c2 (g : Nat → Int64) (h o h1 o1 : Int32) (k : Nat) : Int64 := mz_su (fun c => if (mz_mtc h o c k && mz_mtc h1 o1 c k) = true then g c else 0) (2 ^ k)
theorem mz_c2_b {n : Nat} {fp fb : Nat → Int32} {d h o h1 o1 : Int32} (hn : n ≤ 8) (hb : mz_bo n fb) (hr : ∀ k, k < n → ∀ on, mz_rw (fp k) on 8 < 128) : ∃ a : Nat, a < 2 ^ 62 ∧ mz_c2 (mz_wt n fp fb d) h o h1 o1 n = lN a := mz_ws_b (P := fun c => (mz_mtc h o c n && mz_mtc h1 o1 c n)) hn hb hr
/-! two settings -/
theorem mz_t_shr8 {s : Int32} {j : Nat} (hj : j < 8) : mz_t (s >>> ((8 : Int32) &&& 31)) j = mz_t s (8 + j) := mz_t_shr (k := 8) (by decide) (by omega)
theorem mz_set_or {n : Nat} {s g : Int32} (h1 : mz_stg n s) (h2 : mz_stg n g) : mz_stg n (s ||| g) := by
  refine ⟨fun j hj hj2 => ?_, fun j hj hx => ?_, fun j hj hx => ?_⟩
  · rw [mz_t_or, h1.1 j hj hj2, h2.1 j hj hj2]
    rfl
  · rw [mz_t_or, Bool.or_eq_true] at hx
    exact hx.elim (h1.2.1 j hj) (h2.2.1 j hj)
  · rw [mz_t_or, Bool.or_eq_true] at hx ⊢
    exact hx.elim (fun q => Or.inl (h1.2.2 j hj q)) (fun q => Or.inr (h2.2.2 j hj q))
/-- do two settings say otherwise of one thing? -/
def mz_clx (s g : Int32) : Prop := ∃ j, j < 8 ∧ mz_t s j = true ∧ mz_t g j = true ∧ ¬ mz_t s (8 + j) = mz_t g (8 + j)
def mz_ce (s g : Int32) : Int32 := ((s &&& 255) &&& (g &&& 255)) &&& (((s >>> ((8 : Int32) &&& 31)) &&& 255) ^^^ ((g >>> ((8 : Int32) &&& 31)) &&& 255))
theorem mz_ce_t {s g : Int32} {j : Nat} (hj : j < 8) : mz_t (mz_ce s g) j = ((mz_t s j && mz_t g j) && (mz_t s (8 + j) ^^ mz_t g (8 + j))) := by
  unfold mz_ce
  rw [mz_t_and, mz_t_and, mz_t_xor, mz_t_heap hj, mz_t_heap hj, mz_t_ones hj, mz_t_ones hj]
theorem mz_clx_y {s g : Int32} (h : ¬ mz_ce s g = 0) : mz_clx s g := by
  apply Classical.byContradiction
  intro hno
  apply h
  rw [mz_zero]
  intro j hj
  by_cases h8 : j < 8
  · rw [mz_ce_t h8]
    cases a : mz_t s j
    · rfl
    · cases b : mz_t g j
      · rfl
      · have : mz_t s (8 + j) = mz_t g (8 + j) := Classical.byContradiction (fun q => hno ⟨j, h8, a, b, q⟩)
        rw [this]
        simp
  · unfold mz_ce
    rw [mz_t_and, mz_t_and, mz_t_and (a := s), mz_t_255 hj]
    simp [h8]
theorem mz_clx_n {s g : Int32} (h : mz_ce s g = 0) : ¬ mz_clx s g := by
  intro ⟨j, h8, a, b, c⟩
  have h1 := mz_zero.mp h j (by omega)
  rw [mz_ce_t h8, a, b] at h1
  cases e1 : mz_t s (8 + j) <;> cases e2 : mz_t g (8 + j) <;> simp_all
theorem mz_mt_set {n c : Nat} {s : Int32} (hn : n ≤ 8) : mz_mtc (s &&& 255) ((s >>> ((8 : Int32) &&& 31)) &&& 255) c n = true ↔ ∀ j, j < n → mz_t s j = true → c.testBit j = mz_t s (8 + j) := by
  rw [mz_mt_iff]
  constructor
  · intro h j hj hx
    have h1 := h j hj (by rw [mz_t_heap (by omega)]; exact hx)
    rw [mz_t_ones (by omega)] at h1
    exact h1
  · intro h j hj hx
    rw [mz_t_heap (by omega)] at hx
    rw [mz_t_ones (by omega)]
    exact h j hj hx
theorem mz_both_0 {n : Nat} {s g : Int32} {f : Nat → Int64} (hn : n ≤ 8) (hs : mz_stg n s) (hc : mz_clx s g) : mz_c2 f (s &&& 255) ((s >>> ((8 : Int32) &&& 31)) &&& 255) (g &&& 255) ((g >>> ((8 : Int32) &&& 31)) &&& 255) n = 0 := by
  obtain ⟨j, h8, a, b, e⟩ := hc
  have hj := hs.2.1 j h8 a
  unfold mz_c2
  have z : ∀ m, mz_su (fun c => if (mz_mtc (s &&& 255) ((s >>> ((8 : Int32) &&& 31)) &&& 255) c n && mz_mtc (g &&& 255) ((g >>> ((8 : Int32) &&& 31)) &&& 255) c n) = true then f c else 0) m = 0 := by
    intro m
    induction m with
    | zero => rfl
    | succ m ih =>
      show mz_su _ m + (if (mz_mtc (s &&& 255) ((s >>> ((8 : Int32) &&& 31)) &&& 255) m n && mz_mtc (g &&& 255) ((g >>> ((8 : Int32) &&& 31)) &&& 255) m n) = true then f m else 0) = 0
      rw [ih, if_neg (by
        intro q
        rw [Bool.and_eq_true] at q
        have q1 := (mz_mt_set hn).mp q.1 j hj a
        have q2 := (mz_mt_set hn).mp q.2 j hj b
        rw [q1] at q2
        exact e q2), Int64.add_zero]
  exact z _
theorem mz_both_1 {n : Nat} {s g : Int32} {f : Nat → Int64} (hn : n ≤ 8) (hs : mz_stg n s) (hg : mz_stg n g) (hc : ¬ mz_clx s g) : mz_cs f ((s ||| g) &&& 255) (((s ||| g) >>> ((8 : Int32) &&& 31)) &&& 255) n = mz_c2 f (s &&& 255) ((s >>> ((8 : Int32) &&& 31)) &&& 255) (g &&& 255) ((g >>> ((8 : Int32) &&& 31)) &&& 255) n := by
  unfold mz_cs mz_c2
  apply mz_su_cg
  intro c _
  have h1 : mz_mtc ((s ||| g) &&& 255) (((s ||| g) >>> ((8 : Int32) &&& 31)) &&& 255) c n = (mz_mtc (s &&& 255) ((s >>> ((8 : Int32) &&& 31)) &&& 255) c n && mz_mtc (g &&& 255) ((g >>> ((8 : Int32) &&& 31)) &&& 255) c n) := by
    have ns : ∀ j, j < 8 → mz_t s j = false → mz_t s (8 + j) = false := by
      intro j hj hx
      cases e : mz_t s (8 + j)
      · rfl
      · rw [hs.2.2 j hj e] at hx
        cases hx
    have ng : ∀ j, j < 8 → mz_t g j = false → mz_t g (8 + j) = false := by
      intro j hj hx
      cases e : mz_t g (8 + j)
      · rfl
      · rw [hg.2.2 j hj e] at hx
        cases hx
    have both : ∀ j, j < 8 → mz_t s j = true → mz_t g j = true → mz_t s (8 + j) = mz_t g (8 + j) := fun j hj a b => Classical.byContradiction (fun q => hc ⟨j, hj, a, b, q⟩)
    rw [Bool.eq_iff_iff, Bool.and_eq_true, mz_mt_set hn, mz_mt_set hn, mz_mt_set hn]
    constructor
    · intro h
      constructor
      · intro j hj hx
        have h2 := h j hj (by rw [mz_t_or, hx]; rfl)
        rw [h2, mz_t_or]
        cases e : mz_t g j
        · rw [ng j (by omega) e, Bool.or_false]
        · rw [both j (by omega) hx e, Bool.or_self]
      · intro j hj hx
        have h2 := h j hj (by rw [mz_t_or, hx, Bool.or_true])
        rw [h2, mz_t_or]
        cases e : mz_t s j
        · rw [ns j (by omega) e, Bool.false_or]
        · rw [both j (by omega) e hx, Bool.or_self]
    · intro ⟨ha, hb⟩ j hj hx
      rw [mz_t_or]
      cases e : mz_t s j
      · rw [mz_t_or, e, Bool.false_or] at hx
        rw [ns j (by omega) e, Bool.false_or]
        exact hb j hj hx
      · rw [ha j hj e]
        cases e2 : mz_t g j
        · rw [ng j (by omega) e2, Bool.or_false]
        · rw [both j (by omega) e e2, Bool.or_self]
  rw [h1]
theorem mz_c2_cond {n c : Nat} {s : Int32} (hn : n ≤ 8) (hc : c < 2 ^ n) (hs : mz_stg n s) (h : ¬ ((nI c ^^^ (s >>> ((8 : Int32) &&& 31))) &&& s) &&& 255 = 0) : mz_mtc (s &&& 255) ((s >>> ((8 : Int32) &&& 31)) &&& 255) c n = false := by
  cases e : mz_mtc (s &&& 255) ((s >>> ((8 : Int32) &&& 31)) &&& 255) c n
  · rfl
  · exact absurd ((mz_cond hn hc hs).mpr e) h
/-! Euclid's way, and how long it is -/
def mz_fbA : Nat → Nat → Nat → Nat
  | 0, a, _ => a
  | k + 1, a, b => mz_fbA k b (a + b)
def mz_fib (k : Nat) : Nat := mz_fbA k 0 1
theorem mz_fbA_s (k a b : Nat) : mz_fbA (k + 2) a b = mz_fbA (k + 1) a b + mz_fbA k a b := by
  induction k generalizing a b with
  | zero =>
    show a + b = b + a
    omega
  | succ k ih => exact ih b (a + b)
theorem mz_fib_s (k : Nat) : mz_fib (k + 2) = mz_fib (k + 1) + mz_fib k := mz_fbA_s k 0 1
theorem mz_fib_100 : 2 ^ 63 < mz_fib 100 := by decide +kernel
def mz_eu (a b i : Nat) (X Y : Int64) : Prop := (i = 0 ∧ X = lN a ∧ Y = lN b) ∨ (∃ k x y : Nat, i = k + 1 ∧ X = lN x ∧ Y = lN y ∧ y < x ∧ x < 2 ^ 63 ∧ Nat.gcd x y = Nat.gcd a b ∧ mz_fib (k + 1) * x + mz_fib k * y ≤ b)
theorem mz_eu_s {a b i : Nat} {X Y : Int64} (ha : a < 2 ^ 63) (hb : b < 2 ^ 63) (h : mz_eu a b i X Y) (hY : ¬ Y = 0) : mz_eu a b (i + 1) Y (X - X / Y * Y) := by
  rcases h with ⟨h1, h2, h3⟩ | ⟨k, x, y, h1, h2, h3, h4, h5, h6, h7⟩
  · subst h1
    subst h2
    subst h3
    have hb0 : 0 < b := by
      rcases Nat.eq_zero_or_pos b with q | q
      · subst q
        exact absurd rfl hY
      · exact q
    refine Or.inr ⟨0, b, a % b, rfl, rfl, pk_lRem ha hb0 hb, Nat.mod_lt _ hb0, hb, ?_, ?_⟩
    · rw [Nat.gcd_comm b (a % b), ← Nat.gcd_rec b a, Nat.gcd_comm]
    · show 1 * b + 0 * _ ≤ b
      omega
  · subst h2
    subst h3
    have hy0 : 0 < y := by
      rcases Nat.eq_zero_or_pos y with q | q
      · subst q
        exact absurd rfl hY
      · exact q
    refine Or.inr ⟨k + 1, y, x % y, by omega, rfl, pk_lRem h5 hy0 (by omega), Nat.mod_lt _ hy0, by omega, ?_, ?_⟩
    · rw [Nat.gcd_comm y (x % y), ← Nat.gcd_rec y x, Nat.gcd_comm, h6]
    · rw [show k + 1 + 1 = k + 2 from rfl, mz_fib_s]
      have hx : y + x % y ≤ x := by
        have e := Nat.div_add_mod x y
        have q : 1 ≤ x / y := (Nat.le_div_iff_mul_le hy0).mpr (by omega)
        have q2 : y * 1 ≤ y * (x / y) := Nat.mul_le_mul_left y q
        omega
      have hm : mz_fib (k + 1) * (y + x % y) ≤ mz_fib (k + 1) * x := Nat.mul_le_mul_left _ hx
      rw [Nat.mul_add] at hm
      rw [Nat.add_mul]
      omega
theorem mz_eu_end {a b i : Nat} {X Y : Int64} (hb : b < 2 ^ 63) (h : mz_eu a b i X Y) (hY : Y = 0) : X = lN (Nat.gcd a b) := by
  rcases h with ⟨h1, h2, h3⟩ | ⟨k, x, y, h1, h2, h3, h4, h5, h6, h7⟩
  · rw [h3] at hY
    have e : b = 0 := (pk_lEQ hb (by decide)).mp hY
    rw [h2, e, Nat.gcd_zero_right]
  · rw [h3] at hY
    have e : y = 0 := (pk_lEQ (by omega) (by decide)).mp hY
    rw [h2, ← h6, e, Nat.gcd_zero_right]
theorem mz_eu_100 {a b : Nat} {X Y : Int64} (hb : b < 2 ^ 63) (h : mz_eu a b 100 X Y) : False := by
  rcases h with ⟨h1, _⟩ | ⟨k, x, y, h1, h2, h3, h4, h5, h6, h7⟩
  · omega
  · have e : k = 99 := by omega
    subst e
    have f := mz_fib_100
    have hm : mz_fib 100 * 1 ≤ mz_fib 100 * x := Nat.mul_le_mul_left _ (by omega)
    have h8 : mz_fib (99 + 1) * x = mz_fib 100 * x := rfl
    omega
def mz_es (a b : Nat) (X Y : Int64) : Prop := ∃ x y : Nat, X = lN x ∧ Y = lN y ∧ x < 2 ^ 63 ∧ y < 2 ^ 63 ∧ Nat.gcd x y = Nat.gcd a b
theorem mz_es_s {a b : Nat} {X Y : Int64} (h : mz_es a b X Y) (hY : ¬ Y = 0) : mz_es a b Y (X - X / Y * Y) := by
  obtain ⟨x, y, rfl, rfl, h1, h2, h3⟩ := h
  have hy0 : 0 < y := by
    rcases Nat.eq_zero_or_pos y with q | q
    · subst q
      exact absurd rfl hY
    · exact q
  refine ⟨y, x % y, rfl, pk_lRem h1 hy0 h2, h2, ?_, ?_⟩
  · have := Nat.mod_lt x hy0
    omega
  · rw [Nat.gcd_comm y (x % y), ← Nat.gcd_rec y x, Nat.gcd_comm, h3]
theorem mz_es_end {a b : Nat} {X Y : Int64} (h : mz_es a b X Y) (hY : Y = 0) : X = lN (Nat.gcd a b) := by
  obtain ⟨x, y, rfl, rfl, h1, h2, h3⟩ := h
  have e : y = 0 := (pk_lEQ h2 (by decide)).mp hY
  rw [← h3, e, Nat.gcd_zero_right]
/-- the common divisor of two sums -/
def mz_gl (A B : Int64) : Int64 := lN (Nat.gcd A.toInt.toNat B.toInt.toNat)
theorem mz_tn {a : Nat} (h : a < 2 ^ 63) : (lN a).toInt.toNat = a := by
  rw [pk_lT h]
  omega
theorem mz_gl_1 {A B : Int64} {a b : Nat} (hA : A = lN a) (hB : B = lN b) (ha : a < 2 ^ 63) (hb : b < 2 ^ 63) (h0 : ¬ A = 0) : (if lN (Nat.gcd a b) < 1 then 1 else lN (Nat.gcd a b)) = mz_gl A B := by
  have a0 : 0 < a := by
    rcases Nat.eq_zero_or_pos a with q | q
    · subst q
      exact absurd hA h0
    · exact q
  have g0 := Nat.gcd_pos_of_pos_left b a0
  have g1 := Nat.gcd_le_left b a0
  have hlt : ¬ lN (Nat.gcd a b) < 1 := fun q => by
    have := (pk_lLT (a := Nat.gcd a b) (b := 1) (by omega) (by decide)).mp q
    omega
  rw [if_neg hlt]
  unfold mz_gl
  rw [hA, hB, mz_tn ha, mz_tn hb]
theorem mz_gl_2 {A B : Int64} {a b : Nat} (hA : A = lN a) (hB : B = lN b) (ha : a < 2 ^ 63) (hb : b < 2 ^ 63) : lN (Nat.gcd b a) = mz_gl A B := by
  unfold mz_gl
  rw [hA, hB, mz_tn ha, mz_tn hb, Nat.gcd_comm]
theorem mz_lcg {x y : Int64} : 0 < lg_cmp x y ↔ y < x := by
  unfold lg_cmp
  by_cases h : x > y
  · rw [if_pos h]
    exact ⟨fun _ => h, fun _ => by decide⟩
  · rw [if_neg h]
    constructor
    · intro q
      exfalso
      split at q
      · exact absurd q (by decide)
      · exact absurd q (by decide)
    · intro q
      exact absurd q h
theorem mz_pos0 {A : Int64} {a : Nat} (hA : A = lN a) (ha : a < 2 ^ 63) (h : 0 < lg_cmp A 0) : ¬ A = 0 := by
  intro q
  rw [mz_lcg, q] at h
  exact absurd h (by decide)
theorem mz_npos0 {A : Int64} {a : Nat} (hA : A = lN a) (ha : a < 2 ^ 63) (h : ¬ 0 < lg_cmp A 0) : A = 0 := by
  rw [mz_lcg, hA] at h
  have h1 : ¬ 0 < a := fun q => h ((pk_lLT (a := 0) (b := a) (by decide) ha).mpr q)
  rw [hA, show a = 0 by omega]
  rfl
theorem mz_gl_0 {A B : Int64} {a b : Nat} (hA : A = lN a) (hB : B = lN b) (ha : a < 2 ^ 63) (hb : b < 2 ^ 63) (h0 : ¬ A = 0) : ¬ mz_gl A B = 0 := by
  have a0 : 0 < a := by
    rcases Nat.eq_zero_or_pos a with q | q
    · subst q
      exact absurd hA h0
    · exact q
  have g0 := Nat.gcd_pos_of_pos_left b a0
  have g1 := Nat.gcd_le_left b a0
  unfold mz_gl
  rw [hA, hB, mz_tn ha, mz_tn hb]
  intro q
  have := (pk_lEQ (a := Nat.gcd a b) (b := 0) (by omega) (by decide)).mp q
  omega
theorem mz_ok50 : mz_okp 50 := ⟨by decide, by decide⟩
theorem mz_bo_0 {fb : Nat → Int32} : mz_bo 0 fb := fun q hq => absurd hq (by omega)
theorem mz_bo_more {n : Nat} {fb gb : Nat → Int32} (h : mz_bo n fb) (hb : mz_bkp fb gb n 128) : mz_bo (n + 1) gb := by
  intro q hq
  rw [hb q]
  split
  · exact mz_ok50
  · exact h q (by omega)
theorem mz_bo_bk {n j : Nat} {fb gb : Nat → Int32} (h : mz_bo n fb) (hb : mz_bkp fb gb j 128) : mz_bo n gb := by
  intro q hq
  rw [hb q]
  split
  · exact mz_ok50
  · exact h q hq
theorem mz_bo_w {n k : Nat} {fb : Nat → Int32} {x : Int32} (h : mz_bo n fb) (hx : mz_okp x) : mz_bo n (upd fb k x) := by
  intro q hq
  by_cases e : q = k
  · subst e
    rw [pk_us]
    exact hx
  · rw [pk_un e]
    exact h q hq
theorem mz_bo_cg {n : Nat} {a b : Nat → Int32} (h : mz_be n a b) (hb : mz_bo n a) : mz_bo n b := fun q hq => by
  rw [← h q hq]
  exact hb q hq
